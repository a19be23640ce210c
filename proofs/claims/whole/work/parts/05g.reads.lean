noncomputable def f_X5_row (b_kinds : Nat → Int32) (b_sizes : Nat → Int32) (x1 : Int32) (x2 : Int32) : Option (Int32) := (f_X5_isSlot x1).bind (fun z1 => if z1 = 0 then (some ((-1000000001))) else ((f_X5_isIn x2 0 1).bind (fun z3 => if z3 = 0 then (some ((-1000000002))) else (if x2 = 0 then ((f_X0_kindOf b_kinds x1).bind (fun z11 => some (z11))) else ((f_X0_holdsArray b_kinds x1).bind (fun z6 => if z6 = 0 then ((f_X0_kindOf b_kinds x1).bind (fun z8 => if z8 = 14 then (some ((-1))) else (some ((-2))))) else ((f_X0_sizeOf b_sizes x1).bind (fun z10 => some (z10)))))))))
set_option maxHeartbeats 4000000 in
set_option maxRecDepth 100000 in
theorem c_X5_row (l : Launch) (D : va_G) (cI cJ cZ cQ : ClassId) (bs sz : Nat) (x : Nat → Nat) (b : Nat → Nat) (h : Nat → Nat) (k : Nat → Nat) (r : Nat → Nat) (q : Nat → Nat) (v : Nat → Nat) (x_random : Int32) (b_keyCount : Int32) (b_sheetSet : Int32) (b_handSort : Int32) (b_handNumber : Int64) (b_kinds : Nat → Int32) (b_sizes : Nat → Int32) (x1 : Int32) (x2 : Int32) (zr : Int32) (hf : f_X5_row b_kinds b_sizes x1 x2 = some zr) : Met l yX5_row wsX5_row { frames := 2, cells := 0, slots := 0, locals := 42 } (va_Pc [.ref (x 0), .int x1, .int x2] (Pr D cI cJ cZ cQ bs sz [oX5 x b h k r q v x_random, oX0 b b_keyCount b_sheetSet b_handSort b_handNumber, aI cI (b 1) 6 b_kinds, aI cI (b 2) 6 b_sizes])) (QrI zr) 0 0 no := by
  refine stM (cc := cX5_row) (maxL := 3) (ret := (some .int)) (by decide +kernel) rfl (Nat.le_of_ble_eq_true rfl) ?_
  intro p e s m args below meth c C0 hr hlocks hname hsz hP hDb hE ls hl
  have hAb : ∀ q, no q → bs ≤ q := fun _ h => h.elim
  obtain ⟨hx, hb, hml, hown, hts⟩ := id C0
  have hown : s.vm.findClass RX5 = some m.cls := hown
  obtain ⟨hK, hNW, -, tw, hZ, hT⟩ := id hE
  have hl : lv_has ls 3 [(0, .ref (x 0)), (1, .int x1), (2, .int x2)] := hl
  have hS : va_S no s.heap s.heap [] := va_S.rf
  have hI_X5 := (show ∀ w ∈ wsX50, w ∈ wsX5_row by decide +kernel)
  have gf10 := hts (.fieldLink RX5 10 "RowRanks" "bench" "LRowRanks$Bench;") (by decide +kernel)
  have gk94 := hts (.constant RX5 94 (-1000000002)) (by decide +kernel)
  have gk99 := hts (.constant RX5 99 (-1000000001)) (by decide +kernel)
  unfold f_X5_row at hf
  have go : ∀ (H : Heap) (locs : List Loc), va_P D vwCl [oX5 x b h k r q v x_random, oX0 b b_keyCount b_sheetSet b_handSort b_handNumber, aI cI (b 1) 6 b_kinds, aI cI (b 2) 6 b_sizes] H → va_S no s.heap H locs → W p l e { frames := 2, cells := 0, slots := 0, locals := 42 } s m args below meth c H locs 0 0 (MQ below (QrI zr) args s 0 0 no) (F0 m 0 ls []) := by
    intro H locs hP hS
    refine lv_iload_n hx hb dX5_row_0 rfl (lv_at hl 1 rfl) ?_
    obtain ⟨z1, hz1, hf⟩ := obd hf
    refine kZ (runS (As := [.int x1]) (rest := []) C0 hE hAb hP (hDb.addr rfl) hS [] (wc := []) (by decide) rfl (c_X5_isSlot l D cI cJ cZ cQ bs H.size x1 z1 hz1) (va_cwS 1 hts gX5_row_X5_isSlot rfl rfl rfl (by decide +kernel) ⟨Nat.le_of_ble_eq_true rfl, Nat.le_of_ble_eq_true rfl⟩) rfl hl.1 rfl (Nat.le_of_ble_eq_true rfl) dX5_row_1 ⟨Nat.le_of_ble_eq_true rfl, Nat.le_of_ble_eq_true rfl⟩) hS hP (fun bz1 H locs hP hS => ?_)
    refine lv_if_ne (tgt := 10) hx hb dX5_row_4 (by decide) (fun c2 => ?_) (fun c2 => ?_)
    · replace hf := oel c2 hf
      refine lv_iload_n hx hb dX5_row_10 rfl (lv_at hl 2 rfl) ?_
      refine lv_iconst (v := 0) hx hb dX5_row_11 (by decide) ?_
      refine lv_iconst (v := 1) hx hb dX5_row_12 (by decide) ?_
      obtain ⟨z3, hz3, hf⟩ := obd hf
      refine kZ (runS (As := [.int x2, .int 0, .int 1]) (rest := []) C0 hE hAb hP (hDb.addr rfl) hS [] (wc := []) (by decide) rfl (c_X5_isIn l D cI cJ cZ cQ bs H.size x2 0 1 z3 hz3) (va_cwS 3 hts gX5_row_X5_isIn rfl rfl rfl (by decide +kernel) ⟨Nat.le_of_ble_eq_true rfl, Nat.le_of_ble_eq_true rfl⟩) rfl hl.1 rfl (Nat.le_of_ble_eq_true rfl) dX5_row_13 ⟨Nat.le_of_ble_eq_true rfl, Nat.le_of_ble_eq_true rfl⟩) hS hP (fun bz3 H locs hP hS => ?_)
      refine lv_if_ne (tgt := 22) hx hb dX5_row_16 (by decide) (fun c4 => ?_) (fun c4 => ?_)
      · replace hf := oel c4 hf
        refine lv_iload_n hx hb dX5_row_22 rfl (lv_at hl 2 rfl) ?_
        refine lv_if_ne (tgt := 35) hx hb dX5_row_23 (by decide) (fun c5 => ?_) (fun c5 => ?_)
        · replace hf := oel c5 hf
          refine lv_aload_n hx hb dX5_row_35 rfl (lv_at hl 0 rfl) ?_
          refine va_get (D := D) (ci := 5) (v := .ref (b 0)) (C := RX5) (T := TX5) (N := 9) hx hb hts hI_X5 hown hK hP 0 rfl rfl 0 (by decide) gf10 (fun _ h9 => h9) rfl dX5_row_36 ?_
          refine lv_iload_n hx hb dX5_row_39 rfl (lv_at hl 1 rfl) ?_
          obtain ⟨z6, hz6, hf⟩ := obd hf
          refine kZ (runV (As := [.int x1]) (rest := []) C0 hE hAb hP (hDb.addr rfl) hS [1, 2] (wc := [oX0 b b_keyCount b_sheetSet b_handSort b_handNumber, aI cI (b 1) 6 b_kinds]) (by decide) rfl 1 rfl rfl (c_X0_holdsArray l D cI cJ cZ cQ bs H.size b b_keyCount b_sheetSet b_handSort b_handNumber b_kinds x1 z6 hz6) (cwV 1 hts gX5_row_X0_holdsArray rfl rfl rfl (by decide +kernel) ⟨Nat.le_of_ble_eq_true rfl, Nat.le_of_ble_eq_true rfl⟩) rfl hl.1 rfl (Nat.le_of_ble_eq_true rfl) dX5_row_40 ⟨Nat.le_of_ble_eq_true rfl, Nat.le_of_ble_eq_true rfl⟩) hS hP (fun bz6 H locs hP hS => ?_)
          refine lv_if_eq (tgt := 55) hx hb dX5_row_43 (by decide) (fun c7 => ?_) (fun c7 => ?_)
          · replace hf := oif c7 hf
            refine lv_aload_n hx hb dX5_row_55 rfl (lv_at hl 0 rfl) ?_
            refine va_get (D := D) (ci := 5) (v := .ref (b 0)) (C := RX5) (T := TX5) (N := 9) hx hb hts hI_X5 hown hK hP 0 rfl rfl 0 (by decide) gf10 (fun _ h9 => h9) rfl dX5_row_56 ?_
            refine lv_iload_n hx hb dX5_row_59 rfl (lv_at hl 1 rfl) ?_
            obtain ⟨z8, hz8, hf⟩ := obd hf
            refine kI (runV (As := [.int x1]) (rest := []) C0 hE hAb hP (hDb.addr rfl) hS [1, 2] (wc := [oX0 b b_keyCount b_sheetSet b_handSort b_handNumber, aI cI (b 1) 6 b_kinds]) (by decide) rfl 1 rfl rfl (c_X0_kindOf l D cI cJ cZ cQ bs H.size b b_keyCount b_sheetSet b_handSort b_handNumber b_kinds x1 z8 hz8) (cwV 1 hts gX5_row_X0_kindOf rfl rfl rfl (by decide +kernel) ⟨Nat.le_of_ble_eq_true rfl, Nat.le_of_ble_eq_true rfl⟩) rfl hl.1 rfl (Nat.le_of_ble_eq_true rfl) dX5_row_60 ⟨Nat.le_of_ble_eq_true rfl, Nat.le_of_ble_eq_true rfl⟩) hS hP (fun H locs hP hS => ?_)
            refine lv_bipush (v := 14) hx hb dX5_row_63 (by decide) ?_
            refine lv_icmp_ne (tgt := 72) hx hb dX5_row_65 (by decide) (fun c9 => ?_) (fun c9 => ?_)
            · replace hf := oel c9 hf
              refine lv_bipush (v := (-2)) hx hb dX5_row_72 (by decide) ?_
              have er := Option.some.inj hf
              exact rtI hx hb hr hS dX5_row_74 er hlocks
            · replace hf := oif c9 hf
              refine lv_iconst (v := (-1)) hx hb dX5_row_68 (by decide) ?_
              refine lv_goto (tgt := 74) hx hb dX5_row_69 (by decide) ?_
              have er := Option.some.inj hf
              exact rtI hx hb hr hS dX5_row_74 er hlocks
          · replace hf := oel c7 hf
            refine lv_aload_n hx hb dX5_row_46 rfl (lv_at hl 0 rfl) ?_
            refine va_get (D := D) (ci := 5) (v := .ref (b 0)) (C := RX5) (T := TX5) (N := 9) hx hb hts hI_X5 hown hK hP 0 rfl rfl 0 (by decide) gf10 (fun _ h9 => h9) rfl dX5_row_47 ?_
            refine lv_iload_n hx hb dX5_row_50 rfl (lv_at hl 1 rfl) ?_
            obtain ⟨z10, hz10, hf⟩ := obd hf
            refine kI (runV (As := [.int x1]) (rest := []) C0 hE hAb hP (hDb.addr rfl) hS [1, 3] (wc := [oX0 b b_keyCount b_sheetSet b_handSort b_handNumber, aI cI (b 2) 6 b_sizes]) (by decide) rfl 1 rfl rfl (c_X0_sizeOf l D cI cJ cZ cQ bs H.size b b_keyCount b_sheetSet b_handSort b_handNumber b_sizes x1 z10 hz10) (cwV 1 hts gX5_row_X0_sizeOf rfl rfl rfl (by decide +kernel) ⟨Nat.le_of_ble_eq_true rfl, Nat.le_of_ble_eq_true rfl⟩) rfl hl.1 rfl (Nat.le_of_ble_eq_true rfl) dX5_row_51 ⟨Nat.le_of_ble_eq_true rfl, Nat.le_of_ble_eq_true rfl⟩) hS hP (fun H locs hP hS => ?_)
            have er := Option.some.inj hf
            exact rtI hx hb hr hS dX5_row_54 er hlocks
        · replace hf := oif c5 hf
          refine lv_aload_n hx hb dX5_row_26 rfl (lv_at hl 0 rfl) ?_
          refine va_get (D := D) (ci := 5) (v := .ref (b 0)) (C := RX5) (T := TX5) (N := 9) hx hb hts hI_X5 hown hK hP 0 rfl rfl 0 (by decide) gf10 (fun _ h9 => h9) rfl dX5_row_27 ?_
          refine lv_iload_n hx hb dX5_row_30 rfl (lv_at hl 1 rfl) ?_
          obtain ⟨z11, hz11, hf⟩ := obd hf
          refine kI (runV (As := [.int x1]) (rest := []) C0 hE hAb hP (hDb.addr rfl) hS [1, 2] (wc := [oX0 b b_keyCount b_sheetSet b_handSort b_handNumber, aI cI (b 1) 6 b_kinds]) (by decide) rfl 1 rfl rfl (c_X0_kindOf l D cI cJ cZ cQ bs H.size b b_keyCount b_sheetSet b_handSort b_handNumber b_kinds x1 z11 hz11) (cwV 1 hts gX5_row_X0_kindOf rfl rfl rfl (by decide +kernel) ⟨Nat.le_of_ble_eq_true rfl, Nat.le_of_ble_eq_true rfl⟩) rfl hl.1 rfl (Nat.le_of_ble_eq_true rfl) dX5_row_31 ⟨Nat.le_of_ble_eq_true rfl, Nat.le_of_ble_eq_true rfl⟩) hS hP (fun H locs hP hS => ?_)
          have er := Option.some.inj hf
          exact rtI hx hb hr hS dX5_row_34 er hlocks
      · replace hf := oif c4 hf
        refine lv_ldc hx hb hown gk94 dX5_row_19 ?_
        have er := Option.some.inj hf
        exact rtI hx hb hr hS dX5_row_21 er hlocks
    · replace hf := oif c2 hf
      refine lv_ldc hx hb hown gk99 dX5_row_7 ?_
      have er := Option.some.inj hf
      exact rtI hx hb hr hS dX5_row_9 er hlocks
  exact go s.heap [] hP hS
noncomputable def f_X5_cell (b_kinds : Nat → Int32) (b_sizes : Nat → Int32) (b_sorts : Nat → Int32) (b_numbers : Nat → Int64) (x1 : Int32) (x2 : Int32) (x3 : Int32) : Option (Int64) := (f_X5_isSlot x1).bind (fun z1 => if z1 = 0 then (some ((-1000000001))) else ((f_X5_isIn x3 0 1).bind (fun z3 => if z3 = 0 then (some ((-1000000002))) else ((f_X0_whyNotRead b_kinds b_sizes x1 x2 8).bind (fun z5 => if z5 = 0 then (if x3 = 0 then ((f_X0_sortAt b_sorts x1 x2).bind (fun z9 => some ((Int32.toInt64 z9)))) else ((f_X0_numberAt b_numbers x1 x2).bind (fun z8 => some (z8)))) else (if x3 = 0 then (some ((Int32.toInt64 (((-10) : Int32) - z5)))) else (some (0))))))))
set_option maxHeartbeats 4000000 in
set_option maxRecDepth 100000 in
theorem c_X5_cell (l : Launch) (D : va_G) (cI cJ cZ cQ : ClassId) (bs sz : Nat) (x : Nat → Nat) (b : Nat → Nat) (h : Nat → Nat) (k : Nat → Nat) (r : Nat → Nat) (q : Nat → Nat) (v : Nat → Nat) (x_random : Int32) (b_keyCount : Int32) (b_sheetSet : Int32) (b_handSort : Int32) (b_handNumber : Int64) (b_kinds : Nat → Int32) (b_sizes : Nat → Int32) (b_sorts : Nat → Int32) (b_numbers : Nat → Int64) (x1 : Int32) (x2 : Int32) (x3 : Int32) (zr : Int64) (hf : f_X5_cell b_kinds b_sizes b_sorts b_numbers x1 x2 x3 = some zr) : Met l yX5_cell wsX5_cell { frames := 4, cells := 0, slots := 0, locals := 88 } (va_Pc [.ref (x 0), .int x1, .int x2, .int x3] (Pr D cI cJ cZ cQ bs sz [oX5 x b h k r q v x_random, oX0 b b_keyCount b_sheetSet b_handSort b_handNumber, aI cI (b 1) 6 b_kinds, aI cI (b 2) 6 b_sizes, aI cI (b 3) 72 b_sorts, aJ cJ (b 4) 72 b_numbers])) (QrJ zr) 0 0 no := by
  refine stM (cc := cX5_cell) (maxL := 5) (ret := (some .long)) (by decide +kernel) rfl (Nat.le_of_ble_eq_true rfl) ?_
  intro p e s m args below meth c C0 hr hlocks hname hsz hP hDb hE ls hl
  have hAb : ∀ q, no q → bs ≤ q := fun _ h => h.elim
  obtain ⟨hx, hb, hml, hown, hts⟩ := id C0
  have hown : s.vm.findClass RX5 = some m.cls := hown
  obtain ⟨hK, hNW, -, tw, hZ, hT⟩ := id hE
  have hl : lv_has ls 5 [(0, .ref (x 0)), (1, .int x1), (2, .int x2), (3, .int x3)] := hl
  have hS : va_S no s.heap s.heap [] := va_S.rf
  have hI_X5 := (show ∀ w ∈ wsX50, w ∈ wsX5_cell by decide +kernel)
  have gf10 := hts (.fieldLink RX5 10 "RowRanks" "bench" "LRowRanks$Bench;") (by decide +kernel)
  have gk115 := hts (.constantLong RX5 115 (-1000000002)) (by decide +kernel)
  have gk113 := hts (.constantLong RX5 113 (-1000000001)) (by decide +kernel)
  unfold f_X5_cell at hf
  have go : ∀ (H : Heap) (locs : List Loc), va_P D vwCl [oX5 x b h k r q v x_random, oX0 b b_keyCount b_sheetSet b_handSort b_handNumber, aI cI (b 1) 6 b_kinds, aI cI (b 2) 6 b_sizes, aI cI (b 3) 72 b_sorts, aJ cJ (b 4) 72 b_numbers] H → va_S no s.heap H locs → W p l e { frames := 4, cells := 0, slots := 0, locals := 88 } s m args below meth c H locs 0 0 (MQ below (QrJ zr) args s 0 0 no) (F0 m 0 ls []) := by
    intro H locs hP hS
    refine lv_iload_n hx hb dX5_cell_0 rfl (lv_at hl 1 rfl) ?_
    obtain ⟨z1, hz1, hf⟩ := obd hf
    refine kZ (runS (As := [.int x1]) (rest := []) C0 hE hAb hP (hDb.addr rfl) hS [] (wc := []) (by decide) rfl (c_X5_isSlot l D cI cJ cZ cQ bs H.size x1 z1 hz1) (va_cwS 1 hts gX5_cell_X5_isSlot rfl rfl rfl (by decide +kernel) ⟨Nat.le_of_ble_eq_true rfl, Nat.le_of_ble_eq_true rfl⟩) rfl hl.1 rfl (Nat.le_of_ble_eq_true rfl) dX5_cell_1 ⟨Nat.le_of_ble_eq_true rfl, Nat.le_of_ble_eq_true rfl⟩) hS hP (fun bz1 H locs hP hS => ?_)
    refine lv_if_ne (tgt := 11) hx hb dX5_cell_4 (by decide) (fun c2 => ?_) (fun c2 => ?_)
    · replace hf := oel c2 hf
      refine lv_iload_n hx hb dX5_cell_11 rfl (lv_at hl 3 rfl) ?_
      refine lv_iconst (v := 0) hx hb dX5_cell_12 (by decide) ?_
      refine lv_iconst (v := 1) hx hb dX5_cell_13 (by decide) ?_
      obtain ⟨z3, hz3, hf⟩ := obd hf
      refine kZ (runS (As := [.int x3, .int 0, .int 1]) (rest := []) C0 hE hAb hP (hDb.addr rfl) hS [] (wc := []) (by decide) rfl (c_X5_isIn l D cI cJ cZ cQ bs H.size x3 0 1 z3 hz3) (va_cwS 3 hts gX5_cell_X5_isIn rfl rfl rfl (by decide +kernel) ⟨Nat.le_of_ble_eq_true rfl, Nat.le_of_ble_eq_true rfl⟩) rfl hl.1 rfl (Nat.le_of_ble_eq_true rfl) dX5_cell_14 ⟨Nat.le_of_ble_eq_true rfl, Nat.le_of_ble_eq_true rfl⟩) hS hP (fun bz3 H locs hP hS => ?_)
      refine lv_if_ne (tgt := 24) hx hb dX5_cell_17 (by decide) (fun c4 => ?_) (fun c4 => ?_)
      · replace hf := oel c4 hf
        refine lv_aload_n hx hb dX5_cell_24 rfl (lv_at hl 0 rfl) ?_
        refine va_get (D := D) (ci := 5) (v := .ref (b 0)) (C := RX5) (T := TX5) (N := 9) hx hb hts hI_X5 hown hK hP 0 rfl rfl 0 (by decide) gf10 (fun _ h9 => h9) rfl dX5_cell_25 ?_
        refine lv_iload_n hx hb dX5_cell_28 rfl (lv_at hl 1 rfl) ?_
        refine lv_iload_n hx hb dX5_cell_29 rfl (lv_at hl 2 rfl) ?_
        refine lv_bipush (v := 8) hx hb dX5_cell_30 (by decide) ?_
        obtain ⟨z5, hz5, hf⟩ := obd hf
        refine kI (runV (As := [.int x1, .int x2, .int 8]) (rest := []) C0 hE hAb hP (hDb.addr rfl) hS [1, 2, 3] (wc := [oX0 b b_keyCount b_sheetSet b_handSort b_handNumber, aI cI (b 1) 6 b_kinds, aI cI (b 2) 6 b_sizes]) (by decide) rfl 1 rfl rfl (c_X0_whyNotRead l D cI cJ cZ cQ bs H.size b b_keyCount b_sheetSet b_handSort b_handNumber b_kinds b_sizes x1 x2 8 z5 hz5) (cwV 3 hts gX5_cell_X0_whyNotRead rfl rfl rfl (by decide +kernel) ⟨Nat.le_of_ble_eq_true rfl, Nat.le_of_ble_eq_true rfl⟩) rfl hl.1 rfl (Nat.le_of_ble_eq_true rfl) dX5_cell_32 ⟨Nat.le_of_ble_eq_true rfl, Nat.le_of_ble_eq_true rfl⟩) hS hP (fun H locs hP hS => ?_)
        refine lv_istore (lv' := [(4, .int z5), (0, .ref (x 0)), (1, .int x1), (2, .int x2), (3, .int x3)]) hx hb dX5_cell_35 hl (by decide) rfl (fun ls hl => ?_)
        refine lv_iload hx hb dX5_cell_37 (lv_at hl 0 rfl) ?_
        refine lv_if_eq (tgt := 57) hx hb dX5_cell_39 (by decide) (fun c6 => ?_) (fun c6 => ?_)
        · replace hf := oif c6 hf
          refine lv_iload_n hx hb dX5_cell_57 rfl (lv_at hl 4 rfl) ?_
          refine lv_if_ne (tgt := 74) hx hb dX5_cell_58 (by decide) (fun c7 => ?_) (fun c7 => ?_)
          · replace hf := oel c7 hf
            refine lv_aload_n hx hb dX5_cell_74 rfl (lv_at hl 1 rfl) ?_
            refine va_get (D := D) (ci := 5) (v := .ref (b 0)) (C := RX5) (T := TX5) (N := 9) hx hb hts hI_X5 hown hK hP 0 rfl rfl 0 (by decide) gf10 (fun _ h9 => h9) rfl dX5_cell_75 ?_
            refine lv_iload_n hx hb dX5_cell_78 rfl (lv_at hl 2 rfl) ?_
            refine lv_iload_n hx hb dX5_cell_79 rfl (lv_at hl 3 rfl) ?_
            obtain ⟨z8, hz8, hf⟩ := obd hf
            refine kJ (runV (As := [.int x1, .int x2]) (rest := []) C0 hE hAb hP (hDb.addr rfl) hS [1, 5] (wc := [oX0 b b_keyCount b_sheetSet b_handSort b_handNumber, aJ cJ (b 4) 72 b_numbers]) (by decide) rfl 1 rfl rfl (c_X0_numberAt l D cI cJ cZ cQ bs H.size b b_keyCount b_sheetSet b_handSort b_handNumber b_numbers x1 x2 z8 hz8) (cwV 2 hts gX5_cell_X0_numberAt rfl rfl rfl (by decide +kernel) ⟨Nat.le_of_ble_eq_true rfl, Nat.le_of_ble_eq_true rfl⟩) rfl hl.1 rfl (Nat.le_of_ble_eq_true rfl) dX5_cell_80 ⟨Nat.le_of_ble_eq_true rfl, Nat.le_of_ble_eq_true rfl⟩) hS hP (fun H locs hP hS => ?_)
            have er := Option.some.inj hf
            exact rtJ hx hb hr hS dX5_cell_83 er hlocks
          · replace hf := oif c7 hf
            refine lv_aload_n hx hb dX5_cell_61 rfl (lv_at hl 1 rfl) ?_
            refine va_get (D := D) (ci := 5) (v := .ref (b 0)) (C := RX5) (T := TX5) (N := 9) hx hb hts hI_X5 hown hK hP 0 rfl rfl 0 (by decide) gf10 (fun _ h9 => h9) rfl dX5_cell_62 ?_
            refine lv_iload_n hx hb dX5_cell_65 rfl (lv_at hl 2 rfl) ?_
            refine lv_iload_n hx hb dX5_cell_66 rfl (lv_at hl 3 rfl) ?_
            obtain ⟨z9, hz9, hf⟩ := obd hf
            refine kI (runV (As := [.int x1, .int x2]) (rest := []) C0 hE hAb hP (hDb.addr rfl) hS [1, 4] (wc := [oX0 b b_keyCount b_sheetSet b_handSort b_handNumber, aI cI (b 3) 72 b_sorts]) (by decide) rfl 1 rfl rfl (c_X0_sortAt l D cI cJ cZ cQ bs H.size b b_keyCount b_sheetSet b_handSort b_handNumber b_sorts x1 x2 z9 hz9) (cwV 2 hts gX5_cell_X0_sortAt rfl rfl rfl (by decide +kernel) ⟨Nat.le_of_ble_eq_true rfl, Nat.le_of_ble_eq_true rfl⟩) rfl hl.1 rfl (Nat.le_of_ble_eq_true rfl) dX5_cell_67 ⟨Nat.le_of_ble_eq_true rfl, Nat.le_of_ble_eq_true rfl⟩) hS hP (fun H locs hP hS => ?_)
            refine lv_i2l (v := (Int32.toInt64 z9)) hx hb dX5_cell_70 rfl ?_
            refine lv_goto (tgt := 83) hx hb dX5_cell_71 (by decide) ?_
            have er := Option.some.inj hf
            exact rtJ hx hb hr hS dX5_cell_83 er hlocks
        · replace hf := oel c6 hf
          refine lv_iload_n hx hb dX5_cell_42 rfl (lv_at hl 4 rfl) ?_
          refine lv_if_ne (tgt := 55) hx hb dX5_cell_43 (by decide) (fun c10 => ?_) (fun c10 => ?_)
          · replace hf := oel c10 hf
            refine lv_lconst (v := 0) hx hb dX5_cell_55 (by decide) ?_
            have er := Option.some.inj hf
            exact rtJ hx hb hr hS dX5_cell_56 er hlocks
          · replace hf := oif c10 hf
            refine lv_bipush (v := (-10)) hx hb dX5_cell_46 (by decide) ?_
            refine lv_iload hx hb dX5_cell_48 (lv_at hl 0 rfl) ?_
            refine lv_isub hx hb dX5_cell_50 ?_
            refine lv_i2l (v := (Int32.toInt64 (((-10) : Int32) - z5))) hx hb dX5_cell_51 rfl ?_
            refine lv_goto (tgt := 56) hx hb dX5_cell_52 (by decide) ?_
            have er := Option.some.inj hf
            exact rtJ hx hb hr hS dX5_cell_56 er hlocks
      · replace hf := oif c4 hf
        refine lv_ldc2 hx hb hown gk115 dX5_cell_20 ?_
        have er := Option.some.inj hf
        exact rtJ hx hb hr hS dX5_cell_23 er hlocks
    · replace hf := oif c2 hf
      refine lv_ldc2 hx hb hown gk113 dX5_cell_7 ?_
      have er := Option.some.inj hf
      exact rtJ hx hb hr hS dX5_cell_10 er hlocks
  exact go s.heap [] hP hS
noncomputable def f_X5_hand (b_handSort : Int32) (b_handNumber : Int64) (x1 : Int32) : Option (Int64) := if x1 = 0 then (some ((Int32.toInt64 b_handSort))) else (if x1 = 1 then (some (b_handNumber)) else (some ((-1000000002))))
set_option maxHeartbeats 4000000 in
set_option maxRecDepth 100000 in
theorem c_X5_hand (l : Launch) (D : va_G) (cI cJ cZ cQ : ClassId) (bs sz : Nat) (x : Nat → Nat) (b : Nat → Nat) (h : Nat → Nat) (k : Nat → Nat) (r : Nat → Nat) (q : Nat → Nat) (v : Nat → Nat) (x_random : Int32) (b_keyCount : Int32) (b_sheetSet : Int32) (b_handSort : Int32) (b_handNumber : Int64) (x1 : Int32) (zr : Int64) (hf : f_X5_hand b_handSort b_handNumber x1 = some zr) : Met l yX5_hand wsX5_hand { frames := 0, cells := 0, slots := 0, locals := 0 } (va_Pc [.ref (x 0), .int x1] (Pr D cI cJ cZ cQ bs sz [oX5 x b h k r q v x_random, oX0 b b_keyCount b_sheetSet b_handSort b_handNumber])) (QrJ zr) 0 0 no := by
  refine stM (cc := cX5_hand) (maxL := 2) (ret := (some .long)) (by decide +kernel) rfl (Nat.le_of_ble_eq_true rfl) ?_
  intro p e s m args below meth c C0 hr hlocks hname hsz hP hDb hE ls hl
  have hAb : ∀ q, no q → bs ≤ q := fun _ h => h.elim
  obtain ⟨hx, hb, hml, hown, hts⟩ := id C0
  have hown : s.vm.findClass RX5 = some m.cls := hown
  obtain ⟨hK, hNW, -, tw, hZ, hT⟩ := id hE
  have hl : lv_has ls 2 [(0, .ref (x 0)), (1, .int x1)] := hl
  have hS : va_S no s.heap s.heap [] := va_S.rf
  have hI_X5 := (show ∀ w ∈ wsX50, w ∈ wsX5_hand by decide +kernel)
  have gf10 := hts (.fieldLink RX5 10 "RowRanks" "bench" "LRowRanks$Bench;") (by decide +kernel)
  have hI_X0 := (show ∀ w ∈ wsX00, w ∈ wsX5_hand by decide +kernel)
  have gf129 := hNW (.fieldLinkNest RX5 129 RX0 "handSort" "I" RX5) (by decide +kernel)
  have gf132 := hNW (.fieldLinkNest RX5 132 RX0 "handNumber" "J" RX5) (by decide +kernel)
  have gk115 := hts (.constantLong RX5 115 (-1000000002)) (by decide +kernel)
  unfold f_X5_hand at hf
  have go : ∀ (H : Heap) (locs : List Loc), va_P D vwCl [oX5 x b h k r q v x_random, oX0 b b_keyCount b_sheetSet b_handSort b_handNumber] H → va_S no s.heap H locs → W p l e { frames := 0, cells := 0, slots := 0, locals := 0 } s m args below meth c H locs 0 0 (MQ below (QrJ zr) args s 0 0 no) (F0 m 0 ls []) := by
    intro H locs hP hS
    refine lv_iload_n hx hb dX5_hand_0 rfl (lv_at hl 1 rfl) ?_
    by_cases c1 : x1 = 0
    · replace hf := oif c1 hf
      refine cgI c1 ?_
      refine lv_lookup (off := 27) (tgt := 28) hx hb dX5_hand_1 (by decide +kernel) (by decide +kernel) (by decide) ?_
      refine lv_aload_n hx hb dX5_hand_28 rfl (lv_at hl 0 rfl) ?_
      refine va_get (D := D) (ci := 5) (v := .ref (b 0)) (C := RX5) (T := TX5) (N := 9) hx hb hts hI_X5 hown hK hP 0 rfl rfl 0 (by decide) gf10 (fun _ h9 => h9) rfl dX5_hand_29 ?_
      refine va_getN (D := D) (ci := 0) (v := .int b_handSort) (C := RX0) (T := TX0) (N := 12) hx hb hts hI_X0 hown hK hP 1 rfl rfl 10 (by decide) (va_Nw.use rfl gf129) (fun _ h9 => h9) rfl dX5_hand_32 ?_
      refine lv_i2l (v := (Int32.toInt64 b_handSort)) hx hb dX5_hand_35 rfl ?_
      have er := Option.some.inj hf
      exact rtJ hx hb hr hS dX5_hand_36 er hlocks
    replace hf := oel c1 hf
    by_cases c2 : x1 = 1
    · replace hf := oif c2 hf
      refine cgI c2 ?_
      refine lv_lookup (off := 36) (tgt := 37) hx hb dX5_hand_1 (by decide +kernel) (by decide +kernel) (by decide) ?_
      refine lv_aload_n hx hb dX5_hand_37 rfl (lv_at hl 0 rfl) ?_
      refine va_get (D := D) (ci := 5) (v := .ref (b 0)) (C := RX5) (T := TX5) (N := 9) hx hb hts hI_X5 hown hK hP 0 rfl rfl 0 (by decide) gf10 (fun _ h9 => h9) rfl dX5_hand_38 ?_
      refine va_getN (D := D) (ci := 0) (v := .long b_handNumber) (C := RX0) (T := TX0) (N := 12) hx hb hts hI_X0 hown hK hP 1 rfl rfl 11 (by decide) (va_Nw.use rfl gf132) (fun _ h9 => h9) rfl dX5_hand_41 ?_
      have er := Option.some.inj hf
      exact rtJ hx hb hr hS dX5_hand_44 er hlocks
    replace hf := oel c2 hf
    refine lv_lookup (off := 44) (tgt := 45) hx hb dX5_hand_1 (by decide +kernel) (by show Op.lookupswitch.offset [(0, 27), (1, 36)] 44 _ = _; rw [lv_osw (k := 0) c1 (by decide)]; rw [lv_osw (k := 1) c2 (by decide)]; rfl) (by decide) ?_
    refine lv_ldc2 hx hb hown gk115 dX5_hand_45 ?_
    have er := Option.some.inj hf
    exact rtJ hx hb hr hS dX5_hand_48 er hlocks
  exact go s.heap [] hP hS
noncomputable def f_X5_tag (b_sizes : Nat → Int32) (b_sorts : Nat → Int32) (b_numbers : Nat → Int64) (b_weights : Nat → Int32) (x1 : Int32) (x2 : Int32) : Option (Int32) := (f_X5_isTag (Int32.toInt64 x1)).bind (fun z1 => if z1 = 0 then (some ((-1000000001))) else (if x2 = 0 then ((f_X0_weightOf b_weights x1).bind (fun z4 => some (z4))) else (if x2 = 1 then ((f_X0_heft b_weights (Int32.toInt64 x1)).bind (fun z6 => some (z6))) else (if x2 = 2 then ((f_X0_cellsWithTag b_sizes b_sorts b_numbers x1).bind (fun z8 => some (z8))) else (some ((-1000000002)))))))
set_option maxHeartbeats 4000000 in
set_option maxRecDepth 100000 in
theorem c_X5_tag (l : Launch) (D : va_G) (cI cJ cZ cQ : ClassId) (bs sz : Nat) (x : Nat → Nat) (b : Nat → Nat) (h : Nat → Nat) (k : Nat → Nat) (r : Nat → Nat) (q : Nat → Nat) (v : Nat → Nat) (x_random : Int32) (b_keyCount : Int32) (b_sheetSet : Int32) (b_handSort : Int32) (b_handNumber : Int64) (b_sizes : Nat → Int32) (b_sorts : Nat → Int32) (b_numbers : Nat → Int64) (b_weights : Nat → Int32) (x1 : Int32) (x2 : Int32) (zr : Int32) (hf : f_X5_tag b_sizes b_sorts b_numbers b_weights x1 x2 = some zr) : Met l yX5_tag wsX5_tag { frames := 3, cells := 0, slots := 0, locals := 67 } (va_Pc [.ref (x 0), .int x1, .int x2] (Pr D cI cJ cZ cQ bs sz [oX5 x b h k r q v x_random, oX0 b b_keyCount b_sheetSet b_handSort b_handNumber, aI cI (b 2) 6 b_sizes, aI cI (b 3) 72 b_sorts, aJ cJ (b 4) 72 b_numbers, aI cI (b 5) 8 b_weights])) (QrI zr) 0 0 no := by
  refine stM (cc := cX5_tag) (maxL := 3) (ret := (some .int)) (by decide +kernel) rfl (Nat.le_of_ble_eq_true rfl) ?_
  intro p e s m args below meth c C0 hr hlocks hname hsz hP hDb hE ls hl
  have hAb : ∀ q, no q → bs ≤ q := fun _ h => h.elim
  obtain ⟨hx, hb, hml, hown, hts⟩ := id C0
  have hown : s.vm.findClass RX5 = some m.cls := hown
  obtain ⟨hK, hNW, -, tw, hZ, hT⟩ := id hE
  have hl : lv_has ls 3 [(0, .ref (x 0)), (1, .int x1), (2, .int x2)] := hl
  have hS : va_S no s.heap s.heap [] := va_S.rf
  have hI_X5 := (show ∀ w ∈ wsX50, w ∈ wsX5_tag by decide +kernel)
  have gf10 := hts (.fieldLink RX5 10 "RowRanks" "bench" "LRowRanks$Bench;") (by decide +kernel)
  have gk94 := hts (.constant RX5 94 (-1000000002)) (by decide +kernel)
  have gk99 := hts (.constant RX5 99 (-1000000001)) (by decide +kernel)
  unfold f_X5_tag at hf
  have go : ∀ (H : Heap) (locs : List Loc), va_P D vwCl [oX5 x b h k r q v x_random, oX0 b b_keyCount b_sheetSet b_handSort b_handNumber, aI cI (b 2) 6 b_sizes, aI cI (b 3) 72 b_sorts, aJ cJ (b 4) 72 b_numbers, aI cI (b 5) 8 b_weights] H → va_S no s.heap H locs → W p l e { frames := 3, cells := 0, slots := 0, locals := 67 } s m args below meth c H locs 0 0 (MQ below (QrI zr) args s 0 0 no) (F0 m 0 ls []) := by
    intro H locs hP hS
    refine lv_iload_n hx hb dX5_tag_0 rfl (lv_at hl 1 rfl) ?_
    refine lv_i2l (v := (Int32.toInt64 x1)) hx hb dX5_tag_1 rfl ?_
    obtain ⟨z1, hz1, hf⟩ := obd hf
    refine kZ (runS (As := [.long (Int32.toInt64 x1)]) (rest := []) C0 hE hAb hP (hDb.addr rfl) hS [] (wc := []) (by decide) rfl (c_X5_isTag l D cI cJ cZ cQ bs H.size (Int32.toInt64 x1) z1 hz1) (va_cwS 1 hts gX5_tag_X5_isTag rfl rfl rfl (by decide +kernel) ⟨Nat.le_of_ble_eq_true rfl, Nat.le_of_ble_eq_true rfl⟩) rfl hl.1 rfl (Nat.le_of_ble_eq_true rfl) dX5_tag_2 ⟨Nat.le_of_ble_eq_true rfl, Nat.le_of_ble_eq_true rfl⟩) hS hP (fun bz1 H locs hP hS => ?_)
    refine lv_if_ne (tgt := 11) hx hb dX5_tag_5 (by decide) (fun c2 => ?_) (fun c2 => ?_)
    · replace hf := oel c2 hf
      refine lv_iload_n hx hb dX5_tag_11 rfl (lv_at hl 2 rfl) ?_
      by_cases c3 : x2 = 0
      · replace hf := oif c3 hf
        refine cgI c3 ?_
        refine lv_tableIn (off := 28) (tgt := 40) hx hb dX5_tag_12 (by decide) (by decide) (by decide +kernel) (by decide) ?_
        refine lv_aload_n hx hb dX5_tag_40 rfl (lv_at hl 0 rfl) ?_
        refine va_get (D := D) (ci := 5) (v := .ref (b 0)) (C := RX5) (T := TX5) (N := 9) hx hb hts hI_X5 hown hK hP 0 rfl rfl 0 (by decide) gf10 (fun _ h9 => h9) rfl dX5_tag_41 ?_
        refine lv_iload_n hx hb dX5_tag_44 rfl (lv_at hl 1 rfl) ?_
        obtain ⟨z4, hz4, hf⟩ := obd hf
        refine kI (runV (As := [.int x1]) (rest := []) C0 hE hAb hP (hDb.addr rfl) hS [1, 5] (wc := [oX0 b b_keyCount b_sheetSet b_handSort b_handNumber, aI cI (b 5) 8 b_weights]) (by decide) rfl 1 rfl rfl (c_X0_weightOf l D cI cJ cZ cQ bs H.size b b_keyCount b_sheetSet b_handSort b_handNumber b_weights x1 z4 hz4) (cwV 1 hts gX5_tag_X0_weightOf rfl rfl rfl (by decide +kernel) ⟨Nat.le_of_ble_eq_true rfl, Nat.le_of_ble_eq_true rfl⟩) rfl hl.1 rfl (Nat.le_of_ble_eq_true rfl) dX5_tag_45 ⟨Nat.le_of_ble_eq_true rfl, Nat.le_of_ble_eq_true rfl⟩) hS hP (fun H locs hP hS => ?_)
        have er := Option.some.inj hf
        exact rtI hx hb hr hS dX5_tag_48 er hlocks
      replace hf := oel c3 hf
      by_cases c5 : x2 = 1
      · replace hf := oif c5 hf
        refine cgI c5 ?_
        refine lv_tableIn (off := 37) (tgt := 49) hx hb dX5_tag_12 (by decide) (by decide) (by decide +kernel) (by decide) ?_
        refine lv_aload_n hx hb dX5_tag_49 rfl (lv_at hl 0 rfl) ?_
        refine va_get (D := D) (ci := 5) (v := .ref (b 0)) (C := RX5) (T := TX5) (N := 9) hx hb hts hI_X5 hown hK hP 0 rfl rfl 0 (by decide) gf10 (fun _ h9 => h9) rfl dX5_tag_50 ?_
        refine lv_iload_n hx hb dX5_tag_53 rfl (lv_at hl 1 rfl) ?_
        refine lv_i2l (v := (Int32.toInt64 x1)) hx hb dX5_tag_54 rfl ?_
        obtain ⟨z6, hz6, hf⟩ := obd hf
        refine kI (runV (As := [.long (Int32.toInt64 x1)]) (rest := []) C0 hE hAb hP (hDb.addr rfl) hS [1, 5] (wc := [oX0 b b_keyCount b_sheetSet b_handSort b_handNumber, aI cI (b 5) 8 b_weights]) (by decide) rfl 1 rfl rfl (c_X0_heft l D cI cJ cZ cQ bs H.size b b_keyCount b_sheetSet b_handSort b_handNumber b_weights (Int32.toInt64 x1) z6 hz6) (cwV 1 hts gX5_tag_X0_heft rfl rfl rfl (by decide +kernel) ⟨Nat.le_of_ble_eq_true rfl, Nat.le_of_ble_eq_true rfl⟩) rfl hl.1 rfl (Nat.le_of_ble_eq_true rfl) dX5_tag_55 ⟨Nat.le_of_ble_eq_true rfl, Nat.le_of_ble_eq_true rfl⟩) hS hP (fun H locs hP hS => ?_)
        have er := Option.some.inj hf
        exact rtI hx hb hr hS dX5_tag_58 er hlocks
      replace hf := oel c5 hf
      by_cases c7 : x2 = 2
      · replace hf := oif c7 hf
        refine cgI c7 ?_
        refine lv_tableIn (off := 47) (tgt := 59) hx hb dX5_tag_12 (by decide) (by decide) (by decide +kernel) (by decide) ?_
        refine lv_aload_n hx hb dX5_tag_59 rfl (lv_at hl 0 rfl) ?_
        refine va_get (D := D) (ci := 5) (v := .ref (b 0)) (C := RX5) (T := TX5) (N := 9) hx hb hts hI_X5 hown hK hP 0 rfl rfl 0 (by decide) gf10 (fun _ h9 => h9) rfl dX5_tag_60 ?_
        refine lv_iload_n hx hb dX5_tag_63 rfl (lv_at hl 1 rfl) ?_
        obtain ⟨z8, hz8, hf⟩ := obd hf
        refine kI (runV (As := [.int x1]) (rest := []) C0 hE hAb hP (hDb.addr rfl) hS [1, 2, 3, 4] (wc := [oX0 b b_keyCount b_sheetSet b_handSort b_handNumber, aI cI (b 2) 6 b_sizes, aI cI (b 3) 72 b_sorts, aJ cJ (b 4) 72 b_numbers]) (by decide) rfl 1 rfl rfl (c_X0_cellsWithTag l D cI cJ cZ cQ bs H.size b b_keyCount b_sheetSet b_handSort b_handNumber b_sizes b_sorts b_numbers x1 z8 hz8) (cwV 1 hts gX5_tag_X0_cellsWithTag rfl rfl rfl (by decide +kernel) ⟨Nat.le_of_ble_eq_true rfl, Nat.le_of_ble_eq_true rfl⟩) rfl hl.1 rfl (Nat.le_of_ble_eq_true rfl) dX5_tag_64 ⟨Nat.le_of_ble_eq_true rfl, Nat.le_of_ble_eq_true rfl⟩) hS hP (fun H locs hP hS => ?_)
        have er := Option.some.inj hf
        exact rtI hx hb hr hS dX5_tag_67 er hlocks
      replace hf := oel c7 hf
      refine lv_tableOut (tgt := 68) hx hb dX5_tag_12 (by have a0 := lv_neT c3 (a := 0) (by decide); have a1 := lv_neT c5 (a := 1) (by decide); have a2 := lv_neT c7 (a := 2) (by decide); omega) (by decide) ?_
      refine lv_ldc hx hb hown gk94 dX5_tag_68 ?_
      have er := Option.some.inj hf
      exact rtI hx hb hr hS dX5_tag_70 er hlocks
    · replace hf := oif c2 hf
      refine lv_ldc hx hb hown gk99 dX5_tag_8 ?_
      have er := Option.some.inj hf
      exact rtI hx hb hr hS dX5_tag_10 er hlocks
  exact go s.heap [] hP hS
noncomputable def f_X5_keyAt (b_keySlots : Nat → Int32) (b_keyBys : Nat → Int32) (b_keyWays : Nat → Int32) (b_keyCount : Int32) (x1 : Int32) (x2 : Int32) : Option (Int32) := if x1 < 0 then (some ((-1000000001))) else (if x1 < b_keyCount then (if x2 = 0 then ((f_X0_keySlot b_keySlots x1).bind (fun z4 => some (z4))) else (if x2 = 1 then ((f_X0_keyBy b_keyBys x1).bind (fun z6 => some (z6))) else (if x2 = 2 then ((f_X0_keyWay b_keyWays x1).bind (fun z8 => some (z8))) else (some ((-1000000002)))))) else (some ((-1000000001))))
set_option maxHeartbeats 4000000 in
set_option maxRecDepth 100000 in
theorem c_X5_keyAt (l : Launch) (D : va_G) (cI cJ cZ cQ : ClassId) (bs sz : Nat) (x : Nat → Nat) (b : Nat → Nat) (h : Nat → Nat) (k : Nat → Nat) (r : Nat → Nat) (q : Nat → Nat) (v : Nat → Nat) (x_random : Int32) (b_keyCount : Int32) (b_sheetSet : Int32) (b_handSort : Int32) (b_handNumber : Int64) (b_keySlots : Nat → Int32) (b_keyBys : Nat → Int32) (b_keyWays : Nat → Int32) (x1 : Int32) (x2 : Int32) (zr : Int32) (hf : f_X5_keyAt b_keySlots b_keyBys b_keyWays b_keyCount x1 x2 = some zr) : Met l yX5_keyAt wsX5_keyAt { frames := 1, cells := 0, slots := 0, locals := 21 } (va_Pc [.ref (x 0), .int x1, .int x2] (Pr D cI cJ cZ cQ bs sz [oX5 x b h k r q v x_random, oX0 b b_keyCount b_sheetSet b_handSort b_handNumber, aI cI (b 6) 4 b_keySlots, aI cI (b 7) 4 b_keyBys, aI cI (b 8) 4 b_keyWays])) (QrI zr) 0 0 no := by
  refine stM (cc := cX5_keyAt) (maxL := 3) (ret := (some .int)) (by decide +kernel) rfl (Nat.le_of_ble_eq_true rfl) ?_
  intro p e s m args below meth c C0 hr hlocks hname hsz hP hDb hE ls hl
  have hAb : ∀ q, no q → bs ≤ q := fun _ h => h.elim
  obtain ⟨hx, hb, hml, hown, hts⟩ := id C0
  have hown : s.vm.findClass RX5 = some m.cls := hown
  obtain ⟨hK, hNW, -, tw, hZ, hT⟩ := id hE
  have hl : lv_has ls 3 [(0, .ref (x 0)), (1, .int x1), (2, .int x2)] := hl
  have hS : va_S no s.heap s.heap [] := va_S.rf
  have gk99 := hts (.constant RX5 99 (-1000000001)) (by decide +kernel)
  have hI_X5 := (show ∀ w ∈ wsX50, w ∈ wsX5_keyAt by decide +kernel)
  have gf10 := hts (.fieldLink RX5 10 "RowRanks" "bench" "LRowRanks$Bench;") (by decide +kernel)
  have hI_X0 := (show ∀ w ∈ wsX00, w ∈ wsX5_keyAt by decide +kernel)
  have gf59 := hNW (.fieldLinkNest RX5 59 RX0 "keyCount" "I" RX5) (by decide +kernel)
  have gk94 := hts (.constant RX5 94 (-1000000002)) (by decide +kernel)
  unfold f_X5_keyAt at hf
  have go : ∀ (H : Heap) (locs : List Loc), va_P D vwCl [oX5 x b h k r q v x_random, oX0 b b_keyCount b_sheetSet b_handSort b_handNumber, aI cI (b 6) 4 b_keySlots, aI cI (b 7) 4 b_keyBys, aI cI (b 8) 4 b_keyWays] H → va_S no s.heap H locs → W p l e { frames := 1, cells := 0, slots := 0, locals := 21 } s m args below meth c H locs 0 0 (MQ below (QrI zr) args s 0 0 no) (F0 m 0 ls []) := by
    intro H locs hP hS
    refine lv_iload_n hx hb dX5_keyAt_0 rfl (lv_at hl 1 rfl) ?_
    refine lv_if_lt (tgt := 15) hx hb dX5_keyAt_1 (by decide) (fun c1 => ?_) (fun c1 => ?_)
    · replace hf := oif c1 hf
      refine lv_ldc hx hb hown gk99 dX5_keyAt_15 ?_
      have er := Option.some.inj hf
      exact rtI hx hb hr hS dX5_keyAt_17 er hlocks
    · replace hf := oel c1 hf
      refine lv_iload_n hx hb dX5_keyAt_4 rfl (lv_at hl 1 rfl) ?_
      refine lv_aload_n hx hb dX5_keyAt_5 rfl (lv_at hl 0 rfl) ?_
      refine va_get (D := D) (ci := 5) (v := .ref (b 0)) (C := RX5) (T := TX5) (N := 9) hx hb hts hI_X5 hown hK hP 0 rfl rfl 0 (by decide) gf10 (fun _ h9 => h9) rfl dX5_keyAt_6 ?_
      refine va_getN (D := D) (ci := 0) (v := .int b_keyCount) (C := RX0) (T := TX0) (N := 12) hx hb hts hI_X0 hown hK hP 1 rfl rfl 8 (by decide) (va_Nw.use rfl gf59) (fun _ h9 => h9) rfl dX5_keyAt_9 ?_
      refine lv_icmp_lt (tgt := 18) hx hb dX5_keyAt_12 (by decide) (fun c2 => ?_) (fun c2 => ?_)
      · replace hf := oif c2 hf
        refine lv_iload_n hx hb dX5_keyAt_18 rfl (lv_at hl 2 rfl) ?_
        by_cases c3 : x2 = 0
        · replace hf := oif c3 hf
          refine cgI c3 ?_
          refine lv_tableIn (off := 25) (tgt := 44) hx hb dX5_keyAt_19 (by decide) (by decide) (by decide +kernel) (by decide) ?_
          refine lv_aload_n hx hb dX5_keyAt_44 rfl (lv_at hl 0 rfl) ?_
          refine va_get (D := D) (ci := 5) (v := .ref (b 0)) (C := RX5) (T := TX5) (N := 9) hx hb hts hI_X5 hown hK hP 0 rfl rfl 0 (by decide) gf10 (fun _ h9 => h9) rfl dX5_keyAt_45 ?_
          refine lv_iload_n hx hb dX5_keyAt_48 rfl (lv_at hl 1 rfl) ?_
          obtain ⟨z4, hz4, hf⟩ := obd hf
          refine kI (runV (As := [.int x1]) (rest := []) C0 hE hAb hP (hDb.addr rfl) hS [1, 2] (wc := [oX0 b b_keyCount b_sheetSet b_handSort b_handNumber, aI cI (b 6) 4 b_keySlots]) (by decide) rfl 1 rfl rfl (c_X0_keySlot l D cI cJ cZ cQ bs H.size b b_keyCount b_sheetSet b_handSort b_handNumber b_keySlots x1 z4 hz4) (cwV 1 hts gX5_keyAt_X0_keySlot rfl rfl rfl (by decide +kernel) ⟨Nat.le_of_ble_eq_true rfl, Nat.le_of_ble_eq_true rfl⟩) rfl hl.1 rfl (Nat.le_of_ble_eq_true rfl) dX5_keyAt_49 ⟨Nat.le_of_ble_eq_true rfl, Nat.le_of_ble_eq_true rfl⟩) hS hP (fun H locs hP hS => ?_)
          have er := Option.some.inj hf
          exact rtI hx hb hr hS dX5_keyAt_52 er hlocks
        replace hf := oel c3 hf
        by_cases c5 : x2 = 1
        · replace hf := oif c5 hf
          refine cgI c5 ?_
          refine lv_tableIn (off := 34) (tgt := 53) hx hb dX5_keyAt_19 (by decide) (by decide) (by decide +kernel) (by decide) ?_
          refine lv_aload_n hx hb dX5_keyAt_53 rfl (lv_at hl 0 rfl) ?_
          refine va_get (D := D) (ci := 5) (v := .ref (b 0)) (C := RX5) (T := TX5) (N := 9) hx hb hts hI_X5 hown hK hP 0 rfl rfl 0 (by decide) gf10 (fun _ h9 => h9) rfl dX5_keyAt_54 ?_
          refine lv_iload_n hx hb dX5_keyAt_57 rfl (lv_at hl 1 rfl) ?_
          obtain ⟨z6, hz6, hf⟩ := obd hf
          refine kI (runV (As := [.int x1]) (rest := []) C0 hE hAb hP (hDb.addr rfl) hS [1, 3] (wc := [oX0 b b_keyCount b_sheetSet b_handSort b_handNumber, aI cI (b 7) 4 b_keyBys]) (by decide) rfl 1 rfl rfl (c_X0_keyBy l D cI cJ cZ cQ bs H.size b b_keyCount b_sheetSet b_handSort b_handNumber b_keyBys x1 z6 hz6) (cwV 1 hts gX5_keyAt_X0_keyBy rfl rfl rfl (by decide +kernel) ⟨Nat.le_of_ble_eq_true rfl, Nat.le_of_ble_eq_true rfl⟩) rfl hl.1 rfl (Nat.le_of_ble_eq_true rfl) dX5_keyAt_58 ⟨Nat.le_of_ble_eq_true rfl, Nat.le_of_ble_eq_true rfl⟩) hS hP (fun H locs hP hS => ?_)
          have er := Option.some.inj hf
          exact rtI hx hb hr hS dX5_keyAt_61 er hlocks
        replace hf := oel c5 hf
        by_cases c7 : x2 = 2
        · replace hf := oif c7 hf
          refine cgI c7 ?_
          refine lv_tableIn (off := 43) (tgt := 62) hx hb dX5_keyAt_19 (by decide) (by decide) (by decide +kernel) (by decide) ?_
          refine lv_aload_n hx hb dX5_keyAt_62 rfl (lv_at hl 0 rfl) ?_
          refine va_get (D := D) (ci := 5) (v := .ref (b 0)) (C := RX5) (T := TX5) (N := 9) hx hb hts hI_X5 hown hK hP 0 rfl rfl 0 (by decide) gf10 (fun _ h9 => h9) rfl dX5_keyAt_63 ?_
          refine lv_iload_n hx hb dX5_keyAt_66 rfl (lv_at hl 1 rfl) ?_
          obtain ⟨z8, hz8, hf⟩ := obd hf
          refine kI (runV (As := [.int x1]) (rest := []) C0 hE hAb hP (hDb.addr rfl) hS [1, 4] (wc := [oX0 b b_keyCount b_sheetSet b_handSort b_handNumber, aI cI (b 8) 4 b_keyWays]) (by decide) rfl 1 rfl rfl (c_X0_keyWay l D cI cJ cZ cQ bs H.size b b_keyCount b_sheetSet b_handSort b_handNumber b_keyWays x1 z8 hz8) (cwV 1 hts gX5_keyAt_X0_keyWay rfl rfl rfl (by decide +kernel) ⟨Nat.le_of_ble_eq_true rfl, Nat.le_of_ble_eq_true rfl⟩) rfl hl.1 rfl (Nat.le_of_ble_eq_true rfl) dX5_keyAt_67 ⟨Nat.le_of_ble_eq_true rfl, Nat.le_of_ble_eq_true rfl⟩) hS hP (fun H locs hP hS => ?_)
          have er := Option.some.inj hf
          exact rtI hx hb hr hS dX5_keyAt_70 er hlocks
        replace hf := oel c7 hf
        refine lv_tableOut (tgt := 71) hx hb dX5_keyAt_19 (by have a0 := lv_neT c3 (a := 0) (by decide); have a1 := lv_neT c5 (a := 1) (by decide); have a2 := lv_neT c7 (a := 2) (by decide); omega) (by decide) ?_
        refine lv_ldc hx hb hown gk94 dX5_keyAt_71 ?_
        have er := Option.some.inj hf
        exact rtI hx hb hr hS dX5_keyAt_73 er hlocks
      · replace hf := oel c2 hf
        refine lv_ldc hx hb hown gk99 dX5_keyAt_15 ?_
        have er := Option.some.inj hf
        exact rtI hx hb hr hS dX5_keyAt_17 er hlocks
  exact go s.heap [] hP hS
noncomputable def f_X5_rank (b_kinds : Nat → Int32) (b_sizes : Nat → Int32) (b_sorts : Nat → Int32) (b_numbers : Nat → Int64) (b_weights : Nat → Int32) (b_keySlots : Nat → Int32) (b_keyBys : Nat → Int32) (b_keyWays : Nat → Int32) (b_keyCount : Int32) (b_sheetSet : Int32) (r_lesser : Nat → Int32) (r_positions : Nat → Int32) (r_places : Nat → Int32) (r_length : Int32) (x1 : Int32) (x2 : Int32) : Option (Int32 × (Nat → Int32) × (Nat → Int32) × (Nat → Int32) × Int32) := (f_X4_sortPlaces b_kinds b_sizes b_sorts b_numbers b_weights b_keySlots b_keyBys b_keyWays b_keyCount b_sheetSet r_lesser r_positions r_places r_length 15).bind (fun z1 => (f_X4_isPlace z1.2.2.2 x1).bind (fun z2 => if z2 = 0 then (some (((-1000000001), z1.1, z1.2.1, z1.2.2.1, z1.2.2.2))) else (if x2 = 0 then ((f_X4_lesserThan z1.1 z1.2.2.2 x1).bind (fun z5 => some ((z5, z1.1, z1.2.1, z1.2.2.1, z1.2.2.2)))) else (if x2 = 1 then ((f_X4_classesBelow z1.1 z1.2.2.2 x1).bind (fun z7 => some ((z7, z1.1, z1.2.1, z1.2.2.1, z1.2.2.2)))) else (if x2 = 2 then ((f_X4_positionOf z1.2.1 z1.2.2.2 x1).bind (fun z9 => some ((z9, z1.1, z1.2.1, z1.2.2.1, z1.2.2.2)))) else (if x2 = 3 then ((f_X4_alikeTo z1.1 z1.2.2.2 x1).bind (fun z11 => some ((z11, z1.1, z1.2.1, z1.2.2.1, z1.2.2.2)))) else (if x2 = 4 then ((f_X4_placeAt z1.2.2.1 z1.2.2.2 x1).bind (fun z13 => some ((z13, z1.1, z1.2.1, z1.2.2.1, z1.2.2.2)))) else (some (((-1000000002), z1.1, z1.2.1, z1.2.2.1, z1.2.2.2))))))))))
set_option maxHeartbeats 4000000 in
set_option maxRecDepth 100000 in
theorem c_X5_rank (l : Launch) (D : va_G) (cI cJ cZ cQ : ClassId) (bs sz : Nat) (x : Nat → Nat) (b : Nat → Nat) (h : Nat → Nat) (k : Nat → Nat) (r : Nat → Nat) (q : Nat → Nat) (v : Nat → Nat) (x_random : Int32) (b_keyCount : Int32) (b_sheetSet : Int32) (b_handSort : Int32) (b_handNumber : Int64) (b_kinds : Nat → Int32) (b_sizes : Nat → Int32) (b_sorts : Nat → Int32) (b_numbers : Nat → Int64) (b_weights : Nat → Int32) (b_keySlots : Nat → Int32) (b_keyBys : Nat → Int32) (b_keyWays : Nat → Int32) (r_length : Int32) (r_lesser : Nat → Int32) (r_positions : Nat → Int32) (r_places : Nat → Int32) (x1 : Int32) (x2 : Int32) (zr : Int32 × (Nat → Int32) × (Nat → Int32) × (Nat → Int32) × Int32) (hf : f_X5_rank b_kinds b_sizes b_sorts b_numbers b_weights b_keySlots b_keyBys b_keyWays b_keyCount b_sheetSet r_lesser r_positions r_places r_length x1 x2 = some zr) : Met l yX5_rank wsX5_rank { frames := 5, cells := 0, slots := 0, locals := 122 } (va_Pc [.ref (x 0), .int x1, .int x2] (Pr D cI cJ cZ cQ bs sz [oX5 x b h k r q v x_random, oX0 b b_keyCount b_sheetSet b_handSort b_handNumber, aI cI (b 1) 6 b_kinds, aI cI (b 2) 6 b_sizes, aI cI (b 3) 72 b_sorts, aJ cJ (b 4) 72 b_numbers, aI cI (b 5) 8 b_weights, aI cI (b 6) 4 b_keySlots, aI cI (b 7) 4 b_keyBys, aI cI (b 8) 4 b_keyWays, oX4 r r_length, aI cI (r 1) 12 r_lesser, aI cI (r 2) 12 r_positions, aI cI (r 3) 12 r_places])) (QwI D zr (fun u => [oX5 x b h k r q v x_random, oX0 b b_keyCount b_sheetSet b_handSort b_handNumber, aI cI (b 1) 6 b_kinds, aI cI (b 2) 6 b_sizes, aI cI (b 3) 72 b_sorts, aJ cJ (b 4) 72 b_numbers, aI cI (b 5) 8 b_weights, aI cI (b 6) 4 b_keySlots, aI cI (b 7) 4 b_keyBys, aI cI (b 8) 4 b_keyWays, oX4 r u.2.2.2, aI cI (r 1) 12 u.1, aI cI (r 2) 12 u.2.1, aI cI (r 3) 12 u.2.2.1]) (va_A [oX5 x b h k r q v x_random, oX0 b b_keyCount b_sheetSet b_handSort b_handNumber, aI cI (b 1) 6 b_kinds, aI cI (b 2) 6 b_sizes, aI cI (b 3) 72 b_sorts, aJ cJ (b 4) 72 b_numbers, aI cI (b 5) 8 b_weights, aI cI (b 6) 4 b_keySlots, aI cI (b 7) 4 b_keyBys, aI cI (b 8) 4 b_keyWays, oX4 r r_length, aI cI (r 1) 12 r_lesser, aI cI (r 2) 12 r_positions, aI cI (r 3) 12 r_places] sz)) 0 0 (va_A [oX5 x b h k r q v x_random, oX0 b b_keyCount b_sheetSet b_handSort b_handNumber, aI cI (b 1) 6 b_kinds, aI cI (b 2) 6 b_sizes, aI cI (b 3) 72 b_sorts, aJ cJ (b 4) 72 b_numbers, aI cI (b 5) 8 b_weights, aI cI (b 6) 4 b_keySlots, aI cI (b 7) 4 b_keyBys, aI cI (b 8) 4 b_keyWays, oX4 r r_length, aI cI (r 1) 12 r_lesser, aI cI (r 2) 12 r_positions, aI cI (r 3) 12 r_places] sz) := by
  refine stW (cc := cX5_rank) (maxL := 3) (ret := (some .int)) (Qf := fun A => (QwI D zr (fun u => [oX5 x b h k r q v x_random, oX0 b b_keyCount b_sheetSet b_handSort b_handNumber, aI cI (b 1) 6 b_kinds, aI cI (b 2) 6 b_sizes, aI cI (b 3) 72 b_sorts, aJ cJ (b 4) 72 b_numbers, aI cI (b 5) 8 b_weights, aI cI (b 6) 4 b_keySlots, aI cI (b 7) 4 b_keyBys, aI cI (b 8) 4 b_keyWays, oX4 r u.2.2.2, aI cI (r 1) 12 u.1, aI cI (r 2) 12 u.2.1, aI cI (r 3) 12 u.2.2.1]) A)) (by decide +kernel) rfl (Nat.le_of_ble_eq_true rfl) ?_
  intro p e s m args below meth c A C0 hr hlocks hname hsz hP hD hA hAb hE ls hl
  obtain ⟨hx, hb, hml, hown, hts⟩ := id C0
  have hown : s.vm.findClass RX5 = some m.cls := hown
  obtain ⟨hK, hNW, -, tw, hZ, hT⟩ := id hE
  have hl : lv_has ls 3 [(0, .ref (x 0)), (1, .int x1), (2, .int x2)] := hl
  have hS : va_S A s.heap s.heap [] := va_S.rf
  have hI_X5 := (show ∀ w ∈ wsX50, w ∈ wsX5_rank by decide +kernel)
  have gf33 := hts (.fieldLink RX5 33 "RowRanks" "ranking" "LRowRanks$Ranking;") (by decide +kernel)
  have gf10 := hts (.fieldLink RX5 10 "RowRanks" "bench" "LRowRanks$Bench;") (by decide +kernel)
  have gk94 := hts (.constant RX5 94 (-1000000002)) (by decide +kernel)
  have gk99 := hts (.constant RX5 99 (-1000000001)) (by decide +kernel)
  unfold f_X5_rank at hf
  have go : ∀ (H : Heap) (locs : List Loc), va_P D vwCl [oX5 x b h k r q v x_random, oX0 b b_keyCount b_sheetSet b_handSort b_handNumber, aI cI (b 1) 6 b_kinds, aI cI (b 2) 6 b_sizes, aI cI (b 3) 72 b_sorts, aJ cJ (b 4) 72 b_numbers, aI cI (b 5) 8 b_weights, aI cI (b 6) 4 b_keySlots, aI cI (b 7) 4 b_keyBys, aI cI (b 8) 4 b_keyWays, oX4 r r_length, aI cI (r 1) 12 r_lesser, aI cI (r 2) 12 r_positions, aI cI (r 3) 12 r_places] H → va_S A s.heap H locs → W p l e { frames := 5, cells := 0, slots := 0, locals := 122 } s m args below meth c H locs 0 0 (MQ below (QwI D zr (fun u => [oX5 x b h k r q v x_random, oX0 b b_keyCount b_sheetSet b_handSort b_handNumber, aI cI (b 1) 6 b_kinds, aI cI (b 2) 6 b_sizes, aI cI (b 3) 72 b_sorts, aJ cJ (b 4) 72 b_numbers, aI cI (b 5) 8 b_weights, aI cI (b 6) 4 b_keySlots, aI cI (b 7) 4 b_keyBys, aI cI (b 8) 4 b_keyWays, oX4 r u.2.2.2, aI cI (r 1) 12 u.1, aI cI (r 2) 12 u.2.1, aI cI (r 3) 12 u.2.2.1]) A) args s 0 0 A) (F0 m 0 ls []) := by
    intro H locs hP hS
    refine lv_aload_n hx hb dX5_rank_0 rfl (lv_at hl 0 rfl) ?_
    refine va_get (D := D) (ci := 5) (v := .ref (r 0)) (C := RX5) (T := TX5) (N := 9) hx hb hts hI_X5 hown hK hP 0 rfl rfl 3 (by decide) gf33 (fun _ h9 => h9) rfl dX5_rank_1 ?_
    refine lv_aload_n hx hb dX5_rank_4 rfl (lv_at hl 0 rfl) ?_
    refine va_get (D := D) (ci := 5) (v := .ref (b 0)) (C := RX5) (T := TX5) (N := 9) hx hb hts hI_X5 hown hK hP 0 rfl rfl 0 (by decide) gf10 (fun _ h9 => h9) rfl dX5_rank_5 ?_
    refine lv_bipush (v := 15) hx hb dX5_rank_8 (by decide) ?_
    obtain ⟨z1, hz1, hf⟩ := obd hf
    refine kwV (runV (As := [.ref (b 0), .int 15]) (rest := []) C0 hE hAb hP ((hD.weaken (fun _ _ _ h9 => hAb _ h9)).addr rfl) hS [1, 2, 3, 4, 5, 6, 7, 8, 9, 10, 11, 12, 13] (wc := [oX0 b b_keyCount b_sheetSet b_handSort b_handNumber, aI cI (b 1) 6 b_kinds, aI cI (b 2) 6 b_sizes, aI cI (b 3) 72 b_sorts, aJ cJ (b 4) 72 b_numbers, aI cI (b 5) 8 b_weights, aI cI (b 6) 4 b_keySlots, aI cI (b 7) 4 b_keyBys, aI cI (b 8) 4 b_keyWays, oX4 r r_length, aI cI (r 1) 12 r_lesser, aI cI (r 2) 12 r_positions, aI cI (r 3) 12 r_places]) (by decide) rfl 10 rfl rfl (c_X4_sortPlaces l D cI cJ cZ cQ bs H.size b r b_keyCount b_sheetSet b_handSort b_handNumber b_kinds b_sizes b_sorts b_numbers b_weights b_keySlots b_keyBys b_keyWays r_length r_lesser r_positions r_places 15 z1 hz1) (cwV 2 hts gX5_rank_X4_sortPlaces rfl rfl rfl (by decide +kernel) ⟨Nat.le_of_ble_eq_true rfl, Nat.le_of_ble_eq_true rfl⟩) rfl hl.1 rfl (Nat.le_of_ble_eq_true rfl) dX5_rank_10 ⟨Nat.le_of_ble_eq_true rfl, Nat.le_of_ble_eq_true rfl⟩) hS hP (hD.addr rfl) hA [1, 2, 3, 4, 5, 6, 7, 8, 9, 10, 11, 12, 13] rfl rfl (ws' := [oX5 x b h k r q v x_random, oX0 b b_keyCount b_sheetSet b_handSort b_handNumber, aI cI (b 1) 6 b_kinds, aI cI (b 2) 6 b_sizes, aI cI (b 3) 72 b_sorts, aJ cJ (b 4) 72 b_numbers, aI cI (b 5) 8 b_weights, aI cI (b 6) 4 b_keySlots, aI cI (b 7) 4 b_keyBys, aI cI (b 8) 4 b_keyWays, oX4 r z1.2.2.2, aI cI (r 1) 12 z1.1, aI cI (r 2) 12 z1.2.1, aI cI (r 3) 12 z1.2.2.1]) rfl rfl (fun H locs hP hS => ?_)
    refine lv_aload_n hx hb dX5_rank_13 rfl (lv_at hl 0 rfl) ?_
    refine va_get (D := D) (ci := 5) (v := .ref (r 0)) (C := RX5) (T := TX5) (N := 9) hx hb hts hI_X5 hown hK hP 0 rfl rfl 3 (by decide) gf33 (fun _ h9 => h9) rfl dX5_rank_14 ?_
    refine lv_iload_n hx hb dX5_rank_17 rfl (lv_at hl 1 rfl) ?_
    obtain ⟨z2, hz2, hf⟩ := obd hf
    refine kZ (runV (As := [.int x1]) (rest := []) C0 hE hAb hP ((hD.weaken (fun _ _ _ h9 => hAb _ h9)).addr rfl) hS [10] (wc := [oX4 r z1.2.2.2]) (by decide) rfl 10 rfl rfl (c_X4_isPlace l D cI cJ cZ cQ bs H.size r z1.2.2.2 x1 z2 hz2) (cwV 1 hts gX5_rank_X4_isPlace rfl rfl rfl (by decide +kernel) ⟨Nat.le_of_ble_eq_true rfl, Nat.le_of_ble_eq_true rfl⟩) rfl hl.1 rfl (Nat.le_of_ble_eq_true rfl) dX5_rank_18 ⟨Nat.le_of_ble_eq_true rfl, Nat.le_of_ble_eq_true rfl⟩) hS hP (fun bz2 H locs hP hS => ?_)
    refine lv_if_ne (tgt := 27) hx hb dX5_rank_21 (by decide) (fun c3 => ?_) (fun c3 => ?_)
    · replace hf := oel c3 hf
      refine lv_iload_n hx hb dX5_rank_27 rfl (lv_at hl 2 rfl) ?_
      by_cases c4 : x2 = 0
      · replace hf := oif c4 hf
        refine cgI c4 ?_
        refine lv_tableIn (off := 36) (tgt := 64) hx hb dX5_rank_28 (by decide) (by decide) (by decide +kernel) (by decide) ?_
        refine lv_aload_n hx hb dX5_rank_64 rfl (lv_at hl 0 rfl) ?_
        refine va_get (D := D) (ci := 5) (v := .ref (r 0)) (C := RX5) (T := TX5) (N := 9) hx hb hts hI_X5 hown hK hP 0 rfl rfl 3 (by decide) gf33 (fun _ h9 => h9) rfl dX5_rank_65 ?_
        refine lv_iload_n hx hb dX5_rank_68 rfl (lv_at hl 1 rfl) ?_
        obtain ⟨z5, hz5, hf⟩ := obd hf
        refine kI (runV (As := [.int x1]) (rest := []) C0 hE hAb hP ((hD.weaken (fun _ _ _ h9 => hAb _ h9)).addr rfl) hS [10, 11] (wc := [oX4 r z1.2.2.2, aI cI (r 1) 12 z1.1]) (by decide) rfl 10 rfl rfl (c_X4_lesserThan l D cI cJ cZ cQ bs H.size r z1.2.2.2 z1.1 x1 z5 hz5) (cwV 1 hts gX5_rank_X4_lesserThan rfl rfl rfl (by decide +kernel) ⟨Nat.le_of_ble_eq_true rfl, Nat.le_of_ble_eq_true rfl⟩) rfl hl.1 rfl (Nat.le_of_ble_eq_true rfl) dX5_rank_69 ⟨Nat.le_of_ble_eq_true rfl, Nat.le_of_ble_eq_true rfl⟩) hS hP (fun H locs hP hS => ?_)
        have er := Option.some.inj hf
        exact rwI (wm := (fun u => [oX5 x b h k r q v x_random, oX0 b b_keyCount b_sheetSet b_handSort b_handNumber, aI cI (b 1) 6 b_kinds, aI cI (b 2) 6 b_sizes, aI cI (b 3) 72 b_sorts, aJ cJ (b 4) 72 b_numbers, aI cI (b 5) 8 b_weights, aI cI (b 6) 4 b_keySlots, aI cI (b 7) 4 b_keyBys, aI cI (b 8) 4 b_keyWays, oX4 r u.2.2.2, aI cI (r 1) 12 u.1, aI cI (r 2) 12 u.2.1, aI cI (r 3) 12 u.2.2.1])) hx hb hr hS dX5_rank_72 hP er hlocks
      replace hf := oel c4 hf
      by_cases c6 : x2 = 1
      · replace hf := oif c6 hf
        refine cgI c6 ?_
        refine lv_tableIn (off := 45) (tgt := 73) hx hb dX5_rank_28 (by decide) (by decide) (by decide +kernel) (by decide) ?_
        refine lv_aload_n hx hb dX5_rank_73 rfl (lv_at hl 0 rfl) ?_
        refine va_get (D := D) (ci := 5) (v := .ref (r 0)) (C := RX5) (T := TX5) (N := 9) hx hb hts hI_X5 hown hK hP 0 rfl rfl 3 (by decide) gf33 (fun _ h9 => h9) rfl dX5_rank_74 ?_
        refine lv_iload_n hx hb dX5_rank_77 rfl (lv_at hl 1 rfl) ?_
        obtain ⟨z7, hz7, hf⟩ := obd hf
        refine kI (runV (As := [.int x1]) (rest := []) C0 hE hAb hP ((hD.weaken (fun _ _ _ h9 => hAb _ h9)).addr rfl) hS [10, 11] (wc := [oX4 r z1.2.2.2, aI cI (r 1) 12 z1.1]) (by decide) rfl 10 rfl rfl (c_X4_classesBelow l D cI cJ cZ cQ bs H.size r z1.2.2.2 z1.1 x1 z7 hz7) (cwV 1 hts gX5_rank_X4_classesBelow rfl rfl rfl (by decide +kernel) ⟨Nat.le_of_ble_eq_true rfl, Nat.le_of_ble_eq_true rfl⟩) rfl hl.1 rfl (Nat.le_of_ble_eq_true rfl) dX5_rank_78 ⟨Nat.le_of_ble_eq_true rfl, Nat.le_of_ble_eq_true rfl⟩) hS hP (fun H locs hP hS => ?_)
        have er := Option.some.inj hf
        exact rwI (wm := (fun u => [oX5 x b h k r q v x_random, oX0 b b_keyCount b_sheetSet b_handSort b_handNumber, aI cI (b 1) 6 b_kinds, aI cI (b 2) 6 b_sizes, aI cI (b 3) 72 b_sorts, aJ cJ (b 4) 72 b_numbers, aI cI (b 5) 8 b_weights, aI cI (b 6) 4 b_keySlots, aI cI (b 7) 4 b_keyBys, aI cI (b 8) 4 b_keyWays, oX4 r u.2.2.2, aI cI (r 1) 12 u.1, aI cI (r 2) 12 u.2.1, aI cI (r 3) 12 u.2.2.1])) hx hb hr hS dX5_rank_81 hP er hlocks
      replace hf := oel c6 hf
      by_cases c8 : x2 = 2
      · replace hf := oif c8 hf
        refine cgI c8 ?_
        refine lv_tableIn (off := 54) (tgt := 82) hx hb dX5_rank_28 (by decide) (by decide) (by decide +kernel) (by decide) ?_
        refine lv_aload_n hx hb dX5_rank_82 rfl (lv_at hl 0 rfl) ?_
        refine va_get (D := D) (ci := 5) (v := .ref (r 0)) (C := RX5) (T := TX5) (N := 9) hx hb hts hI_X5 hown hK hP 0 rfl rfl 3 (by decide) gf33 (fun _ h9 => h9) rfl dX5_rank_83 ?_
        refine lv_iload_n hx hb dX5_rank_86 rfl (lv_at hl 1 rfl) ?_
        obtain ⟨z9, hz9, hf⟩ := obd hf
        refine kI (runV (As := [.int x1]) (rest := []) C0 hE hAb hP ((hD.weaken (fun _ _ _ h9 => hAb _ h9)).addr rfl) hS [10, 12] (wc := [oX4 r z1.2.2.2, aI cI (r 2) 12 z1.2.1]) (by decide) rfl 10 rfl rfl (c_X4_positionOf l D cI cJ cZ cQ bs H.size r z1.2.2.2 z1.2.1 x1 z9 hz9) (cwV 1 hts gX5_rank_X4_positionOf rfl rfl rfl (by decide +kernel) ⟨Nat.le_of_ble_eq_true rfl, Nat.le_of_ble_eq_true rfl⟩) rfl hl.1 rfl (Nat.le_of_ble_eq_true rfl) dX5_rank_87 ⟨Nat.le_of_ble_eq_true rfl, Nat.le_of_ble_eq_true rfl⟩) hS hP (fun H locs hP hS => ?_)
        have er := Option.some.inj hf
        exact rwI (wm := (fun u => [oX5 x b h k r q v x_random, oX0 b b_keyCount b_sheetSet b_handSort b_handNumber, aI cI (b 1) 6 b_kinds, aI cI (b 2) 6 b_sizes, aI cI (b 3) 72 b_sorts, aJ cJ (b 4) 72 b_numbers, aI cI (b 5) 8 b_weights, aI cI (b 6) 4 b_keySlots, aI cI (b 7) 4 b_keyBys, aI cI (b 8) 4 b_keyWays, oX4 r u.2.2.2, aI cI (r 1) 12 u.1, aI cI (r 2) 12 u.2.1, aI cI (r 3) 12 u.2.2.1])) hx hb hr hS dX5_rank_90 hP er hlocks
      replace hf := oel c8 hf
      by_cases c10 : x2 = 3
      · replace hf := oif c10 hf
        refine cgI c10 ?_
        refine lv_tableIn (off := 63) (tgt := 91) hx hb dX5_rank_28 (by decide) (by decide) (by decide +kernel) (by decide) ?_
        refine lv_aload_n hx hb dX5_rank_91 rfl (lv_at hl 0 rfl) ?_
        refine va_get (D := D) (ci := 5) (v := .ref (r 0)) (C := RX5) (T := TX5) (N := 9) hx hb hts hI_X5 hown hK hP 0 rfl rfl 3 (by decide) gf33 (fun _ h9 => h9) rfl dX5_rank_92 ?_
        refine lv_iload_n hx hb dX5_rank_95 rfl (lv_at hl 1 rfl) ?_
        obtain ⟨z11, hz11, hf⟩ := obd hf
        refine kI (runV (As := [.int x1]) (rest := []) C0 hE hAb hP ((hD.weaken (fun _ _ _ h9 => hAb _ h9)).addr rfl) hS [10, 11] (wc := [oX4 r z1.2.2.2, aI cI (r 1) 12 z1.1]) (by decide) rfl 10 rfl rfl (c_X4_alikeTo l D cI cJ cZ cQ bs H.size r z1.2.2.2 z1.1 x1 z11 hz11) (cwV 1 hts gX5_rank_X4_alikeTo rfl rfl rfl (by decide +kernel) ⟨Nat.le_of_ble_eq_true rfl, Nat.le_of_ble_eq_true rfl⟩) rfl hl.1 rfl (Nat.le_of_ble_eq_true rfl) dX5_rank_96 ⟨Nat.le_of_ble_eq_true rfl, Nat.le_of_ble_eq_true rfl⟩) hS hP (fun H locs hP hS => ?_)
        have er := Option.some.inj hf
        exact rwI (wm := (fun u => [oX5 x b h k r q v x_random, oX0 b b_keyCount b_sheetSet b_handSort b_handNumber, aI cI (b 1) 6 b_kinds, aI cI (b 2) 6 b_sizes, aI cI (b 3) 72 b_sorts, aJ cJ (b 4) 72 b_numbers, aI cI (b 5) 8 b_weights, aI cI (b 6) 4 b_keySlots, aI cI (b 7) 4 b_keyBys, aI cI (b 8) 4 b_keyWays, oX4 r u.2.2.2, aI cI (r 1) 12 u.1, aI cI (r 2) 12 u.2.1, aI cI (r 3) 12 u.2.2.1])) hx hb hr hS dX5_rank_99 hP er hlocks
      replace hf := oel c10 hf
      by_cases c12 : x2 = 4
      · replace hf := oif c12 hf
        refine cgI c12 ?_
        refine lv_tableIn (off := 72) (tgt := 100) hx hb dX5_rank_28 (by decide) (by decide) (by decide +kernel) (by decide) ?_
        refine lv_aload_n hx hb dX5_rank_100 rfl (lv_at hl 0 rfl) ?_
        refine va_get (D := D) (ci := 5) (v := .ref (r 0)) (C := RX5) (T := TX5) (N := 9) hx hb hts hI_X5 hown hK hP 0 rfl rfl 3 (by decide) gf33 (fun _ h9 => h9) rfl dX5_rank_101 ?_
        refine lv_iload_n hx hb dX5_rank_104 rfl (lv_at hl 1 rfl) ?_
        obtain ⟨z13, hz13, hf⟩ := obd hf
        refine kI (runV (As := [.int x1]) (rest := []) C0 hE hAb hP ((hD.weaken (fun _ _ _ h9 => hAb _ h9)).addr rfl) hS [10, 13] (wc := [oX4 r z1.2.2.2, aI cI (r 3) 12 z1.2.2.1]) (by decide) rfl 10 rfl rfl (c_X4_placeAt l D cI cJ cZ cQ bs H.size r z1.2.2.2 z1.2.2.1 x1 z13 hz13) (cwV 1 hts gX5_rank_X4_placeAt rfl rfl rfl (by decide +kernel) ⟨Nat.le_of_ble_eq_true rfl, Nat.le_of_ble_eq_true rfl⟩) rfl hl.1 rfl (Nat.le_of_ble_eq_true rfl) dX5_rank_105 ⟨Nat.le_of_ble_eq_true rfl, Nat.le_of_ble_eq_true rfl⟩) hS hP (fun H locs hP hS => ?_)
        have er := Option.some.inj hf
        exact rwI (wm := (fun u => [oX5 x b h k r q v x_random, oX0 b b_keyCount b_sheetSet b_handSort b_handNumber, aI cI (b 1) 6 b_kinds, aI cI (b 2) 6 b_sizes, aI cI (b 3) 72 b_sorts, aJ cJ (b 4) 72 b_numbers, aI cI (b 5) 8 b_weights, aI cI (b 6) 4 b_keySlots, aI cI (b 7) 4 b_keyBys, aI cI (b 8) 4 b_keyWays, oX4 r u.2.2.2, aI cI (r 1) 12 u.1, aI cI (r 2) 12 u.2.1, aI cI (r 3) 12 u.2.2.1])) hx hb hr hS dX5_rank_108 hP er hlocks
      replace hf := oel c12 hf
      refine lv_tableOut (tgt := 109) hx hb dX5_rank_28 (by have a0 := lv_neT c4 (a := 0) (by decide); have a1 := lv_neT c6 (a := 1) (by decide); have a2 := lv_neT c8 (a := 2) (by decide); have a3 := lv_neT c10 (a := 3) (by decide); have a4 := lv_neT c12 (a := 4) (by decide); omega) (by decide) ?_
      refine lv_ldc hx hb hown gk94 dX5_rank_109 ?_
      have er := Option.some.inj hf
      exact rwI (wm := (fun u => [oX5 x b h k r q v x_random, oX0 b b_keyCount b_sheetSet b_handSort b_handNumber, aI cI (b 1) 6 b_kinds, aI cI (b 2) 6 b_sizes, aI cI (b 3) 72 b_sorts, aJ cJ (b 4) 72 b_numbers, aI cI (b 5) 8 b_weights, aI cI (b 6) 4 b_keySlots, aI cI (b 7) 4 b_keyBys, aI cI (b 8) 4 b_keyWays, oX4 r u.2.2.2, aI cI (r 1) 12 u.1, aI cI (r 2) 12 u.2.1, aI cI (r 3) 12 u.2.2.1])) hx hb hr hS dX5_rank_111 hP er hlocks
    · replace hf := oif c3 hf
      refine lv_ldc hx hb hown gk99 dX5_rank_24 ?_
      have er := Option.some.inj hf
      exact rwI (wm := (fun u => [oX5 x b h k r q v x_random, oX0 b b_keyCount b_sheetSet b_handSort b_handNumber, aI cI (b 1) 6 b_kinds, aI cI (b 2) 6 b_sizes, aI cI (b 3) 72 b_sorts, aJ cJ (b 4) 72 b_numbers, aI cI (b 5) 8 b_weights, aI cI (b 6) 4 b_keySlots, aI cI (b 7) 4 b_keyBys, aI cI (b 8) 4 b_keyWays, oX4 r u.2.2.2, aI cI (r 1) 12 u.1, aI cI (r 2) 12 u.2.1, aI cI (r 3) 12 u.2.2.1])) hx hb hr hS dX5_rank_26 hP er hlocks
  exact go s.heap [] hP hS
noncomputable def f_X5_compare (b_kinds : Nat → Int32) (b_sizes : Nat → Int32) (b_sorts : Nat → Int32) (b_numbers : Nat → Int64) (b_weights : Nat → Int32) (b_keySlots : Nat → Int32) (b_keyBys : Nat → Int32) (b_keyWays : Nat → Int32) (b_keyCount : Int32) (b_sheetSet : Int32) (x1 : Int32) (x2 : Int32) : Option (Int32) := (f_X0_length b_kinds b_sizes b_keySlots b_keyBys b_keyCount b_sheetSet).bind (fun z1 => (f_X5_isIn x1 0 (z1 - (1 : Int32))).bind (fun z2 => if z2 = 0 then (some ((-1000000001))) else ((f_X5_isIn x2 0 (z1 - (1 : Int32))).bind (fun z4 => if z4 = 0 then (some ((-1000000001))) else ((f_X0_comparePlaces b_sorts b_numbers b_weights b_keySlots b_keyBys b_keyWays b_keyCount x1 x2 15).bind (fun z6 => (f_X5_relation z6).bind (fun z7 => some (z7))))))))
set_option maxHeartbeats 4000000 in
set_option maxRecDepth 100000 in
theorem c_X5_compare (l : Launch) (D : va_G) (cI cJ cZ cQ : ClassId) (bs sz : Nat) (x : Nat → Nat) (b : Nat → Nat) (h : Nat → Nat) (k : Nat → Nat) (r : Nat → Nat) (q : Nat → Nat) (v : Nat → Nat) (x_random : Int32) (b_keyCount : Int32) (b_sheetSet : Int32) (b_handSort : Int32) (b_handNumber : Int64) (b_kinds : Nat → Int32) (b_sizes : Nat → Int32) (b_sorts : Nat → Int32) (b_numbers : Nat → Int64) (b_weights : Nat → Int32) (b_keySlots : Nat → Int32) (b_keyBys : Nat → Int32) (b_keyWays : Nat → Int32) (x1 : Int32) (x2 : Int32) (zr : Int32) (hf : f_X5_compare b_kinds b_sizes b_sorts b_numbers b_weights b_keySlots b_keyBys b_keyWays b_keyCount b_sheetSet x1 x2 = some zr) : Met l yX5_compare wsX5_compare { frames := 4, cells := 0, slots := 0, locals := 98 } (va_Pc [.ref (x 0), .int x1, .int x2] (Pr D cI cJ cZ cQ bs sz [oX5 x b h k r q v x_random, oX0 b b_keyCount b_sheetSet b_handSort b_handNumber, aI cI (b 1) 6 b_kinds, aI cI (b 2) 6 b_sizes, aI cI (b 3) 72 b_sorts, aJ cJ (b 4) 72 b_numbers, aI cI (b 5) 8 b_weights, aI cI (b 6) 4 b_keySlots, aI cI (b 7) 4 b_keyBys, aI cI (b 8) 4 b_keyWays])) (QrI zr) 0 0 no := by
  refine stM (cc := cX5_compare) (maxL := 4) (ret := (some .int)) (by decide +kernel) rfl (Nat.le_of_ble_eq_true rfl) ?_
  intro p e s m args below meth c C0 hr hlocks hname hsz hP hDb hE ls hl
  have hAb : ∀ q, no q → bs ≤ q := fun _ h => h.elim
  obtain ⟨hx, hb, hml, hown, hts⟩ := id C0
  have hown : s.vm.findClass RX5 = some m.cls := hown
  obtain ⟨hK, hNW, -, tw, hZ, hT⟩ := id hE
  have hl : lv_has ls 4 [(0, .ref (x 0)), (1, .int x1), (2, .int x2)] := hl
  have hS : va_S no s.heap s.heap [] := va_S.rf
  have hI_X5 := (show ∀ w ∈ wsX50, w ∈ wsX5_compare by decide +kernel)
  have gf10 := hts (.fieldLink RX5 10 "RowRanks" "bench" "LRowRanks$Bench;") (by decide +kernel)
  have gk99 := hts (.constant RX5 99 (-1000000001)) (by decide +kernel)
  unfold f_X5_compare at hf
  have go : ∀ (H : Heap) (locs : List Loc), va_P D vwCl [oX5 x b h k r q v x_random, oX0 b b_keyCount b_sheetSet b_handSort b_handNumber, aI cI (b 1) 6 b_kinds, aI cI (b 2) 6 b_sizes, aI cI (b 3) 72 b_sorts, aJ cJ (b 4) 72 b_numbers, aI cI (b 5) 8 b_weights, aI cI (b 6) 4 b_keySlots, aI cI (b 7) 4 b_keyBys, aI cI (b 8) 4 b_keyWays] H → va_S no s.heap H locs → W p l e { frames := 4, cells := 0, slots := 0, locals := 98 } s m args below meth c H locs 0 0 (MQ below (QrI zr) args s 0 0 no) (F0 m 0 ls []) := by
    intro H locs hP hS
    refine lv_aload_n hx hb dX5_compare_0 rfl (lv_at hl 0 rfl) ?_
    refine va_get (D := D) (ci := 5) (v := .ref (b 0)) (C := RX5) (T := TX5) (N := 9) hx hb hts hI_X5 hown hK hP 0 rfl rfl 0 (by decide) gf10 (fun _ h9 => h9) rfl dX5_compare_1 ?_
    obtain ⟨z1, hz1, hf⟩ := obd hf
    refine kI (runV (As := []) (rest := []) C0 hE hAb hP (hDb.addr rfl) hS [1, 2, 3, 7, 8] (wc := [oX0 b b_keyCount b_sheetSet b_handSort b_handNumber, aI cI (b 1) 6 b_kinds, aI cI (b 2) 6 b_sizes, aI cI (b 6) 4 b_keySlots, aI cI (b 7) 4 b_keyBys]) (by decide) rfl 1 rfl rfl (c_X0_length l D cI cJ cZ cQ bs H.size b b_keyCount b_sheetSet b_handSort b_handNumber b_kinds b_sizes b_keySlots b_keyBys z1 hz1) (cwV 0 hts gX5_compare_X0_length rfl rfl rfl (by decide +kernel) ⟨Nat.le_of_ble_eq_true rfl, Nat.le_of_ble_eq_true rfl⟩) rfl hl.1 rfl (Nat.le_of_ble_eq_true rfl) dX5_compare_4 ⟨Nat.le_of_ble_eq_true rfl, Nat.le_of_ble_eq_true rfl⟩) hS hP (fun H locs hP hS => ?_)
    refine lv_istore_n (lv' := [(3, .int z1), (0, .ref (x 0)), (1, .int x1), (2, .int x2)]) hx hb dX5_compare_7 rfl hl (by decide) rfl (fun ls hl => ?_)
    refine lv_iload_n hx hb dX5_compare_8 rfl (lv_at hl 2 rfl) ?_
    refine lv_iconst (v := 0) hx hb dX5_compare_9 (by decide) ?_
    refine lv_iload_n hx hb dX5_compare_10 rfl (lv_at hl 0 rfl) ?_
    refine lv_iconst (v := 1) hx hb dX5_compare_11 (by decide) ?_
    refine lv_isub hx hb dX5_compare_12 ?_
    obtain ⟨z2, hz2, hf⟩ := obd hf
    refine kZ (runS (As := [.int x1, .int 0, .int (z1 - (1 : Int32))]) (rest := []) C0 hE hAb hP (hDb.addr rfl) hS [] (wc := []) (by decide) rfl (c_X5_isIn l D cI cJ cZ cQ bs H.size x1 0 (z1 - (1 : Int32)) z2 hz2) (va_cwS 3 hts gX5_compare_X5_isIn rfl rfl rfl (by decide +kernel) ⟨Nat.le_of_ble_eq_true rfl, Nat.le_of_ble_eq_true rfl⟩) rfl hl.1 rfl (Nat.le_of_ble_eq_true rfl) dX5_compare_13 ⟨Nat.le_of_ble_eq_true rfl, Nat.le_of_ble_eq_true rfl⟩) hS hP (fun bz2 H locs hP hS => ?_)
    refine lv_if_eq (tgt := 30) hx hb dX5_compare_16 (by decide) (fun c3 => ?_) (fun c3 => ?_)
    · replace hf := oif c3 hf
      refine lv_ldc hx hb hown gk99 dX5_compare_30 ?_
      have er := Option.some.inj hf
      exact rtI hx hb hr hS dX5_compare_32 er hlocks
    · replace hf := oel c3 hf
      refine lv_iload_n hx hb dX5_compare_19 rfl (lv_at hl 3 rfl) ?_
      refine lv_iconst (v := 0) hx hb dX5_compare_20 (by decide) ?_
      refine lv_iload_n hx hb dX5_compare_21 rfl (lv_at hl 0 rfl) ?_
      refine lv_iconst (v := 1) hx hb dX5_compare_22 (by decide) ?_
      refine lv_isub hx hb dX5_compare_23 ?_
      obtain ⟨z4, hz4, hf⟩ := obd hf
      refine kZ (runS (As := [.int x2, .int 0, .int (z1 - (1 : Int32))]) (rest := []) C0 hE hAb hP (hDb.addr rfl) hS [] (wc := []) (by decide) rfl (c_X5_isIn l D cI cJ cZ cQ bs H.size x2 0 (z1 - (1 : Int32)) z4 hz4) (va_cwS 3 hts gX5_compare_X5_isIn rfl rfl rfl (by decide +kernel) ⟨Nat.le_of_ble_eq_true rfl, Nat.le_of_ble_eq_true rfl⟩) rfl hl.1 rfl (Nat.le_of_ble_eq_true rfl) dX5_compare_24 ⟨Nat.le_of_ble_eq_true rfl, Nat.le_of_ble_eq_true rfl⟩) hS hP (fun bz4 H locs hP hS => ?_)
      refine lv_if_ne (tgt := 33) hx hb dX5_compare_27 (by decide) (fun c5 => ?_) (fun c5 => ?_)
      · replace hf := oel c5 hf
        refine lv_aload_n hx hb dX5_compare_33 rfl (lv_at hl 1 rfl) ?_
        refine va_get (D := D) (ci := 5) (v := .ref (b 0)) (C := RX5) (T := TX5) (N := 9) hx hb hts hI_X5 hown hK hP 0 rfl rfl 0 (by decide) gf10 (fun _ h9 => h9) rfl dX5_compare_34 ?_
        refine lv_iload_n hx hb dX5_compare_37 rfl (lv_at hl 2 rfl) ?_
        refine lv_iload_n hx hb dX5_compare_38 rfl (lv_at hl 3 rfl) ?_
        refine lv_bipush (v := 15) hx hb dX5_compare_39 (by decide) ?_
        obtain ⟨z6, hz6, hf⟩ := obd hf
        refine kI (runV (As := [.int x1, .int x2, .int 15]) (rest := []) C0 hE hAb hP (hDb.addr rfl) hS [1, 4, 5, 6, 7, 8, 9] (wc := [oX0 b b_keyCount b_sheetSet b_handSort b_handNumber, aI cI (b 3) 72 b_sorts, aJ cJ (b 4) 72 b_numbers, aI cI (b 5) 8 b_weights, aI cI (b 6) 4 b_keySlots, aI cI (b 7) 4 b_keyBys, aI cI (b 8) 4 b_keyWays]) (by decide) rfl 1 rfl rfl (c_X0_comparePlaces l D cI cJ cZ cQ bs H.size b b_keyCount b_sheetSet b_handSort b_handNumber b_sorts b_numbers b_weights b_keySlots b_keyBys b_keyWays x1 x2 15 z6 hz6) (cwV 3 hts gX5_compare_X0_comparePlaces rfl rfl rfl (by decide +kernel) ⟨Nat.le_of_ble_eq_true rfl, Nat.le_of_ble_eq_true rfl⟩) rfl hl.1 rfl (Nat.le_of_ble_eq_true rfl) dX5_compare_41 ⟨Nat.le_of_ble_eq_true rfl, Nat.le_of_ble_eq_true rfl⟩) hS hP (fun H locs hP hS => ?_)
        obtain ⟨z7, hz7, hf⟩ := obd hf
        refine kI (runS (As := [.int z6]) (rest := []) C0 hE hAb hP (hDb.addr rfl) hS [] (wc := []) (by decide) rfl (c_X5_relation l D cI cJ cZ cQ bs H.size z6 z7 hz7) (va_cwS 1 hts gX5_compare_X5_relation rfl rfl rfl (by decide +kernel) ⟨Nat.le_of_ble_eq_true rfl, Nat.le_of_ble_eq_true rfl⟩) rfl hl.1 rfl (Nat.le_of_ble_eq_true rfl) dX5_compare_44 ⟨Nat.le_of_ble_eq_true rfl, Nat.le_of_ble_eq_true rfl⟩) hS hP (fun H locs hP hS => ?_)
        have er := Option.some.inj hf
        exact rtI hx hb hr hS dX5_compare_47 er hlocks
      · replace hf := oif c5 hf
        refine lv_ldc hx hb hown gk99 dX5_compare_30 ?_
        have er := Option.some.inj hf
        exact rtI hx hb hr hS dX5_compare_32 er hlocks
  exact go s.heap [] hP hS
noncomputable def f_X5_below (b_kinds : Nat → Int32) (b_sizes : Nat → Int32) (b_sorts : Nat → Int32) (b_numbers : Nat → Int64) (b_weights : Nat → Int32) (b_handSort : Int32) (b_handNumber : Int64) (x1 : Int32) (x2 : Int32) (x3 : Int32) : Option (Int32) := (f_X5_isSlot x1).bind (fun z1 => if z1 = 0 then (some ((-1000000001))) else ((f_X5_isIn x2 0 8).bind (fun z3 => if z3 = 0 then (some ((-1000000002))) else ((f_X5_isIn x3 0 1).bind (fun z5 => if z5 = 0 then (some ((-1000000002))) else ((f_X0_holdsArray b_kinds x1).bind (fun z7 => if z7 = 0 then (some ((-1))) else (if x2 = 8 then ((f_X0_sizeOf b_sizes x1).bind (fun z10 => if z10 ≤ 0 then (if x3 = 0 then ((f_X0_cellsAgainstHand b_sizes b_sorts b_numbers b_weights b_handSort b_handNumber x1 x2 0).bind (fun z14 => some (z14))) else ((f_X0_cellsAgainstHand b_sizes b_sorts b_numbers b_weights b_handSort b_handNumber x1 x2 1).bind (fun z13 => some (z13)))) else ((f_X0_canRead b_kinds x1 x2).bind (fun z15 => if z15 = 0 then (some ((-1))) else (if x3 = 0 then ((f_X0_cellsAgainstHand b_sizes b_sorts b_numbers b_weights b_handSort b_handNumber x1 x2 0).bind (fun z19 => some (z19))) else ((f_X0_cellsAgainstHand b_sizes b_sorts b_numbers b_weights b_handSort b_handNumber x1 x2 1).bind (fun z18 => some (z18)))))))) else ((f_X5_fits b_handSort x2).bind (fun z20 => if z20 = 0 then (some ((-1))) else ((f_X0_sizeOf b_sizes x1).bind (fun z22 => if z22 ≤ 0 then (if x3 = 0 then ((f_X0_cellsAgainstHand b_sizes b_sorts b_numbers b_weights b_handSort b_handNumber x1 x2 0).bind (fun z26 => some (z26))) else ((f_X0_cellsAgainstHand b_sizes b_sorts b_numbers b_weights b_handSort b_handNumber x1 x2 1).bind (fun z25 => some (z25)))) else ((f_X0_canRead b_kinds x1 x2).bind (fun z27 => if z27 = 0 then (some ((-1))) else (if x3 = 0 then ((f_X0_cellsAgainstHand b_sizes b_sorts b_numbers b_weights b_handSort b_handNumber x1 x2 0).bind (fun z31 => some (z31))) else ((f_X0_cellsAgainstHand b_sizes b_sorts b_numbers b_weights b_handSort b_handNumber x1 x2 1).bind (fun z30 => some (z30))))))))))))))))))
set_option maxHeartbeats 4000000 in
set_option maxRecDepth 100000 in
theorem c_X5_below (l : Launch) (D : va_G) (cI cJ cZ cQ : ClassId) (bs sz : Nat) (x : Nat → Nat) (b : Nat → Nat) (h : Nat → Nat) (k : Nat → Nat) (r : Nat → Nat) (q : Nat → Nat) (v : Nat → Nat) (x_random : Int32) (b_keyCount : Int32) (b_sheetSet : Int32) (b_handSort : Int32) (b_handNumber : Int64) (b_kinds : Nat → Int32) (b_sizes : Nat → Int32) (b_sorts : Nat → Int32) (b_numbers : Nat → Int64) (b_weights : Nat → Int32) (x1 : Int32) (x2 : Int32) (x3 : Int32) (zr : Int32) (hf : f_X5_below b_kinds b_sizes b_sorts b_numbers b_weights b_handSort b_handNumber x1 x2 x3 = some zr) : Met l yX5_below wsX5_below { frames := 4, cells := 0, slots := 0, locals := 97 } (va_Pc [.ref (x 0), .int x1, .int x2, .int x3] (Pr D cI cJ cZ cQ bs sz [oX5 x b h k r q v x_random, oX0 b b_keyCount b_sheetSet b_handSort b_handNumber, aI cI (b 1) 6 b_kinds, aI cI (b 2) 6 b_sizes, aI cI (b 3) 72 b_sorts, aJ cJ (b 4) 72 b_numbers, aI cI (b 5) 8 b_weights])) (QrI zr) 0 0 no := by
  refine stM (cc := cX5_below) (maxL := 4) (ret := (some .int)) (by decide +kernel) rfl (Nat.le_of_ble_eq_true rfl) ?_
  intro p e s m args below meth c C0 hr hlocks hname hsz hP hDb hE ls hl
  have hAb : ∀ q, no q → bs ≤ q := fun _ h => h.elim
  obtain ⟨hx, hb, hml, hown, hts⟩ := id C0
  have hown : s.vm.findClass RX5 = some m.cls := hown
  obtain ⟨hK, hNW, -, tw, hZ, hT⟩ := id hE
  have hl : lv_has ls 4 [(0, .ref (x 0)), (1, .int x1), (2, .int x2), (3, .int x3)] := hl
  have hS : va_S no s.heap s.heap [] := va_S.rf
  have gk94 := hts (.constant RX5 94 (-1000000002)) (by decide +kernel)
  have hI_X5 := (show ∀ w ∈ wsX50, w ∈ wsX5_below by decide +kernel)
  have gf10 := hts (.fieldLink RX5 10 "RowRanks" "bench" "LRowRanks$Bench;") (by decide +kernel)
  have hI_X0 := (show ∀ w ∈ wsX00, w ∈ wsX5_below by decide +kernel)
  have gf129 := hNW (.fieldLinkNest RX5 129 RX0 "handSort" "I" RX5) (by decide +kernel)
  have gk99 := hts (.constant RX5 99 (-1000000001)) (by decide +kernel)
  unfold f_X5_below at hf
  have go : ∀ (H : Heap) (locs : List Loc), va_P D vwCl [oX5 x b h k r q v x_random, oX0 b b_keyCount b_sheetSet b_handSort b_handNumber, aI cI (b 1) 6 b_kinds, aI cI (b 2) 6 b_sizes, aI cI (b 3) 72 b_sorts, aJ cJ (b 4) 72 b_numbers, aI cI (b 5) 8 b_weights] H → va_S no s.heap H locs → W p l e { frames := 4, cells := 0, slots := 0, locals := 97 } s m args below meth c H locs 0 0 (MQ below (QrI zr) args s 0 0 no) (F0 m 0 ls []) := by
    intro H locs hP hS
    refine lv_iload_n hx hb dX5_below_0 rfl (lv_at hl 1 rfl) ?_
    obtain ⟨z1, hz1, hf⟩ := obd hf
    refine kZ (runS (As := [.int x1]) (rest := []) C0 hE hAb hP (hDb.addr rfl) hS [] (wc := []) (by decide) rfl (c_X5_isSlot l D cI cJ cZ cQ bs H.size x1 z1 hz1) (va_cwS 1 hts gX5_below_X5_isSlot rfl rfl rfl (by decide +kernel) ⟨Nat.le_of_ble_eq_true rfl, Nat.le_of_ble_eq_true rfl⟩) rfl hl.1 rfl (Nat.le_of_ble_eq_true rfl) dX5_below_1 ⟨Nat.le_of_ble_eq_true rfl, Nat.le_of_ble_eq_true rfl⟩) hS hP (fun bz1 H locs hP hS => ?_)
    refine lv_if_ne (tgt := 10) hx hb dX5_below_4 (by decide) (fun c2 => ?_) (fun c2 => ?_)
    · replace hf := oel c2 hf
      refine lv_iload_n hx hb dX5_below_10 rfl (lv_at hl 2 rfl) ?_
      refine lv_iconst (v := 0) hx hb dX5_below_11 (by decide) ?_
      refine lv_bipush (v := 8) hx hb dX5_below_12 (by decide) ?_
      obtain ⟨z3, hz3, hf⟩ := obd hf
      refine kZ (runS (As := [.int x2, .int 0, .int 8]) (rest := []) C0 hE hAb hP (hDb.addr rfl) hS [] (wc := []) (by decide) rfl (c_X5_isIn l D cI cJ cZ cQ bs H.size x2 0 8 z3 hz3) (va_cwS 3 hts gX5_below_X5_isIn rfl rfl rfl (by decide +kernel) ⟨Nat.le_of_ble_eq_true rfl, Nat.le_of_ble_eq_true rfl⟩) rfl hl.1 rfl (Nat.le_of_ble_eq_true rfl) dX5_below_14 ⟨Nat.le_of_ble_eq_true rfl, Nat.le_of_ble_eq_true rfl⟩) hS hP (fun bz3 H locs hP hS => ?_)
      refine lv_if_eq (tgt := 29) hx hb dX5_below_17 (by decide) (fun c4 => ?_) (fun c4 => ?_)
      · replace hf := oif c4 hf
        refine lv_ldc hx hb hown gk94 dX5_below_29 ?_
        have er := Option.some.inj hf
        exact rtI hx hb hr hS dX5_below_31 er hlocks
      · replace hf := oel c4 hf
        refine lv_iload_n hx hb dX5_below_20 rfl (lv_at hl 3 rfl) ?_
        refine lv_iconst (v := 0) hx hb dX5_below_21 (by decide) ?_
        refine lv_iconst (v := 1) hx hb dX5_below_22 (by decide) ?_
        obtain ⟨z5, hz5, hf⟩ := obd hf
        refine kZ (runS (As := [.int x3, .int 0, .int 1]) (rest := []) C0 hE hAb hP (hDb.addr rfl) hS [] (wc := []) (by decide) rfl (c_X5_isIn l D cI cJ cZ cQ bs H.size x3 0 1 z5 hz5) (va_cwS 3 hts gX5_below_X5_isIn rfl rfl rfl (by decide +kernel) ⟨Nat.le_of_ble_eq_true rfl, Nat.le_of_ble_eq_true rfl⟩) rfl hl.1 rfl (Nat.le_of_ble_eq_true rfl) dX5_below_23 ⟨Nat.le_of_ble_eq_true rfl, Nat.le_of_ble_eq_true rfl⟩) hS hP (fun bz5 H locs hP hS => ?_)
        refine lv_if_ne (tgt := 32) hx hb dX5_below_26 (by decide) (fun c6 => ?_) (fun c6 => ?_)
        · replace hf := oel c6 hf
          refine lv_aload_n hx hb dX5_below_32 rfl (lv_at hl 0 rfl) ?_
          refine va_get (D := D) (ci := 5) (v := .ref (b 0)) (C := RX5) (T := TX5) (N := 9) hx hb hts hI_X5 hown hK hP 0 rfl rfl 0 (by decide) gf10 (fun _ h9 => h9) rfl dX5_below_33 ?_
          refine lv_iload_n hx hb dX5_below_36 rfl (lv_at hl 1 rfl) ?_
          obtain ⟨z7, hz7, hf⟩ := obd hf
          refine kZ (runV (As := [.int x1]) (rest := []) C0 hE hAb hP (hDb.addr rfl) hS [1, 2] (wc := [oX0 b b_keyCount b_sheetSet b_handSort b_handNumber, aI cI (b 1) 6 b_kinds]) (by decide) rfl 1 rfl rfl (c_X0_holdsArray l D cI cJ cZ cQ bs H.size b b_keyCount b_sheetSet b_handSort b_handNumber b_kinds x1 z7 hz7) (cwV 1 hts gX5_below_X0_holdsArray rfl rfl rfl (by decide +kernel) ⟨Nat.le_of_ble_eq_true rfl, Nat.le_of_ble_eq_true rfl⟩) rfl hl.1 rfl (Nat.le_of_ble_eq_true rfl) dX5_below_37 ⟨Nat.le_of_ble_eq_true rfl, Nat.le_of_ble_eq_true rfl⟩) hS hP (fun bz7 H locs hP hS => ?_)
          refine lv_if_eq (tgt := 63) hx hb dX5_below_40 (by decide) (fun c8 => ?_) (fun c8 => ?_)
          · replace hf := oif c8 hf
            refine lv_iconst (v := (-1)) hx hb dX5_below_63 (by decide) ?_
            have er := Option.some.inj hf
            exact rtI hx hb hr hS dX5_below_64 er hlocks
          · replace hf := oel c8 hf
            refine lv_iload_n hx hb dX5_below_43 rfl (lv_at hl 2 rfl) ?_
            refine lv_bipush (v := 8) hx hb dX5_below_44 (by decide) ?_
            refine lv_icmp_eq (tgt := 65) hx hb dX5_below_46 (by decide) (fun c9 => ?_) (fun c9 => ?_)
            · replace hf := oif c9 hf
              refine lv_aload_n hx hb dX5_below_65 rfl (lv_at hl 0 rfl) ?_
              refine va_get (D := D) (ci := 5) (v := .ref (b 0)) (C := RX5) (T := TX5) (N := 9) hx hb hts hI_X5 hown hK hP 0 rfl rfl 0 (by decide) gf10 (fun _ h9 => h9) rfl dX5_below_66 ?_
              refine lv_iload_n hx hb dX5_below_69 rfl (lv_at hl 1 rfl) ?_
              obtain ⟨z10, hz10, hf⟩ := obd hf
              refine kI (runV (As := [.int x1]) (rest := []) C0 hE hAb hP (hDb.addr rfl) hS [1, 3] (wc := [oX0 b b_keyCount b_sheetSet b_handSort b_handNumber, aI cI (b 2) 6 b_sizes]) (by decide) rfl 1 rfl rfl (c_X0_sizeOf l D cI cJ cZ cQ bs H.size b b_keyCount b_sheetSet b_handSort b_handNumber b_sizes x1 z10 hz10) (cwV 1 hts gX5_below_X0_sizeOf rfl rfl rfl (by decide +kernel) ⟨Nat.le_of_ble_eq_true rfl, Nat.le_of_ble_eq_true rfl⟩) rfl hl.1 rfl (Nat.le_of_ble_eq_true rfl) dX5_below_70 ⟨Nat.le_of_ble_eq_true rfl, Nat.le_of_ble_eq_true rfl⟩) hS hP (fun H locs hP hS => ?_)
              refine lv_if_le (tgt := 90) hx hb dX5_below_73 (by decide) (fun c11 => ?_) (fun c11 => ?_)
              · replace hf := oif c11 hf
                refine lv_aload_n hx hb dX5_below_90 rfl (lv_at hl 0 rfl) ?_
                refine va_get (D := D) (ci := 5) (v := .ref (b 0)) (C := RX5) (T := TX5) (N := 9) hx hb hts hI_X5 hown hK hP 0 rfl rfl 0 (by decide) gf10 (fun _ h9 => h9) rfl dX5_below_91 ?_
                refine lv_iload_n hx hb dX5_below_94 rfl (lv_at hl 1 rfl) ?_
                refine lv_iload_n hx hb dX5_below_95 rfl (lv_at hl 2 rfl) ?_
                refine lv_iload_n hx hb dX5_below_96 rfl (lv_at hl 3 rfl) ?_
                refine lv_if_ne (tgt := 104) hx hb dX5_below_97 (by decide) (fun c12 => ?_) (fun c12 => ?_)
                · replace hf := oel c12 hf
                  refine lv_iconst (v := 1) hx hb dX5_below_104 (by decide) ?_
                  obtain ⟨z13, hz13, hf⟩ := obd hf
                  refine kI (runV (As := [.int x1, .int x2, .int 1]) (rest := []) C0 hE hAb hP (hDb.addr rfl) hS [1, 3, 4, 5, 6] (wc := [oX0 b b_keyCount b_sheetSet b_handSort b_handNumber, aI cI (b 2) 6 b_sizes, aI cI (b 3) 72 b_sorts, aJ cJ (b 4) 72 b_numbers, aI cI (b 5) 8 b_weights]) (by decide) rfl 1 rfl rfl (c_X0_cellsAgainstHand l D cI cJ cZ cQ bs H.size b b_keyCount b_sheetSet b_handSort b_handNumber b_sizes b_sorts b_numbers b_weights x1 x2 1 z13 hz13) (cwV 3 hts gX5_below_X0_cellsAgainstHand rfl rfl rfl (by decide +kernel) ⟨Nat.le_of_ble_eq_true rfl, Nat.le_of_ble_eq_true rfl⟩) rfl hl.1 rfl (Nat.le_of_ble_eq_true rfl) dX5_below_105 ⟨Nat.le_of_ble_eq_true rfl, Nat.le_of_ble_eq_true rfl⟩) hS hP (fun H locs hP hS => ?_)
                  have er := Option.some.inj hf
                  exact rtI hx hb hr hS dX5_below_108 er hlocks
                · replace hf := oif c12 hf
                  refine lv_iconst (v := 0) hx hb dX5_below_100 (by decide) ?_
                  refine lv_goto (tgt := 105) hx hb dX5_below_101 (by decide) ?_
                  obtain ⟨z14, hz14, hf⟩ := obd hf
                  refine kI (runV (As := [.int x1, .int x2, .int 0]) (rest := []) C0 hE hAb hP (hDb.addr rfl) hS [1, 3, 4, 5, 6] (wc := [oX0 b b_keyCount b_sheetSet b_handSort b_handNumber, aI cI (b 2) 6 b_sizes, aI cI (b 3) 72 b_sorts, aJ cJ (b 4) 72 b_numbers, aI cI (b 5) 8 b_weights]) (by decide) rfl 1 rfl rfl (c_X0_cellsAgainstHand l D cI cJ cZ cQ bs H.size b b_keyCount b_sheetSet b_handSort b_handNumber b_sizes b_sorts b_numbers b_weights x1 x2 0 z14 hz14) (cwV 3 hts gX5_below_X0_cellsAgainstHand rfl rfl rfl (by decide +kernel) ⟨Nat.le_of_ble_eq_true rfl, Nat.le_of_ble_eq_true rfl⟩) rfl hl.1 rfl (Nat.le_of_ble_eq_true rfl) dX5_below_105 ⟨Nat.le_of_ble_eq_true rfl, Nat.le_of_ble_eq_true rfl⟩) hS hP (fun H locs hP hS => ?_)
                  have er := Option.some.inj hf
                  exact rtI hx hb hr hS dX5_below_108 er hlocks
              · replace hf := oel c11 hf
                refine lv_aload_n hx hb dX5_below_76 rfl (lv_at hl 0 rfl) ?_
                refine va_get (D := D) (ci := 5) (v := .ref (b 0)) (C := RX5) (T := TX5) (N := 9) hx hb hts hI_X5 hown hK hP 0 rfl rfl 0 (by decide) gf10 (fun _ h9 => h9) rfl dX5_below_77 ?_
                refine lv_iload_n hx hb dX5_below_80 rfl (lv_at hl 1 rfl) ?_
                refine lv_iload_n hx hb dX5_below_81 rfl (lv_at hl 2 rfl) ?_
                obtain ⟨z15, hz15, hf⟩ := obd hf
                refine kZ (runV (As := [.int x1, .int x2]) (rest := []) C0 hE hAb hP (hDb.addr rfl) hS [1, 2] (wc := [oX0 b b_keyCount b_sheetSet b_handSort b_handNumber, aI cI (b 1) 6 b_kinds]) (by decide) rfl 1 rfl rfl (c_X0_canRead l D cI cJ cZ cQ bs H.size b b_keyCount b_sheetSet b_handSort b_handNumber b_kinds x1 x2 z15 hz15) (cwV 2 hts gX5_below_X0_canRead rfl rfl rfl (by decide +kernel) ⟨Nat.le_of_ble_eq_true rfl, Nat.le_of_ble_eq_true rfl⟩) rfl hl.1 rfl (Nat.le_of_ble_eq_true rfl) dX5_below_82 ⟨Nat.le_of_ble_eq_true rfl, Nat.le_of_ble_eq_true rfl⟩) hS hP (fun bz15 H locs hP hS => ?_)
                refine lv_if_ne (tgt := 90) hx hb dX5_below_85 (by decide) (fun c16 => ?_) (fun c16 => ?_)
                · replace hf := oel c16 hf
                  refine lv_aload_n hx hb dX5_below_90 rfl (lv_at hl 0 rfl) ?_
                  refine va_get (D := D) (ci := 5) (v := .ref (b 0)) (C := RX5) (T := TX5) (N := 9) hx hb hts hI_X5 hown hK hP 0 rfl rfl 0 (by decide) gf10 (fun _ h9 => h9) rfl dX5_below_91 ?_
                  refine lv_iload_n hx hb dX5_below_94 rfl (lv_at hl 1 rfl) ?_
                  refine lv_iload_n hx hb dX5_below_95 rfl (lv_at hl 2 rfl) ?_
                  refine lv_iload_n hx hb dX5_below_96 rfl (lv_at hl 3 rfl) ?_
                  refine lv_if_ne (tgt := 104) hx hb dX5_below_97 (by decide) (fun c17 => ?_) (fun c17 => ?_)
                  · replace hf := oel c17 hf
                    refine lv_iconst (v := 1) hx hb dX5_below_104 (by decide) ?_
                    obtain ⟨z18, hz18, hf⟩ := obd hf
                    refine kI (runV (As := [.int x1, .int x2, .int 1]) (rest := []) C0 hE hAb hP (hDb.addr rfl) hS [1, 3, 4, 5, 6] (wc := [oX0 b b_keyCount b_sheetSet b_handSort b_handNumber, aI cI (b 2) 6 b_sizes, aI cI (b 3) 72 b_sorts, aJ cJ (b 4) 72 b_numbers, aI cI (b 5) 8 b_weights]) (by decide) rfl 1 rfl rfl (c_X0_cellsAgainstHand l D cI cJ cZ cQ bs H.size b b_keyCount b_sheetSet b_handSort b_handNumber b_sizes b_sorts b_numbers b_weights x1 x2 1 z18 hz18) (cwV 3 hts gX5_below_X0_cellsAgainstHand rfl rfl rfl (by decide +kernel) ⟨Nat.le_of_ble_eq_true rfl, Nat.le_of_ble_eq_true rfl⟩) rfl hl.1 rfl (Nat.le_of_ble_eq_true rfl) dX5_below_105 ⟨Nat.le_of_ble_eq_true rfl, Nat.le_of_ble_eq_true rfl⟩) hS hP (fun H locs hP hS => ?_)
                    have er := Option.some.inj hf
                    exact rtI hx hb hr hS dX5_below_108 er hlocks
                  · replace hf := oif c17 hf
                    refine lv_iconst (v := 0) hx hb dX5_below_100 (by decide) ?_
                    refine lv_goto (tgt := 105) hx hb dX5_below_101 (by decide) ?_
                    obtain ⟨z19, hz19, hf⟩ := obd hf
                    refine kI (runV (As := [.int x1, .int x2, .int 0]) (rest := []) C0 hE hAb hP (hDb.addr rfl) hS [1, 3, 4, 5, 6] (wc := [oX0 b b_keyCount b_sheetSet b_handSort b_handNumber, aI cI (b 2) 6 b_sizes, aI cI (b 3) 72 b_sorts, aJ cJ (b 4) 72 b_numbers, aI cI (b 5) 8 b_weights]) (by decide) rfl 1 rfl rfl (c_X0_cellsAgainstHand l D cI cJ cZ cQ bs H.size b b_keyCount b_sheetSet b_handSort b_handNumber b_sizes b_sorts b_numbers b_weights x1 x2 0 z19 hz19) (cwV 3 hts gX5_below_X0_cellsAgainstHand rfl rfl rfl (by decide +kernel) ⟨Nat.le_of_ble_eq_true rfl, Nat.le_of_ble_eq_true rfl⟩) rfl hl.1 rfl (Nat.le_of_ble_eq_true rfl) dX5_below_105 ⟨Nat.le_of_ble_eq_true rfl, Nat.le_of_ble_eq_true rfl⟩) hS hP (fun H locs hP hS => ?_)
                    have er := Option.some.inj hf
                    exact rtI hx hb hr hS dX5_below_108 er hlocks
                · replace hf := oif c16 hf
                  refine lv_iconst (v := (-1)) hx hb dX5_below_88 (by decide) ?_
                  have er := Option.some.inj hf
                  exact rtI hx hb hr hS dX5_below_89 er hlocks
            · replace hf := oel c9 hf
              refine lv_aload_n hx hb dX5_below_49 rfl (lv_at hl 0 rfl) ?_
              refine va_get (D := D) (ci := 5) (v := .ref (b 0)) (C := RX5) (T := TX5) (N := 9) hx hb hts hI_X5 hown hK hP 0 rfl rfl 0 (by decide) gf10 (fun _ h9 => h9) rfl dX5_below_50 ?_
              refine va_getN (D := D) (ci := 0) (v := .int b_handSort) (C := RX0) (T := TX0) (N := 12) hx hb hts hI_X0 hown hK hP 1 rfl rfl 10 (by decide) (va_Nw.use rfl gf129) (fun _ h9 => h9) rfl dX5_below_53 ?_
              refine lv_iload_n hx hb dX5_below_56 rfl (lv_at hl 2 rfl) ?_
              obtain ⟨z20, hz20, hf⟩ := obd hf
              refine kZ (runS (As := [.int b_handSort, .int x2]) (rest := []) C0 hE hAb hP (hDb.addr rfl) hS [] (wc := []) (by decide) rfl (c_X5_fits l D cI cJ cZ cQ bs H.size b_handSort x2 z20 hz20) (va_cwS 2 hts gX5_below_X5_fits rfl rfl rfl (by decide +kernel) ⟨Nat.le_of_ble_eq_true rfl, Nat.le_of_ble_eq_true rfl⟩) rfl hl.1 rfl (Nat.le_of_ble_eq_true rfl) dX5_below_57 ⟨Nat.le_of_ble_eq_true rfl, Nat.le_of_ble_eq_true rfl⟩) hS hP (fun bz20 H locs hP hS => ?_)
              refine lv_if_ne (tgt := 65) hx hb dX5_below_60 (by decide) (fun c21 => ?_) (fun c21 => ?_)
              · replace hf := oel c21 hf
                refine lv_aload_n hx hb dX5_below_65 rfl (lv_at hl 0 rfl) ?_
                refine va_get (D := D) (ci := 5) (v := .ref (b 0)) (C := RX5) (T := TX5) (N := 9) hx hb hts hI_X5 hown hK hP 0 rfl rfl 0 (by decide) gf10 (fun _ h9 => h9) rfl dX5_below_66 ?_
                refine lv_iload_n hx hb dX5_below_69 rfl (lv_at hl 1 rfl) ?_
                obtain ⟨z22, hz22, hf⟩ := obd hf
                refine kI (runV (As := [.int x1]) (rest := []) C0 hE hAb hP (hDb.addr rfl) hS [1, 3] (wc := [oX0 b b_keyCount b_sheetSet b_handSort b_handNumber, aI cI (b 2) 6 b_sizes]) (by decide) rfl 1 rfl rfl (c_X0_sizeOf l D cI cJ cZ cQ bs H.size b b_keyCount b_sheetSet b_handSort b_handNumber b_sizes x1 z22 hz22) (cwV 1 hts gX5_below_X0_sizeOf rfl rfl rfl (by decide +kernel) ⟨Nat.le_of_ble_eq_true rfl, Nat.le_of_ble_eq_true rfl⟩) rfl hl.1 rfl (Nat.le_of_ble_eq_true rfl) dX5_below_70 ⟨Nat.le_of_ble_eq_true rfl, Nat.le_of_ble_eq_true rfl⟩) hS hP (fun H locs hP hS => ?_)
                refine lv_if_le (tgt := 90) hx hb dX5_below_73 (by decide) (fun c23 => ?_) (fun c23 => ?_)
                · replace hf := oif c23 hf
                  refine lv_aload_n hx hb dX5_below_90 rfl (lv_at hl 0 rfl) ?_
                  refine va_get (D := D) (ci := 5) (v := .ref (b 0)) (C := RX5) (T := TX5) (N := 9) hx hb hts hI_X5 hown hK hP 0 rfl rfl 0 (by decide) gf10 (fun _ h9 => h9) rfl dX5_below_91 ?_
                  refine lv_iload_n hx hb dX5_below_94 rfl (lv_at hl 1 rfl) ?_
                  refine lv_iload_n hx hb dX5_below_95 rfl (lv_at hl 2 rfl) ?_
                  refine lv_iload_n hx hb dX5_below_96 rfl (lv_at hl 3 rfl) ?_
                  refine lv_if_ne (tgt := 104) hx hb dX5_below_97 (by decide) (fun c24 => ?_) (fun c24 => ?_)
                  · replace hf := oel c24 hf
                    refine lv_iconst (v := 1) hx hb dX5_below_104 (by decide) ?_
                    obtain ⟨z25, hz25, hf⟩ := obd hf
                    refine kI (runV (As := [.int x1, .int x2, .int 1]) (rest := []) C0 hE hAb hP (hDb.addr rfl) hS [1, 3, 4, 5, 6] (wc := [oX0 b b_keyCount b_sheetSet b_handSort b_handNumber, aI cI (b 2) 6 b_sizes, aI cI (b 3) 72 b_sorts, aJ cJ (b 4) 72 b_numbers, aI cI (b 5) 8 b_weights]) (by decide) rfl 1 rfl rfl (c_X0_cellsAgainstHand l D cI cJ cZ cQ bs H.size b b_keyCount b_sheetSet b_handSort b_handNumber b_sizes b_sorts b_numbers b_weights x1 x2 1 z25 hz25) (cwV 3 hts gX5_below_X0_cellsAgainstHand rfl rfl rfl (by decide +kernel) ⟨Nat.le_of_ble_eq_true rfl, Nat.le_of_ble_eq_true rfl⟩) rfl hl.1 rfl (Nat.le_of_ble_eq_true rfl) dX5_below_105 ⟨Nat.le_of_ble_eq_true rfl, Nat.le_of_ble_eq_true rfl⟩) hS hP (fun H locs hP hS => ?_)
                    have er := Option.some.inj hf
                    exact rtI hx hb hr hS dX5_below_108 er hlocks
                  · replace hf := oif c24 hf
                    refine lv_iconst (v := 0) hx hb dX5_below_100 (by decide) ?_
                    refine lv_goto (tgt := 105) hx hb dX5_below_101 (by decide) ?_
                    obtain ⟨z26, hz26, hf⟩ := obd hf
                    refine kI (runV (As := [.int x1, .int x2, .int 0]) (rest := []) C0 hE hAb hP (hDb.addr rfl) hS [1, 3, 4, 5, 6] (wc := [oX0 b b_keyCount b_sheetSet b_handSort b_handNumber, aI cI (b 2) 6 b_sizes, aI cI (b 3) 72 b_sorts, aJ cJ (b 4) 72 b_numbers, aI cI (b 5) 8 b_weights]) (by decide) rfl 1 rfl rfl (c_X0_cellsAgainstHand l D cI cJ cZ cQ bs H.size b b_keyCount b_sheetSet b_handSort b_handNumber b_sizes b_sorts b_numbers b_weights x1 x2 0 z26 hz26) (cwV 3 hts gX5_below_X0_cellsAgainstHand rfl rfl rfl (by decide +kernel) ⟨Nat.le_of_ble_eq_true rfl, Nat.le_of_ble_eq_true rfl⟩) rfl hl.1 rfl (Nat.le_of_ble_eq_true rfl) dX5_below_105 ⟨Nat.le_of_ble_eq_true rfl, Nat.le_of_ble_eq_true rfl⟩) hS hP (fun H locs hP hS => ?_)
                    have er := Option.some.inj hf
                    exact rtI hx hb hr hS dX5_below_108 er hlocks
                · replace hf := oel c23 hf
                  refine lv_aload_n hx hb dX5_below_76 rfl (lv_at hl 0 rfl) ?_
                  refine va_get (D := D) (ci := 5) (v := .ref (b 0)) (C := RX5) (T := TX5) (N := 9) hx hb hts hI_X5 hown hK hP 0 rfl rfl 0 (by decide) gf10 (fun _ h9 => h9) rfl dX5_below_77 ?_
                  refine lv_iload_n hx hb dX5_below_80 rfl (lv_at hl 1 rfl) ?_
                  refine lv_iload_n hx hb dX5_below_81 rfl (lv_at hl 2 rfl) ?_
                  obtain ⟨z27, hz27, hf⟩ := obd hf
                  refine kZ (runV (As := [.int x1, .int x2]) (rest := []) C0 hE hAb hP (hDb.addr rfl) hS [1, 2] (wc := [oX0 b b_keyCount b_sheetSet b_handSort b_handNumber, aI cI (b 1) 6 b_kinds]) (by decide) rfl 1 rfl rfl (c_X0_canRead l D cI cJ cZ cQ bs H.size b b_keyCount b_sheetSet b_handSort b_handNumber b_kinds x1 x2 z27 hz27) (cwV 2 hts gX5_below_X0_canRead rfl rfl rfl (by decide +kernel) ⟨Nat.le_of_ble_eq_true rfl, Nat.le_of_ble_eq_true rfl⟩) rfl hl.1 rfl (Nat.le_of_ble_eq_true rfl) dX5_below_82 ⟨Nat.le_of_ble_eq_true rfl, Nat.le_of_ble_eq_true rfl⟩) hS hP (fun bz27 H locs hP hS => ?_)
                  refine lv_if_ne (tgt := 90) hx hb dX5_below_85 (by decide) (fun c28 => ?_) (fun c28 => ?_)
                  · replace hf := oel c28 hf
                    refine lv_aload_n hx hb dX5_below_90 rfl (lv_at hl 0 rfl) ?_
                    refine va_get (D := D) (ci := 5) (v := .ref (b 0)) (C := RX5) (T := TX5) (N := 9) hx hb hts hI_X5 hown hK hP 0 rfl rfl 0 (by decide) gf10 (fun _ h9 => h9) rfl dX5_below_91 ?_
                    refine lv_iload_n hx hb dX5_below_94 rfl (lv_at hl 1 rfl) ?_
                    refine lv_iload_n hx hb dX5_below_95 rfl (lv_at hl 2 rfl) ?_
                    refine lv_iload_n hx hb dX5_below_96 rfl (lv_at hl 3 rfl) ?_
                    refine lv_if_ne (tgt := 104) hx hb dX5_below_97 (by decide) (fun c29 => ?_) (fun c29 => ?_)
                    · replace hf := oel c29 hf
                      refine lv_iconst (v := 1) hx hb dX5_below_104 (by decide) ?_
                      obtain ⟨z30, hz30, hf⟩ := obd hf
                      refine kI (runV (As := [.int x1, .int x2, .int 1]) (rest := []) C0 hE hAb hP (hDb.addr rfl) hS [1, 3, 4, 5, 6] (wc := [oX0 b b_keyCount b_sheetSet b_handSort b_handNumber, aI cI (b 2) 6 b_sizes, aI cI (b 3) 72 b_sorts, aJ cJ (b 4) 72 b_numbers, aI cI (b 5) 8 b_weights]) (by decide) rfl 1 rfl rfl (c_X0_cellsAgainstHand l D cI cJ cZ cQ bs H.size b b_keyCount b_sheetSet b_handSort b_handNumber b_sizes b_sorts b_numbers b_weights x1 x2 1 z30 hz30) (cwV 3 hts gX5_below_X0_cellsAgainstHand rfl rfl rfl (by decide +kernel) ⟨Nat.le_of_ble_eq_true rfl, Nat.le_of_ble_eq_true rfl⟩) rfl hl.1 rfl (Nat.le_of_ble_eq_true rfl) dX5_below_105 ⟨Nat.le_of_ble_eq_true rfl, Nat.le_of_ble_eq_true rfl⟩) hS hP (fun H locs hP hS => ?_)
                      have er := Option.some.inj hf
                      exact rtI hx hb hr hS dX5_below_108 er hlocks
                    · replace hf := oif c29 hf
                      refine lv_iconst (v := 0) hx hb dX5_below_100 (by decide) ?_
                      refine lv_goto (tgt := 105) hx hb dX5_below_101 (by decide) ?_
                      obtain ⟨z31, hz31, hf⟩ := obd hf
                      refine kI (runV (As := [.int x1, .int x2, .int 0]) (rest := []) C0 hE hAb hP (hDb.addr rfl) hS [1, 3, 4, 5, 6] (wc := [oX0 b b_keyCount b_sheetSet b_handSort b_handNumber, aI cI (b 2) 6 b_sizes, aI cI (b 3) 72 b_sorts, aJ cJ (b 4) 72 b_numbers, aI cI (b 5) 8 b_weights]) (by decide) rfl 1 rfl rfl (c_X0_cellsAgainstHand l D cI cJ cZ cQ bs H.size b b_keyCount b_sheetSet b_handSort b_handNumber b_sizes b_sorts b_numbers b_weights x1 x2 0 z31 hz31) (cwV 3 hts gX5_below_X0_cellsAgainstHand rfl rfl rfl (by decide +kernel) ⟨Nat.le_of_ble_eq_true rfl, Nat.le_of_ble_eq_true rfl⟩) rfl hl.1 rfl (Nat.le_of_ble_eq_true rfl) dX5_below_105 ⟨Nat.le_of_ble_eq_true rfl, Nat.le_of_ble_eq_true rfl⟩) hS hP (fun H locs hP hS => ?_)
                      have er := Option.some.inj hf
                      exact rtI hx hb hr hS dX5_below_108 er hlocks
                  · replace hf := oif c28 hf
                    refine lv_iconst (v := (-1)) hx hb dX5_below_88 (by decide) ?_
                    have er := Option.some.inj hf
                    exact rtI hx hb hr hS dX5_below_89 er hlocks
              · replace hf := oif c21 hf
                refine lv_iconst (v := (-1)) hx hb dX5_below_63 (by decide) ?_
                have er := Option.some.inj hf
                exact rtI hx hb hr hS dX5_below_64 er hlocks
        · replace hf := oif c6 hf
          refine lv_ldc hx hb hown gk94 dX5_below_29 ?_
          have er := Option.some.inj hf
          exact rtI hx hb hr hS dX5_below_31 er hlocks
    · replace hf := oif c2 hf
      refine lv_ldc hx hb hown gk99 dX5_below_7 ?_
      have er := Option.some.inj hf
      exact rtI hx hb hr hS dX5_below_9 er hlocks
  exact go s.heap [] hP hS
noncomputable def f_X5_would (b_kinds : Nat → Int32) (b_sizes : Nat → Int32) (b_sorts : Nat → Int32) (b_numbers : Nat → Int64) (b_weights : Nat → Int32) (b_keySlots : Nat → Int32) (b_keyBys : Nat → Int32) (b_keyWays : Nat → Int32) (b_keyCount : Int32) (b_sheetSet : Int32) (b_handSort : Int32) (b_handNumber : Int64) (r_lesser : Nat → Int32) (r_positions : Nat → Int32) (r_places : Nat → Int32) (r_length : Int32) (x1 : Int32) (x2 : Int32) : Option (Int32 × (Nat → Int32) × (Nat → Int64) × (Nat → Int32) × (Nat → Int32) × (Nat → Int32) × Int32) := (f_X5_isSlot x1).bind (fun z1 => if z1 = 0 then (some (((-1000000001), b_sorts, b_numbers, r_lesser, r_positions, r_places, r_length))) else ((f_X0_whyNotPut b_kinds b_sizes x1 x2 b_handSort b_handNumber 0).bind (fun z3 => if z3 = 0 then ((f_X0_sortAt b_sorts x1 x2).bind (fun z5 => (f_X0_numberAt b_numbers x1 x2).bind (fun z6 => (f_X0_store b_kinds b_sorts b_numbers x1 x2 b_handSort b_handNumber).bind (fun z7 => (f_X4_sortPlaces b_kinds b_sizes z7.1 z7.2 b_weights b_keySlots b_keyBys b_keyWays b_keyCount b_sheetSet r_lesser r_positions r_places r_length 15).bind (fun z8 => (f_X0_setCell z7.1 z7.2 x1 x2 z5 z6).bind (fun z9 => (f_X4_isPlace z8.2.2.2 x2).bind (fun z10 => if z10 = 0 then (some (((-1), z9.1, z9.2, z8.1, z8.2.1, z8.2.2.1, z8.2.2.2))) else ((f_X4_lesserThan z8.1 z8.2.2.2 x2).bind (fun z12 => some ((z12, z9.1, z9.2, z8.1, z8.2.1, z8.2.2.1, z8.2.2.2))))))))))) else (some (((-1), b_sorts, b_numbers, r_lesser, r_positions, r_places, r_length))))))
set_option maxHeartbeats 4000000 in
set_option maxRecDepth 100000 in
theorem c_X5_would (l : Launch) (D : va_G) (cI cJ cZ cQ : ClassId) (bs sz : Nat) (x : Nat → Nat) (b : Nat → Nat) (h : Nat → Nat) (k : Nat → Nat) (r : Nat → Nat) (q : Nat → Nat) (v : Nat → Nat) (x_random : Int32) (b_keyCount : Int32) (b_sheetSet : Int32) (b_handSort : Int32) (b_handNumber : Int64) (b_kinds : Nat → Int32) (b_sizes : Nat → Int32) (b_sorts : Nat → Int32) (b_numbers : Nat → Int64) (b_weights : Nat → Int32) (b_keySlots : Nat → Int32) (b_keyBys : Nat → Int32) (b_keyWays : Nat → Int32) (r_length : Int32) (r_lesser : Nat → Int32) (r_positions : Nat → Int32) (r_places : Nat → Int32) (x1 : Int32) (x2 : Int32) (zr : Int32 × (Nat → Int32) × (Nat → Int64) × (Nat → Int32) × (Nat → Int32) × (Nat → Int32) × Int32) (hf : f_X5_would b_kinds b_sizes b_sorts b_numbers b_weights b_keySlots b_keyBys b_keyWays b_keyCount b_sheetSet b_handSort b_handNumber r_lesser r_positions r_places r_length x1 x2 = some zr) : Met l yX5_would wsX5_would { frames := 5, cells := 0, slots := 0, locals := 122 } (va_Pc [.ref (x 0), .int x1, .int x2] (Pr D cI cJ cZ cQ bs sz [oX5 x b h k r q v x_random, oX0 b b_keyCount b_sheetSet b_handSort b_handNumber, aI cI (b 1) 6 b_kinds, aI cI (b 2) 6 b_sizes, aI cI (b 3) 72 b_sorts, aJ cJ (b 4) 72 b_numbers, aI cI (b 5) 8 b_weights, aI cI (b 6) 4 b_keySlots, aI cI (b 7) 4 b_keyBys, aI cI (b 8) 4 b_keyWays, oX4 r r_length, aI cI (r 1) 12 r_lesser, aI cI (r 2) 12 r_positions, aI cI (r 3) 12 r_places])) (QwI D zr (fun u => [oX5 x b h k r q v x_random, oX0 b b_keyCount b_sheetSet b_handSort b_handNumber, aI cI (b 1) 6 b_kinds, aI cI (b 2) 6 b_sizes, aI cI (b 3) 72 u.1, aJ cJ (b 4) 72 u.2.1, aI cI (b 5) 8 b_weights, aI cI (b 6) 4 b_keySlots, aI cI (b 7) 4 b_keyBys, aI cI (b 8) 4 b_keyWays, oX4 r u.2.2.2.2.2, aI cI (r 1) 12 u.2.2.1, aI cI (r 2) 12 u.2.2.2.1, aI cI (r 3) 12 u.2.2.2.2.1]) (va_A [oX5 x b h k r q v x_random, oX0 b b_keyCount b_sheetSet b_handSort b_handNumber, aI cI (b 1) 6 b_kinds, aI cI (b 2) 6 b_sizes, aI cI (b 3) 72 b_sorts, aJ cJ (b 4) 72 b_numbers, aI cI (b 5) 8 b_weights, aI cI (b 6) 4 b_keySlots, aI cI (b 7) 4 b_keyBys, aI cI (b 8) 4 b_keyWays, oX4 r r_length, aI cI (r 1) 12 r_lesser, aI cI (r 2) 12 r_positions, aI cI (r 3) 12 r_places] sz)) 0 0 (va_A [oX5 x b h k r q v x_random, oX0 b b_keyCount b_sheetSet b_handSort b_handNumber, aI cI (b 1) 6 b_kinds, aI cI (b 2) 6 b_sizes, aI cI (b 3) 72 b_sorts, aJ cJ (b 4) 72 b_numbers, aI cI (b 5) 8 b_weights, aI cI (b 6) 4 b_keySlots, aI cI (b 7) 4 b_keyBys, aI cI (b 8) 4 b_keyWays, oX4 r r_length, aI cI (r 1) 12 r_lesser, aI cI (r 2) 12 r_positions, aI cI (r 3) 12 r_places] sz) := by
  refine stW (cc := cX5_would) (maxL := 6) (ret := (some .int)) (Qf := fun A => (QwI D zr (fun u => [oX5 x b h k r q v x_random, oX0 b b_keyCount b_sheetSet b_handSort b_handNumber, aI cI (b 1) 6 b_kinds, aI cI (b 2) 6 b_sizes, aI cI (b 3) 72 u.1, aJ cJ (b 4) 72 u.2.1, aI cI (b 5) 8 b_weights, aI cI (b 6) 4 b_keySlots, aI cI (b 7) 4 b_keyBys, aI cI (b 8) 4 b_keyWays, oX4 r u.2.2.2.2.2, aI cI (r 1) 12 u.2.2.1, aI cI (r 2) 12 u.2.2.2.1, aI cI (r 3) 12 u.2.2.2.2.1]) A)) (by decide +kernel) rfl (Nat.le_of_ble_eq_true rfl) ?_
  intro p e s m args below meth c A C0 hr hlocks hname hsz hP hD hA hAb hE ls hl
  obtain ⟨hx, hb, hml, hown, hts⟩ := id C0
  have hown : s.vm.findClass RX5 = some m.cls := hown
  obtain ⟨hK, hNW, -, tw, hZ, hT⟩ := id hE
  have hl : lv_has ls 6 [(0, .ref (x 0)), (1, .int x1), (2, .int x2)] := hl
  have hS : va_S A s.heap s.heap [] := va_S.rf
  have hI_X5 := (show ∀ w ∈ wsX50, w ∈ wsX5_would by decide +kernel)
  have gf10 := hts (.fieldLink RX5 10 "RowRanks" "bench" "LRowRanks$Bench;") (by decide +kernel)
  have hI_X0 := (show ∀ w ∈ wsX00, w ∈ wsX5_would by decide +kernel)
  have gf129 := hNW (.fieldLinkNest RX5 129 RX0 "handSort" "I" RX5) (by decide +kernel)
  have gf132 := hNW (.fieldLinkNest RX5 132 RX0 "handNumber" "J" RX5) (by decide +kernel)
  have gf33 := hts (.fieldLink RX5 33 "RowRanks" "ranking" "LRowRanks$Ranking;") (by decide +kernel)
  have gk99 := hts (.constant RX5 99 (-1000000001)) (by decide +kernel)
  unfold f_X5_would at hf
  have go : ∀ (H : Heap) (locs : List Loc), va_P D vwCl [oX5 x b h k r q v x_random, oX0 b b_keyCount b_sheetSet b_handSort b_handNumber, aI cI (b 1) 6 b_kinds, aI cI (b 2) 6 b_sizes, aI cI (b 3) 72 b_sorts, aJ cJ (b 4) 72 b_numbers, aI cI (b 5) 8 b_weights, aI cI (b 6) 4 b_keySlots, aI cI (b 7) 4 b_keyBys, aI cI (b 8) 4 b_keyWays, oX4 r r_length, aI cI (r 1) 12 r_lesser, aI cI (r 2) 12 r_positions, aI cI (r 3) 12 r_places] H → va_S A s.heap H locs → W p l e { frames := 5, cells := 0, slots := 0, locals := 122 } s m args below meth c H locs 0 0 (MQ below (QwI D zr (fun u => [oX5 x b h k r q v x_random, oX0 b b_keyCount b_sheetSet b_handSort b_handNumber, aI cI (b 1) 6 b_kinds, aI cI (b 2) 6 b_sizes, aI cI (b 3) 72 u.1, aJ cJ (b 4) 72 u.2.1, aI cI (b 5) 8 b_weights, aI cI (b 6) 4 b_keySlots, aI cI (b 7) 4 b_keyBys, aI cI (b 8) 4 b_keyWays, oX4 r u.2.2.2.2.2, aI cI (r 1) 12 u.2.2.1, aI cI (r 2) 12 u.2.2.2.1, aI cI (r 3) 12 u.2.2.2.2.1]) A) args s 0 0 A) (F0 m 0 ls []) := by
    intro H locs hP hS
    refine lv_iload_n hx hb dX5_would_0 rfl (lv_at hl 1 rfl) ?_
    obtain ⟨z1, hz1, hf⟩ := obd hf
    refine kZ (runS (As := [.int x1]) (rest := []) C0 hE hAb hP ((hD.weaken (fun _ _ _ h9 => hAb _ h9)).addr rfl) hS [] (wc := []) (by decide) rfl (c_X5_isSlot l D cI cJ cZ cQ bs H.size x1 z1 hz1) (va_cwS 1 hts gX5_would_X5_isSlot rfl rfl rfl (by decide +kernel) ⟨Nat.le_of_ble_eq_true rfl, Nat.le_of_ble_eq_true rfl⟩) rfl hl.1 rfl (Nat.le_of_ble_eq_true rfl) dX5_would_1 ⟨Nat.le_of_ble_eq_true rfl, Nat.le_of_ble_eq_true rfl⟩) hS hP (fun bz1 H locs hP hS => ?_)
    refine lv_if_ne (tgt := 10) hx hb dX5_would_4 (by decide) (fun c2 => ?_) (fun c2 => ?_)
    · replace hf := oel c2 hf
      refine lv_aload_n hx hb dX5_would_10 rfl (lv_at hl 0 rfl) ?_
      refine va_get (D := D) (ci := 5) (v := .ref (b 0)) (C := RX5) (T := TX5) (N := 9) hx hb hts hI_X5 hown hK hP 0 rfl rfl 0 (by decide) gf10 (fun _ h9 => h9) rfl dX5_would_11 ?_
      refine lv_iload_n hx hb dX5_would_14 rfl (lv_at hl 1 rfl) ?_
      refine lv_iload_n hx hb dX5_would_15 rfl (lv_at hl 2 rfl) ?_
      refine lv_aload_n hx hb dX5_would_16 rfl (lv_at hl 0 rfl) ?_
      refine va_get (D := D) (ci := 5) (v := .ref (b 0)) (C := RX5) (T := TX5) (N := 9) hx hb hts hI_X5 hown hK hP 0 rfl rfl 0 (by decide) gf10 (fun _ h9 => h9) rfl dX5_would_17 ?_
      refine va_getN (D := D) (ci := 0) (v := .int b_handSort) (C := RX0) (T := TX0) (N := 12) hx hb hts hI_X0 hown hK hP 1 rfl rfl 10 (by decide) (va_Nw.use rfl gf129) (fun _ h9 => h9) rfl dX5_would_20 ?_
      refine lv_aload_n hx hb dX5_would_23 rfl (lv_at hl 0 rfl) ?_
      refine va_get (D := D) (ci := 5) (v := .ref (b 0)) (C := RX5) (T := TX5) (N := 9) hx hb hts hI_X5 hown hK hP 0 rfl rfl 0 (by decide) gf10 (fun _ h9 => h9) rfl dX5_would_24 ?_
      refine va_getN (D := D) (ci := 0) (v := .long b_handNumber) (C := RX0) (T := TX0) (N := 12) hx hb hts hI_X0 hown hK hP 1 rfl rfl 11 (by decide) (va_Nw.use rfl gf132) (fun _ h9 => h9) rfl dX5_would_27 ?_
      refine lv_iconst (v := 0) hx hb dX5_would_30 (by decide) ?_
      obtain ⟨z3, hz3, hf⟩ := obd hf
      refine kI (runV (As := [.int x1, .int x2, .int b_handSort, .long b_handNumber, .int 0]) (rest := []) C0 hE hAb hP ((hD.weaken (fun _ _ _ h9 => hAb _ h9)).addr rfl) hS [1, 2, 3] (wc := [oX0 b b_keyCount b_sheetSet b_handSort b_handNumber, aI cI (b 1) 6 b_kinds, aI cI (b 2) 6 b_sizes]) (by decide) rfl 1 rfl rfl (c_X0_whyNotPut l D cI cJ cZ cQ bs H.size b b_keyCount b_sheetSet b_handSort b_handNumber b_kinds b_sizes x1 x2 b_handSort b_handNumber 0 z3 hz3) (cwV 5 hts gX5_would_X0_whyNotPut rfl rfl rfl (by decide +kernel) ⟨Nat.le_of_ble_eq_true rfl, Nat.le_of_ble_eq_true rfl⟩) rfl hl.1 rfl (Nat.le_of_ble_eq_true rfl) dX5_would_31 ⟨Nat.le_of_ble_eq_true rfl, Nat.le_of_ble_eq_true rfl⟩) hS hP (fun H locs hP hS => ?_)
      refine lv_if_eq (tgt := 39) hx hb dX5_would_34 (by decide) (fun c4 => ?_) (fun c4 => ?_)
      · replace hf := oif c4 hf
        refine lv_aload_n hx hb dX5_would_39 rfl (lv_at hl 0 rfl) ?_
        refine va_get (D := D) (ci := 5) (v := .ref (b 0)) (C := RX5) (T := TX5) (N := 9) hx hb hts hI_X5 hown hK hP 0 rfl rfl 0 (by decide) gf10 (fun _ h9 => h9) rfl dX5_would_40 ?_
        refine lv_iload_n hx hb dX5_would_43 rfl (lv_at hl 1 rfl) ?_
        refine lv_iload_n hx hb dX5_would_44 rfl (lv_at hl 2 rfl) ?_
        obtain ⟨z5, hz5, hf⟩ := obd hf
        refine kI (runV (As := [.int x1, .int x2]) (rest := []) C0 hE hAb hP ((hD.weaken (fun _ _ _ h9 => hAb _ h9)).addr rfl) hS [1, 4] (wc := [oX0 b b_keyCount b_sheetSet b_handSort b_handNumber, aI cI (b 3) 72 b_sorts]) (by decide) rfl 1 rfl rfl (c_X0_sortAt l D cI cJ cZ cQ bs H.size b b_keyCount b_sheetSet b_handSort b_handNumber b_sorts x1 x2 z5 hz5) (cwV 2 hts gX5_would_X0_sortAt rfl rfl rfl (by decide +kernel) ⟨Nat.le_of_ble_eq_true rfl, Nat.le_of_ble_eq_true rfl⟩) rfl hl.1 rfl (Nat.le_of_ble_eq_true rfl) dX5_would_45 ⟨Nat.le_of_ble_eq_true rfl, Nat.le_of_ble_eq_true rfl⟩) hS hP (fun H locs hP hS => ?_)
        refine lv_istore_n (lv' := [(3, .int z5), (0, .ref (x 0)), (1, .int x1), (2, .int x2)]) hx hb dX5_would_48 rfl hl (by decide) rfl (fun ls hl => ?_)
        refine lv_aload_n hx hb dX5_would_49 rfl (lv_at hl 1 rfl) ?_
        refine va_get (D := D) (ci := 5) (v := .ref (b 0)) (C := RX5) (T := TX5) (N := 9) hx hb hts hI_X5 hown hK hP 0 rfl rfl 0 (by decide) gf10 (fun _ h9 => h9) rfl dX5_would_50 ?_
        refine lv_iload_n hx hb dX5_would_53 rfl (lv_at hl 2 rfl) ?_
        refine lv_iload_n hx hb dX5_would_54 rfl (lv_at hl 3 rfl) ?_
        obtain ⟨z6, hz6, hf⟩ := obd hf
        refine kJ (runV (As := [.int x1, .int x2]) (rest := []) C0 hE hAb hP ((hD.weaken (fun _ _ _ h9 => hAb _ h9)).addr rfl) hS [1, 5] (wc := [oX0 b b_keyCount b_sheetSet b_handSort b_handNumber, aJ cJ (b 4) 72 b_numbers]) (by decide) rfl 1 rfl rfl (c_X0_numberAt l D cI cJ cZ cQ bs H.size b b_keyCount b_sheetSet b_handSort b_handNumber b_numbers x1 x2 z6 hz6) (cwV 2 hts gX5_would_X0_numberAt rfl rfl rfl (by decide +kernel) ⟨Nat.le_of_ble_eq_true rfl, Nat.le_of_ble_eq_true rfl⟩) rfl hl.1 rfl (Nat.le_of_ble_eq_true rfl) dX5_would_55 ⟨Nat.le_of_ble_eq_true rfl, Nat.le_of_ble_eq_true rfl⟩) hS hP (fun H locs hP hS => ?_)
        refine lv_lstore (lv' := [(4, .long z6), (3, .int z5), (0, .ref (x 0)), (1, .int x1), (2, .int x2)]) hx hb dX5_would_58 hl (by decide) rfl (fun ls hl => ?_)
        refine lv_aload_n hx hb dX5_would_60 rfl (lv_at hl 2 rfl) ?_
        refine va_get (D := D) (ci := 5) (v := .ref (b 0)) (C := RX5) (T := TX5) (N := 9) hx hb hts hI_X5 hown hK hP 0 rfl rfl 0 (by decide) gf10 (fun _ h9 => h9) rfl dX5_would_61 ?_
        refine lv_iload_n hx hb dX5_would_64 rfl (lv_at hl 3 rfl) ?_
        refine lv_iload_n hx hb dX5_would_65 rfl (lv_at hl 4 rfl) ?_
        refine lv_aload_n hx hb dX5_would_66 rfl (lv_at hl 2 rfl) ?_
        refine va_get (D := D) (ci := 5) (v := .ref (b 0)) (C := RX5) (T := TX5) (N := 9) hx hb hts hI_X5 hown hK hP 0 rfl rfl 0 (by decide) gf10 (fun _ h9 => h9) rfl dX5_would_67 ?_
        refine va_getN (D := D) (ci := 0) (v := .int b_handSort) (C := RX0) (T := TX0) (N := 12) hx hb hts hI_X0 hown hK hP 1 rfl rfl 10 (by decide) (va_Nw.use rfl gf129) (fun _ h9 => h9) rfl dX5_would_70 ?_
        refine lv_aload_n hx hb dX5_would_73 rfl (lv_at hl 2 rfl) ?_
        refine va_get (D := D) (ci := 5) (v := .ref (b 0)) (C := RX5) (T := TX5) (N := 9) hx hb hts hI_X5 hown hK hP 0 rfl rfl 0 (by decide) gf10 (fun _ h9 => h9) rfl dX5_would_74 ?_
        refine va_getN (D := D) (ci := 0) (v := .long b_handNumber) (C := RX0) (T := TX0) (N := 12) hx hb hts hI_X0 hown hK hP 1 rfl rfl 11 (by decide) (va_Nw.use rfl gf132) (fun _ h9 => h9) rfl dX5_would_77 ?_
        obtain ⟨z7, hz7, hf⟩ := obd hf
        refine kwV (runV (As := [.int x1, .int x2, .int b_handSort, .long b_handNumber]) (rest := []) C0 hE hAb hP ((hD.weaken (fun _ _ _ h9 => hAb _ h9)).addr rfl) hS [1, 2, 4, 5] (wc := [oX0 b b_keyCount b_sheetSet b_handSort b_handNumber, aI cI (b 1) 6 b_kinds, aI cI (b 3) 72 b_sorts, aJ cJ (b 4) 72 b_numbers]) (by decide) rfl 1 rfl rfl (c_X0_store l D cI cJ cZ cQ bs H.size b b_keyCount b_sheetSet b_handSort b_handNumber b_kinds b_sorts b_numbers x1 x2 b_handSort b_handNumber z7 hz7) (cwV 4 hts gX5_would_X0_store rfl rfl rfl (by decide +kernel) ⟨Nat.le_of_ble_eq_true rfl, Nat.le_of_ble_eq_true rfl⟩) rfl hl.1 rfl (Nat.le_of_ble_eq_true rfl) dX5_would_80 ⟨Nat.le_of_ble_eq_true rfl, Nat.le_of_ble_eq_true rfl⟩) hS hP (hD.addr rfl) hA [1, 2, 4, 5] rfl rfl (ws' := [oX5 x b h k r q v x_random, oX0 b b_keyCount b_sheetSet b_handSort b_handNumber, aI cI (b 1) 6 b_kinds, aI cI (b 2) 6 b_sizes, aI cI (b 3) 72 z7.1, aJ cJ (b 4) 72 z7.2, aI cI (b 5) 8 b_weights, aI cI (b 6) 4 b_keySlots, aI cI (b 7) 4 b_keyBys, aI cI (b 8) 4 b_keyWays, oX4 r r_length, aI cI (r 1) 12 r_lesser, aI cI (r 2) 12 r_positions, aI cI (r 3) 12 r_places]) rfl rfl (fun H locs hP hS => ?_)
        refine lv_aload_n hx hb dX5_would_83 rfl (lv_at hl 2 rfl) ?_
        refine va_get (D := D) (ci := 5) (v := .ref (r 0)) (C := RX5) (T := TX5) (N := 9) hx hb hts hI_X5 hown hK hP 0 rfl rfl 3 (by decide) gf33 (fun _ h9 => h9) rfl dX5_would_84 ?_
        refine lv_aload_n hx hb dX5_would_87 rfl (lv_at hl 2 rfl) ?_
        refine va_get (D := D) (ci := 5) (v := .ref (b 0)) (C := RX5) (T := TX5) (N := 9) hx hb hts hI_X5 hown hK hP 0 rfl rfl 0 (by decide) gf10 (fun _ h9 => h9) rfl dX5_would_88 ?_
        refine lv_bipush (v := 15) hx hb dX5_would_91 (by decide) ?_
        obtain ⟨z8, hz8, hf⟩ := obd hf
        refine kwV (runV (As := [.ref (b 0), .int 15]) (rest := []) C0 hE hAb hP ((hD.weaken (fun _ _ _ h9 => hAb _ h9)).addr rfl) hS [1, 2, 3, 4, 5, 6, 7, 8, 9, 10, 11, 12, 13] (wc := [oX0 b b_keyCount b_sheetSet b_handSort b_handNumber, aI cI (b 1) 6 b_kinds, aI cI (b 2) 6 b_sizes, aI cI (b 3) 72 z7.1, aJ cJ (b 4) 72 z7.2, aI cI (b 5) 8 b_weights, aI cI (b 6) 4 b_keySlots, aI cI (b 7) 4 b_keyBys, aI cI (b 8) 4 b_keyWays, oX4 r r_length, aI cI (r 1) 12 r_lesser, aI cI (r 2) 12 r_positions, aI cI (r 3) 12 r_places]) (by decide) rfl 10 rfl rfl (c_X4_sortPlaces l D cI cJ cZ cQ bs H.size b r b_keyCount b_sheetSet b_handSort b_handNumber b_kinds b_sizes z7.1 z7.2 b_weights b_keySlots b_keyBys b_keyWays r_length r_lesser r_positions r_places 15 z8 hz8) (cwV 2 hts gX5_would_X4_sortPlaces rfl rfl rfl (by decide +kernel) ⟨Nat.le_of_ble_eq_true rfl, Nat.le_of_ble_eq_true rfl⟩) rfl hl.1 rfl (Nat.le_of_ble_eq_true rfl) dX5_would_93 ⟨Nat.le_of_ble_eq_true rfl, Nat.le_of_ble_eq_true rfl⟩) hS hP (hD.addr rfl) hA [1, 2, 3, 4, 5, 6, 7, 8, 9, 10, 11, 12, 13] rfl rfl (ws' := [oX5 x b h k r q v x_random, oX0 b b_keyCount b_sheetSet b_handSort b_handNumber, aI cI (b 1) 6 b_kinds, aI cI (b 2) 6 b_sizes, aI cI (b 3) 72 z7.1, aJ cJ (b 4) 72 z7.2, aI cI (b 5) 8 b_weights, aI cI (b 6) 4 b_keySlots, aI cI (b 7) 4 b_keyBys, aI cI (b 8) 4 b_keyWays, oX4 r z8.2.2.2, aI cI (r 1) 12 z8.1, aI cI (r 2) 12 z8.2.1, aI cI (r 3) 12 z8.2.2.1]) rfl rfl (fun H locs hP hS => ?_)
        refine lv_aload_n hx hb dX5_would_96 rfl (lv_at hl 2 rfl) ?_
        refine va_get (D := D) (ci := 5) (v := .ref (b 0)) (C := RX5) (T := TX5) (N := 9) hx hb hts hI_X5 hown hK hP 0 rfl rfl 0 (by decide) gf10 (fun _ h9 => h9) rfl dX5_would_97 ?_
        refine lv_iload_n hx hb dX5_would_100 rfl (lv_at hl 3 rfl) ?_
        refine lv_iload_n hx hb dX5_would_101 rfl (lv_at hl 4 rfl) ?_
        refine lv_iload_n hx hb dX5_would_102 rfl (lv_at hl 1 rfl) ?_
        refine lv_lload hx hb dX5_would_103 (lv_at hl 0 rfl) ?_
        obtain ⟨z9, hz9, hf⟩ := obd hf
        refine kwV (runV (As := [.int x1, .int x2, .int z5, .long z6]) (rest := []) C0 hE hAb hP ((hD.weaken (fun _ _ _ h9 => hAb _ h9)).addr rfl) hS [1, 4, 5] (wc := [oX0 b b_keyCount b_sheetSet b_handSort b_handNumber, aI cI (b 3) 72 z7.1, aJ cJ (b 4) 72 z7.2]) (by decide) rfl 1 rfl rfl (c_X0_setCell l D cI cJ cZ cQ bs H.size b b_keyCount b_sheetSet b_handSort b_handNumber z7.1 z7.2 x1 x2 z5 z6 z9 hz9) (cwV 4 hts gX5_would_X0_setCell rfl rfl rfl (by decide +kernel) ⟨Nat.le_of_ble_eq_true rfl, Nat.le_of_ble_eq_true rfl⟩) rfl hl.1 rfl (Nat.le_of_ble_eq_true rfl) dX5_would_105 ⟨Nat.le_of_ble_eq_true rfl, Nat.le_of_ble_eq_true rfl⟩) hS hP (hD.addr rfl) hA [1, 4, 5] rfl rfl (ws' := [oX5 x b h k r q v x_random, oX0 b b_keyCount b_sheetSet b_handSort b_handNumber, aI cI (b 1) 6 b_kinds, aI cI (b 2) 6 b_sizes, aI cI (b 3) 72 z9.1, aJ cJ (b 4) 72 z9.2, aI cI (b 5) 8 b_weights, aI cI (b 6) 4 b_keySlots, aI cI (b 7) 4 b_keyBys, aI cI (b 8) 4 b_keyWays, oX4 r z8.2.2.2, aI cI (r 1) 12 z8.1, aI cI (r 2) 12 z8.2.1, aI cI (r 3) 12 z8.2.2.1]) rfl rfl (fun H locs hP hS => ?_)
        refine lv_aload_n hx hb dX5_would_108 rfl (lv_at hl 2 rfl) ?_
        refine va_get (D := D) (ci := 5) (v := .ref (r 0)) (C := RX5) (T := TX5) (N := 9) hx hb hts hI_X5 hown hK hP 0 rfl rfl 3 (by decide) gf33 (fun _ h9 => h9) rfl dX5_would_109 ?_
        refine lv_iload_n hx hb dX5_would_112 rfl (lv_at hl 4 rfl) ?_
        obtain ⟨z10, hz10, hf⟩ := obd hf
        refine kZ (runV (As := [.int x2]) (rest := []) C0 hE hAb hP ((hD.weaken (fun _ _ _ h9 => hAb _ h9)).addr rfl) hS [10] (wc := [oX4 r z8.2.2.2]) (by decide) rfl 10 rfl rfl (c_X4_isPlace l D cI cJ cZ cQ bs H.size r z8.2.2.2 x2 z10 hz10) (cwV 1 hts gX5_would_X4_isPlace rfl rfl rfl (by decide +kernel) ⟨Nat.le_of_ble_eq_true rfl, Nat.le_of_ble_eq_true rfl⟩) rfl hl.1 rfl (Nat.le_of_ble_eq_true rfl) dX5_would_113 ⟨Nat.le_of_ble_eq_true rfl, Nat.le_of_ble_eq_true rfl⟩) hS hP (fun bz10 H locs hP hS => ?_)
        refine lv_if_eq (tgt := 130) hx hb dX5_would_116 (by decide) (fun c11 => ?_) (fun c11 => ?_)
        · replace hf := oif c11 hf
          refine lv_iconst (v := (-1)) hx hb dX5_would_130 (by decide) ?_
          have er := Option.some.inj hf
          exact rwI (wm := (fun u => [oX5 x b h k r q v x_random, oX0 b b_keyCount b_sheetSet b_handSort b_handNumber, aI cI (b 1) 6 b_kinds, aI cI (b 2) 6 b_sizes, aI cI (b 3) 72 u.1, aJ cJ (b 4) 72 u.2.1, aI cI (b 5) 8 b_weights, aI cI (b 6) 4 b_keySlots, aI cI (b 7) 4 b_keyBys, aI cI (b 8) 4 b_keyWays, oX4 r u.2.2.2.2.2, aI cI (r 1) 12 u.2.2.1, aI cI (r 2) 12 u.2.2.2.1, aI cI (r 3) 12 u.2.2.2.2.1])) hx hb hr hS dX5_would_131 hP er hlocks
        · replace hf := oel c11 hf
          refine lv_aload_n hx hb dX5_would_119 rfl (lv_at hl 2 rfl) ?_
          refine va_get (D := D) (ci := 5) (v := .ref (r 0)) (C := RX5) (T := TX5) (N := 9) hx hb hts hI_X5 hown hK hP 0 rfl rfl 3 (by decide) gf33 (fun _ h9 => h9) rfl dX5_would_120 ?_
          refine lv_iload_n hx hb dX5_would_123 rfl (lv_at hl 4 rfl) ?_
          obtain ⟨z12, hz12, hf⟩ := obd hf
          refine kI (runV (As := [.int x2]) (rest := []) C0 hE hAb hP ((hD.weaken (fun _ _ _ h9 => hAb _ h9)).addr rfl) hS [10, 11] (wc := [oX4 r z8.2.2.2, aI cI (r 1) 12 z8.1]) (by decide) rfl 10 rfl rfl (c_X4_lesserThan l D cI cJ cZ cQ bs H.size r z8.2.2.2 z8.1 x2 z12 hz12) (cwV 1 hts gX5_would_X4_lesserThan rfl rfl rfl (by decide +kernel) ⟨Nat.le_of_ble_eq_true rfl, Nat.le_of_ble_eq_true rfl⟩) rfl hl.1 rfl (Nat.le_of_ble_eq_true rfl) dX5_would_124 ⟨Nat.le_of_ble_eq_true rfl, Nat.le_of_ble_eq_true rfl⟩) hS hP (fun H locs hP hS => ?_)
          refine lv_goto (tgt := 131) hx hb dX5_would_127 (by decide) ?_
          have er := Option.some.inj hf
          exact rwI (wm := (fun u => [oX5 x b h k r q v x_random, oX0 b b_keyCount b_sheetSet b_handSort b_handNumber, aI cI (b 1) 6 b_kinds, aI cI (b 2) 6 b_sizes, aI cI (b 3) 72 u.1, aJ cJ (b 4) 72 u.2.1, aI cI (b 5) 8 b_weights, aI cI (b 6) 4 b_keySlots, aI cI (b 7) 4 b_keyBys, aI cI (b 8) 4 b_keyWays, oX4 r u.2.2.2.2.2, aI cI (r 1) 12 u.2.2.1, aI cI (r 2) 12 u.2.2.2.1, aI cI (r 3) 12 u.2.2.2.2.1])) hx hb hr hS dX5_would_131 hP er hlocks
      · replace hf := oel c4 hf
        refine lv_iconst (v := (-1)) hx hb dX5_would_37 (by decide) ?_
        have er := Option.some.inj hf
        exact rwI (wm := (fun u => [oX5 x b h k r q v x_random, oX0 b b_keyCount b_sheetSet b_handSort b_handNumber, aI cI (b 1) 6 b_kinds, aI cI (b 2) 6 b_sizes, aI cI (b 3) 72 u.1, aJ cJ (b 4) 72 u.2.1, aI cI (b 5) 8 b_weights, aI cI (b 6) 4 b_keySlots, aI cI (b 7) 4 b_keyBys, aI cI (b 8) 4 b_keyWays, oX4 r u.2.2.2.2.2, aI cI (r 1) 12 u.2.2.1, aI cI (r 2) 12 u.2.2.2.1, aI cI (r 3) 12 u.2.2.2.2.1])) hx hb hr hS dX5_would_38 hP er hlocks
    · replace hf := oif c2 hf
      refine lv_ldc hx hb hown gk99 dX5_would_7 ?_
      have er := Option.some.inj hf
      exact rwI (wm := (fun u => [oX5 x b h k r q v x_random, oX0 b b_keyCount b_sheetSet b_handSort b_handNumber, aI cI (b 1) 6 b_kinds, aI cI (b 2) 6 b_sizes, aI cI (b 3) 72 u.1, aJ cJ (b 4) 72 u.2.1, aI cI (b 5) 8 b_weights, aI cI (b 6) 4 b_keySlots, aI cI (b 7) 4 b_keyBys, aI cI (b 8) 4 b_keyWays, oX4 r u.2.2.2.2.2, aI cI (r 1) 12 u.2.2.1, aI cI (r 2) 12 u.2.2.2.1, aI cI (r 3) 12 u.2.2.2.2.1])) hx hb hr hS dX5_would_9 hP er hlocks
  exact go s.heap [] hP hS
noncomputable def f_X5_write (b_kinds : Nat → Int32) (b_sizes : Nat → Int32) (b_keySlots : Nat → Int32) (b_keyBys : Nat → Int32) (b_keyCount : Int32) (b_sheetSet : Int32) (k_places : Nat → Int32) (k_positions : Nat → Int32) (k_count : Int32) (x1 : Int32) (x2 : Int32) : Option (Int32 × (Nat → Int32) × (Nat → Int32) × Int32) := (f_X0_length b_kinds b_sizes b_keySlots b_keyBys b_keyCount b_sheetSet).bind (fun z1 => (f_X5_isIn x1 0 (z1 - (1 : Int32))).bind (fun z2 => if z2 = 0 then (some (((-1000000001), k_places, k_positions, k_count))) else (if k_count < 20 then ((f_X1_add k_places k_positions k_count x1 x2).bind (fun z5 => some ((z5.2.2, z5.1, z5.2.1, z5.2.2)))) else (some (((-1000000004), k_places, k_positions, k_count))))))
set_option maxHeartbeats 4000000 in
set_option maxRecDepth 100000 in
theorem c_X5_write (l : Launch) (D : va_G) (cI cJ cZ cQ : ClassId) (bs sz : Nat) (x : Nat → Nat) (b : Nat → Nat) (h : Nat → Nat) (k : Nat → Nat) (r : Nat → Nat) (q : Nat → Nat) (v : Nat → Nat) (x_random : Int32) (b_keyCount : Int32) (b_sheetSet : Int32) (b_handSort : Int32) (b_handNumber : Int64) (b_kinds : Nat → Int32) (b_sizes : Nat → Int32) (b_keySlots : Nat → Int32) (b_keyBys : Nat → Int32) (k_count : Int32) (k_places : Nat → Int32) (k_positions : Nat → Int32) (x1 : Int32) (x2 : Int32) (zr : Int32 × (Nat → Int32) × (Nat → Int32) × Int32) (hf : f_X5_write b_kinds b_sizes b_keySlots b_keyBys b_keyCount b_sheetSet k_places k_positions k_count x1 x2 = some zr) : Met l yX5_write wsX5_write { frames := 4, cells := 0, slots := 0, locals := 88 } (va_Pc [.ref (x 0), .int x1, .int x2] (Pr D cI cJ cZ cQ bs sz [oX5 x b h k r q v x_random, oX0 b b_keyCount b_sheetSet b_handSort b_handNumber, aI cI (b 1) 6 b_kinds, aI cI (b 2) 6 b_sizes, aI cI (b 6) 4 b_keySlots, aI cI (b 7) 4 b_keyBys, oX1 k k_count, aI cI (k 1) 20 k_places, aI cI (k 2) 20 k_positions])) (QwI D zr (fun u => [oX5 x b h k r q v x_random, oX0 b b_keyCount b_sheetSet b_handSort b_handNumber, aI cI (b 1) 6 b_kinds, aI cI (b 2) 6 b_sizes, aI cI (b 6) 4 b_keySlots, aI cI (b 7) 4 b_keyBys, oX1 k u.2.2, aI cI (k 1) 20 u.1, aI cI (k 2) 20 u.2.1]) (va_A [oX5 x b h k r q v x_random, oX0 b b_keyCount b_sheetSet b_handSort b_handNumber, aI cI (b 1) 6 b_kinds, aI cI (b 2) 6 b_sizes, aI cI (b 6) 4 b_keySlots, aI cI (b 7) 4 b_keyBys, oX1 k k_count, aI cI (k 1) 20 k_places, aI cI (k 2) 20 k_positions] sz)) 0 0 (va_A [oX5 x b h k r q v x_random, oX0 b b_keyCount b_sheetSet b_handSort b_handNumber, aI cI (b 1) 6 b_kinds, aI cI (b 2) 6 b_sizes, aI cI (b 6) 4 b_keySlots, aI cI (b 7) 4 b_keyBys, oX1 k k_count, aI cI (k 1) 20 k_places, aI cI (k 2) 20 k_positions] sz) := by
  refine stW (cc := cX5_write) (maxL := 3) (ret := (some .int)) (Qf := fun A => (QwI D zr (fun u => [oX5 x b h k r q v x_random, oX0 b b_keyCount b_sheetSet b_handSort b_handNumber, aI cI (b 1) 6 b_kinds, aI cI (b 2) 6 b_sizes, aI cI (b 6) 4 b_keySlots, aI cI (b 7) 4 b_keyBys, oX1 k u.2.2, aI cI (k 1) 20 u.1, aI cI (k 2) 20 u.2.1]) A)) (by decide +kernel) rfl (Nat.le_of_ble_eq_true rfl) ?_
  intro p e s m args below meth c A C0 hr hlocks hname hsz hP hD hA hAb hE ls hl
  obtain ⟨hx, hb, hml, hown, hts⟩ := id C0
  have hown : s.vm.findClass RX5 = some m.cls := hown
  obtain ⟨hK, hNW, -, tw, hZ, hT⟩ := id hE
  have hl : lv_has ls 3 [(0, .ref (x 0)), (1, .int x1), (2, .int x2)] := hl
  have hS : va_S A s.heap s.heap [] := va_S.rf
  have hI_X5 := (show ∀ w ∈ wsX50, w ∈ wsX5_write by decide +kernel)
  have gf10 := hts (.fieldLink RX5 10 "RowRanks" "bench" "LRowRanks$Bench;") (by decide +kernel)
  have gf26 := hts (.fieldLink RX5 26 "RowRanks" "book" "LRowRanks$Book;") (by decide +kernel)
  have hI_X1 := (show ∀ w ∈ wsX10, w ∈ wsX5_write by decide +kernel)
  have gf82 := hNW (.fieldLinkNest RX5 82 RX1 "count" "I" RX5) (by decide +kernel)
  have gk229 := hts (.constant RX5 229 (-1000000004)) (by decide +kernel)
  have gk99 := hts (.constant RX5 99 (-1000000001)) (by decide +kernel)
  unfold f_X5_write at hf
  have go : ∀ (H : Heap) (locs : List Loc), va_P D vwCl [oX5 x b h k r q v x_random, oX0 b b_keyCount b_sheetSet b_handSort b_handNumber, aI cI (b 1) 6 b_kinds, aI cI (b 2) 6 b_sizes, aI cI (b 6) 4 b_keySlots, aI cI (b 7) 4 b_keyBys, oX1 k k_count, aI cI (k 1) 20 k_places, aI cI (k 2) 20 k_positions] H → va_S A s.heap H locs → W p l e { frames := 4, cells := 0, slots := 0, locals := 88 } s m args below meth c H locs 0 0 (MQ below (QwI D zr (fun u => [oX5 x b h k r q v x_random, oX0 b b_keyCount b_sheetSet b_handSort b_handNumber, aI cI (b 1) 6 b_kinds, aI cI (b 2) 6 b_sizes, aI cI (b 6) 4 b_keySlots, aI cI (b 7) 4 b_keyBys, oX1 k u.2.2, aI cI (k 1) 20 u.1, aI cI (k 2) 20 u.2.1]) A) args s 0 0 A) (F0 m 0 ls []) := by
    intro H locs hP hS
    refine lv_iload_n hx hb dX5_write_0 rfl (lv_at hl 1 rfl) ?_
    refine lv_iconst (v := 0) hx hb dX5_write_1 (by decide) ?_
    refine lv_aload_n hx hb dX5_write_2 rfl (lv_at hl 0 rfl) ?_
    refine va_get (D := D) (ci := 5) (v := .ref (b 0)) (C := RX5) (T := TX5) (N := 9) hx hb hts hI_X5 hown hK hP 0 rfl rfl 0 (by decide) gf10 (fun _ h9 => h9) rfl dX5_write_3 ?_
    obtain ⟨z1, hz1, hf⟩ := obd hf
    refine kI (runV (As := []) (rest := [.int 0, .int x1]) C0 hE hAb hP ((hD.weaken (fun _ _ _ h9 => hAb _ h9)).addr rfl) hS [1, 2, 3, 4, 5] (wc := [oX0 b b_keyCount b_sheetSet b_handSort b_handNumber, aI cI (b 1) 6 b_kinds, aI cI (b 2) 6 b_sizes, aI cI (b 6) 4 b_keySlots, aI cI (b 7) 4 b_keyBys]) (by decide) rfl 1 rfl rfl (c_X0_length l D cI cJ cZ cQ bs H.size b b_keyCount b_sheetSet b_handSort b_handNumber b_kinds b_sizes b_keySlots b_keyBys z1 hz1) (cwV 0 hts gX5_write_X0_length rfl rfl rfl (by decide +kernel) ⟨Nat.le_of_ble_eq_true rfl, Nat.le_of_ble_eq_true rfl⟩) rfl hl.1 rfl (Nat.le_of_ble_eq_true rfl) dX5_write_6 ⟨Nat.le_of_ble_eq_true rfl, Nat.le_of_ble_eq_true rfl⟩) hS hP (fun H locs hP hS => ?_)
    refine lv_iconst (v := 1) hx hb dX5_write_9 (by decide) ?_
    refine lv_isub hx hb dX5_write_10 ?_
    obtain ⟨z2, hz2, hf⟩ := obd hf
    refine kZ (runS (As := [.int x1, .int 0, .int (z1 - (1 : Int32))]) (rest := []) C0 hE hAb hP ((hD.weaken (fun _ _ _ h9 => hAb _ h9)).addr rfl) hS [] (wc := []) (by decide) rfl (c_X5_isIn l D cI cJ cZ cQ bs H.size x1 0 (z1 - (1 : Int32)) z2 hz2) (va_cwS 3 hts gX5_write_X5_isIn rfl rfl rfl (by decide +kernel) ⟨Nat.le_of_ble_eq_true rfl, Nat.le_of_ble_eq_true rfl⟩) rfl hl.1 rfl (Nat.le_of_ble_eq_true rfl) dX5_write_11 ⟨Nat.le_of_ble_eq_true rfl, Nat.le_of_ble_eq_true rfl⟩) hS hP (fun bz2 H locs hP hS => ?_)
    refine lv_if_ne (tgt := 20) hx hb dX5_write_14 (by decide) (fun c3 => ?_) (fun c3 => ?_)
    · replace hf := oel c3 hf
      refine lv_aload_n hx hb dX5_write_20 rfl (lv_at hl 0 rfl) ?_
      refine va_get (D := D) (ci := 5) (v := .ref (k 0)) (C := RX5) (T := TX5) (N := 9) hx hb hts hI_X5 hown hK hP 0 rfl rfl 2 (by decide) gf26 (fun _ h9 => h9) rfl dX5_write_21 ?_
      refine va_getN (D := D) (ci := 1) (v := .int k_count) (C := RX1) (T := TX1) (N := 3) hx hb hts hI_X1 hown hK hP 6 rfl rfl 2 (by decide) (va_Nw.use rfl gf82) (fun _ h9 => h9) rfl dX5_write_24 ?_
      refine lv_bipush (v := 20) hx hb dX5_write_27 (by decide) ?_
      refine lv_icmp_lt (tgt := 35) hx hb dX5_write_29 (by decide) (fun c4 => ?_) (fun c4 => ?_)
      · replace hf := oif c4 hf
        refine lv_aload_n hx hb dX5_write_35 rfl (lv_at hl 0 rfl) ?_
        refine va_get (D := D) (ci := 5) (v := .ref (k 0)) (C := RX5) (T := TX5) (N := 9) hx hb hts hI_X5 hown hK hP 0 rfl rfl 2 (by decide) gf26 (fun _ h9 => h9) rfl dX5_write_36 ?_
        refine lv_iload_n hx hb dX5_write_39 rfl (lv_at hl 1 rfl) ?_
        refine lv_iload_n hx hb dX5_write_40 rfl (lv_at hl 2 rfl) ?_
        obtain ⟨z5, hz5, hf⟩ := obd hf
        refine kwV (runV (As := [.int x1, .int x2]) (rest := []) C0 hE hAb hP ((hD.weaken (fun _ _ _ h9 => hAb _ h9)).addr rfl) hS [6, 7, 8] (wc := [oX1 k k_count, aI cI (k 1) 20 k_places, aI cI (k 2) 20 k_positions]) (by decide) rfl 6 rfl rfl (c_X1_add l D cI cJ cZ cQ bs H.size k k_count k_places k_positions x1 x2 z5 hz5) (cwV 2 hts gX5_write_X1_add rfl rfl rfl (by decide +kernel) ⟨Nat.le_of_ble_eq_true rfl, Nat.le_of_ble_eq_true rfl⟩) rfl hl.1 rfl (Nat.le_of_ble_eq_true rfl) dX5_write_41 ⟨Nat.le_of_ble_eq_true rfl, Nat.le_of_ble_eq_true rfl⟩) hS hP (hD.addr rfl) hA [6, 7, 8] rfl rfl (ws' := [oX5 x b h k r q v x_random, oX0 b b_keyCount b_sheetSet b_handSort b_handNumber, aI cI (b 1) 6 b_kinds, aI cI (b 2) 6 b_sizes, aI cI (b 6) 4 b_keySlots, aI cI (b 7) 4 b_keyBys, oX1 k z5.2.2, aI cI (k 1) 20 z5.1, aI cI (k 2) 20 z5.2.1]) rfl rfl (fun H locs hP hS => ?_)
        refine lv_aload_n hx hb dX5_write_44 rfl (lv_at hl 0 rfl) ?_
        refine va_get (D := D) (ci := 5) (v := .ref (k 0)) (C := RX5) (T := TX5) (N := 9) hx hb hts hI_X5 hown hK hP 0 rfl rfl 2 (by decide) gf26 (fun _ h9 => h9) rfl dX5_write_45 ?_
        refine va_getN (D := D) (ci := 1) (v := .int z5.2.2) (C := RX1) (T := TX1) (N := 3) hx hb hts hI_X1 hown hK hP 6 rfl rfl 2 (by decide) (va_Nw.use rfl gf82) (fun _ h9 => h9) rfl dX5_write_48 ?_
        have er := Option.some.inj hf
        exact rwI (wm := (fun u => [oX5 x b h k r q v x_random, oX0 b b_keyCount b_sheetSet b_handSort b_handNumber, aI cI (b 1) 6 b_kinds, aI cI (b 2) 6 b_sizes, aI cI (b 6) 4 b_keySlots, aI cI (b 7) 4 b_keyBys, oX1 k u.2.2, aI cI (k 1) 20 u.1, aI cI (k 2) 20 u.2.1])) hx hb hr hS dX5_write_51 hP er hlocks
      · replace hf := oel c4 hf
        refine lv_ldc hx hb hown gk229 dX5_write_32 ?_
        have er := Option.some.inj hf
        exact rwI (wm := (fun u => [oX5 x b h k r q v x_random, oX0 b b_keyCount b_sheetSet b_handSort b_handNumber, aI cI (b 1) 6 b_kinds, aI cI (b 2) 6 b_sizes, aI cI (b 6) 4 b_keySlots, aI cI (b 7) 4 b_keyBys, oX1 k u.2.2, aI cI (k 1) 20 u.1, aI cI (k 2) 20 u.2.1])) hx hb hr hS dX5_write_34 hP er hlocks
    · replace hf := oif c3 hf
      refine lv_ldc hx hb hown gk99 dX5_write_17 ?_
      have er := Option.some.inj hf
      exact rwI (wm := (fun u => [oX5 x b h k r q v x_random, oX0 b b_keyCount b_sheetSet b_handSort b_handNumber, aI cI (b 1) 6 b_kinds, aI cI (b 2) 6 b_sizes, aI cI (b 6) 4 b_keySlots, aI cI (b 7) 4 b_keyBys, oX1 k u.2.2, aI cI (k 1) 20 u.1, aI cI (k 2) 20 u.2.1])) hx hb hr hS dX5_write_19 hP er hlocks
  exact go s.heap [] hP hS
noncomputable def f_X5_tear (k_count : Int32) : Option (Int32 × Int32) := some ((k_count, 0))
set_option maxHeartbeats 4000000 in
set_option maxRecDepth 100000 in
theorem c_X5_tear (l : Launch) (D : va_G) (cI cJ cZ cQ : ClassId) (bs sz : Nat) (x : Nat → Nat) (b : Nat → Nat) (h : Nat → Nat) (k : Nat → Nat) (r : Nat → Nat) (q : Nat → Nat) (v : Nat → Nat) (x_random : Int32) (k_count : Int32) (zr : Int32 × Int32) (hf : f_X5_tear k_count = some zr) : Met l yX5_tear wsX5_tear { frames := 0, cells := 0, slots := 0, locals := 0 } (va_Pc [.ref (x 0)] (Pr D cI cJ cZ cQ bs sz [oX5 x b h k r q v x_random, oX1 k k_count])) (QwI D zr (fun u => [oX5 x b h k r q v x_random, oX1 k u]) (va_A [oX5 x b h k r q v x_random, oX1 k k_count] sz)) 0 0 (va_A [oX5 x b h k r q v x_random, oX1 k k_count] sz) := by
  refine stW (cc := cX5_tear) (maxL := 2) (ret := (some .int)) (Qf := fun A => (QwI D zr (fun u => [oX5 x b h k r q v x_random, oX1 k u]) A)) (by decide +kernel) rfl (Nat.le_of_ble_eq_true rfl) ?_
  intro p e s m args below meth c A C0 hr hlocks hname hsz hP hD hA hAb hE ls hl
  obtain ⟨hx, hb, hml, hown, hts⟩ := id C0
  have hown : s.vm.findClass RX5 = some m.cls := hown
  obtain ⟨hK, hNW, -, tw, hZ, hT⟩ := id hE
  have hl : lv_has ls 2 [(0, .ref (x 0))] := hl
  have hS : va_S A s.heap s.heap [] := va_S.rf
  have hI_X5 := (show ∀ w ∈ wsX50, w ∈ wsX5_tear by decide +kernel)
  have gf26 := hts (.fieldLink RX5 26 "RowRanks" "book" "LRowRanks$Book;") (by decide +kernel)
  have hI_X1 := (show ∀ w ∈ wsX10, w ∈ wsX5_tear by decide +kernel)
  have gf82 := hNW (.fieldLinkNest RX5 82 RX1 "count" "I" RX5) (by decide +kernel)
  unfold f_X5_tear at hf
  have go : ∀ (H : Heap) (locs : List Loc), va_P D vwCl [oX5 x b h k r q v x_random, oX1 k k_count] H → va_S A s.heap H locs → W p l e { frames := 0, cells := 0, slots := 0, locals := 0 } s m args below meth c H locs 0 0 (MQ below (QwI D zr (fun u => [oX5 x b h k r q v x_random, oX1 k u]) A) args s 0 0 A) (F0 m 0 ls []) := by
    intro H locs hP hS
    refine lv_aload_n hx hb dX5_tear_0 rfl (lv_at hl 0 rfl) ?_
    refine va_get (D := D) (ci := 5) (v := .ref (k 0)) (C := RX5) (T := TX5) (N := 9) hx hb hts hI_X5 hown hK hP 0 rfl rfl 2 (by decide) gf26 (fun _ h9 => h9) rfl dX5_tear_1 ?_
    refine va_getN (D := D) (ci := 1) (v := .int k_count) (C := RX1) (T := TX1) (N := 3) hx hb hts hI_X1 hown hK hP 1 rfl rfl 2 (by decide) (va_Nw.use rfl gf82) (fun _ h9 => h9) rfl dX5_tear_4 ?_
    refine lv_istore_n (lv' := [(1, .int k_count), (0, .ref (x 0))]) hx hb dX5_tear_7 rfl hl (by decide) rfl (fun ls hl => ?_)
    refine lv_aload_n hx hb dX5_tear_8 rfl (lv_at hl 1 rfl) ?_
    refine va_get (D := D) (ci := 5) (v := .ref (k 0)) (C := RX5) (T := TX5) (N := 9) hx hb hts hI_X5 hown hK hP 0 rfl rfl 2 (by decide) gf26 (fun _ h9 => h9) rfl dX5_tear_9 ?_
    refine lv_iconst (v := 0) hx hb dX5_tear_12 (by decide) ?_
    refine va_putN (D := D) (ci := 1) (v := .int 0) (ty := .int) (C := RX1) (T := TX1) (N := 3) hx hb hts hI_X1 tyX1 tyX1_ok nmX1 hown hK hP (hD.addr rfl) hS 1 rfl rfl 2 (by decide) (va_Nw.use rfl gf82) (fun _ h9 => h9) rfl (by decide +kernel) rfl rfl (Nat.le_of_ble_eq_true rfl) dX5_tear_13 (fun H locs hP _ hS => ?_)
    have hP : va_P D vwCl [oX5 x b h k r q v x_random, oX1 k 0] H := hP
    refine lv_iload_n hx hb dX5_tear_16 rfl (lv_at hl 0 rfl) ?_
    have er := Option.some.inj hf
    exact rwI (wm := (fun u => [oX5 x b h k r q v x_random, oX1 k u])) hx hb hr hS dX5_tear_17 hP er hlocks
  exact go s.heap [] hP hS
noncomputable def f_X5_seed (x_random : Int32) (x1 : Int32) : Option (Int32 × Int32) := if 0 ≤ x1 then (some ((x_random, x1))) else (some (((-1000000002), x_random)))
set_option maxHeartbeats 4000000 in
set_option maxRecDepth 100000 in
theorem c_X5_seed (l : Launch) (D : va_G) (cI cJ cZ cQ : ClassId) (bs sz : Nat) (x : Nat → Nat) (b : Nat → Nat) (h : Nat → Nat) (k : Nat → Nat) (r : Nat → Nat) (q : Nat → Nat) (v : Nat → Nat) (x_random : Int32) (x1 : Int32) (zr : Int32 × Int32) (hf : f_X5_seed x_random x1 = some zr) : Met l yX5_seed wsX5_seed { frames := 0, cells := 0, slots := 0, locals := 0 } (va_Pc [.ref (x 0), .int x1] (Pr D cI cJ cZ cQ bs sz [oX5 x b h k r q v x_random])) (QwI D zr (fun u => [oX5 x b h k r q v u]) (va_A [oX5 x b h k r q v x_random] sz)) 0 0 (va_A [oX5 x b h k r q v x_random] sz) := by
  refine stW (cc := cX5_seed) (maxL := 3) (ret := (some .int)) (Qf := fun A => (QwI D zr (fun u => [oX5 x b h k r q v u]) A)) (by decide +kernel) rfl (Nat.le_of_ble_eq_true rfl) ?_
  intro p e s m args below meth c A C0 hr hlocks hname hsz hP hD hA hAb hE ls hl
  obtain ⟨hx, hb, hml, hown, hts⟩ := id C0
  have hown : s.vm.findClass RX5 = some m.cls := hown
  obtain ⟨hK, hNW, -, tw, hZ, hT⟩ := id hE
  have hl : lv_has ls 3 [(0, .ref (x 0)), (1, .int x1)] := hl
  have hS : va_S A s.heap s.heap [] := va_S.rf
  have hI_X5 := (show ∀ w ∈ wsX50, w ∈ wsX5_seed by decide +kernel)
  have gf55 := hts (.fieldLink RX5 55 "RowRanks" "random" "I") (by decide +kernel)
  have gk94 := hts (.constant RX5 94 (-1000000002)) (by decide +kernel)
  unfold f_X5_seed at hf
  have go : ∀ (H : Heap) (locs : List Loc), va_P D vwCl [oX5 x b h k r q v x_random] H → va_S A s.heap H locs → W p l e { frames := 0, cells := 0, slots := 0, locals := 0 } s m args below meth c H locs 0 0 (MQ below (QwI D zr (fun u => [oX5 x b h k r q v u]) A) args s 0 0 A) (F0 m 0 ls []) := by
    intro H locs hP hS
    refine lv_iload_n hx hb dX5_seed_0 rfl (lv_at hl 1 rfl) ?_
    refine lv_if_ge (tgt := 7) hx hb dX5_seed_1 (by decide) (fun c1 => ?_) (fun c1 => ?_)
    · replace hf := oif c1 hf
      refine lv_aload_n hx hb dX5_seed_7 rfl (lv_at hl 0 rfl) ?_
      refine va_get (D := D) (ci := 5) (v := .int x_random) (C := RX5) (T := TX5) (N := 9) hx hb hts hI_X5 hown hK hP 0 rfl rfl 8 (by decide) gf55 (fun _ h9 => h9) rfl dX5_seed_8 ?_
      refine lv_istore_n (lv' := [(2, .int x_random), (0, .ref (x 0)), (1, .int x1)]) hx hb dX5_seed_11 rfl hl (by decide) rfl (fun ls hl => ?_)
      refine lv_aload_n hx hb dX5_seed_12 rfl (lv_at hl 1 rfl) ?_
      refine lv_iload_n hx hb dX5_seed_13 rfl (lv_at hl 2 rfl) ?_
      refine va_put (D := D) (ci := 5) (v := .int x1) (ty := .int) (C := RX5) (T := TX5) (N := 9) hx hb hts hI_X5 tyX5 tyX5_ok nmX5 hown hK hP (hD.addr rfl) hS 0 rfl rfl 8 (by decide) gf55 (fun _ h9 => h9) rfl (by decide +kernel) rfl rfl (Nat.le_of_ble_eq_true rfl) dX5_seed_14 (fun H locs hP _ hS => ?_)
      have hP : va_P D vwCl [oX5 x b h k r q v x1] H := hP
      refine lv_iload_n hx hb dX5_seed_17 rfl (lv_at hl 0 rfl) ?_
      have er := Option.some.inj hf
      exact rwI (wm := (fun u => [oX5 x b h k r q v u])) hx hb hr hS dX5_seed_18 hP er hlocks
    · replace hf := oel c1 hf
      refine lv_ldc hx hb hown gk94 dX5_seed_4 ?_
      have er := Option.some.inj hf
      exact rwI (wm := (fun u => [oX5 x b h k r q v u])) hx hb hr hS dX5_seed_6 hP er hlocks
  exact go s.heap [] hP hS
noncomputable def f_X5_draw (x_random : Int32) (x1 : Int32) : Option (Int32 × Int32) := (some ((Int64.toInt32 ((((Int32.toInt64 x_random) * (1103515245 : Int64)) + (12345 : Int64)) &&& (2147483647 : Int64))) : Int32)).bind (fun y1 => if x1 ≤ 0 then (some ((0, y1))) else (if ¬ x1 = 0 then (some ((((y1 / (65536 : Int32)) - (y1 / (65536 : Int32)) / x1 * x1), y1))) else none))
set_option maxHeartbeats 4000000 in
set_option maxRecDepth 100000 in
theorem c_X5_draw (l : Launch) (D : va_G) (cI cJ cZ cQ : ClassId) (bs sz : Nat) (x : Nat → Nat) (b : Nat → Nat) (h : Nat → Nat) (k : Nat → Nat) (r : Nat → Nat) (q : Nat → Nat) (v : Nat → Nat) (x_random : Int32) (x1 : Int32) (zr : Int32 × Int32) (hf : f_X5_draw x_random x1 = some zr) : Met l yX5_draw wsX5_draw { frames := 0, cells := 0, slots := 0, locals := 0 } (va_Pc [.ref (x 0), .int x1] (Pr D cI cJ cZ cQ bs sz [oX5 x b h k r q v x_random])) (QwI D zr (fun u => [oX5 x b h k r q v u]) (va_A [oX5 x b h k r q v x_random] sz)) 0 0 (va_A [oX5 x b h k r q v x_random] sz) := by
  refine stW (cc := cX5_draw) (maxL := 2) (ret := (some .int)) (Qf := fun A => (QwI D zr (fun u => [oX5 x b h k r q v u]) A)) (by decide +kernel) rfl (Nat.le_of_ble_eq_true rfl) ?_
  intro p e s m args below meth c A C0 hr hlocks hname hsz hP hD hA hAb hE ls hl
  obtain ⟨hx, hb, hml, hown, hts⟩ := id C0
  have hown : s.vm.findClass RX5 = some m.cls := hown
  obtain ⟨hK, hNW, -, tw, hZ, hT⟩ := id hE
  have hl : lv_has ls 2 [(0, .ref (x 0)), (1, .int x1)] := hl
  have hS : va_S A s.heap s.heap [] := va_S.rf
  have hI_X5 := (show ∀ w ∈ wsX50, w ∈ wsX5_draw by decide +kernel)
  have gf55 := hts (.fieldLink RX5 55 "RowRanks" "random" "I") (by decide +kernel)
  have gk323 := hts (.constantLong RX5 323 (1103515245)) (by decide +kernel)
  have gk325 := hts (.constantLong RX5 325 (12345)) (by decide +kernel)
  have gk327 := hts (.constantLong RX5 327 (2147483647)) (by decide +kernel)
  have gk329 := hts (.constant RX5 329 (65536)) (by decide +kernel)
  unfold f_X5_draw at hf
  have go : ∀ (H : Heap) (locs : List Loc), va_P D vwCl [oX5 x b h k r q v x_random] H → va_S A s.heap H locs → W p l e { frames := 0, cells := 0, slots := 0, locals := 0 } s m args below meth c H locs 0 0 (MQ below (QwI D zr (fun u => [oX5 x b h k r q v u]) A) args s 0 0 A) (F0 m 0 ls []) := by
    intro H locs hP hS
    refine lv_aload_n hx hb dX5_draw_0 rfl (lv_at hl 0 rfl) ?_
    refine lv_aload_n hx hb dX5_draw_1 rfl (lv_at hl 0 rfl) ?_
    refine va_get (D := D) (ci := 5) (v := .int x_random) (C := RX5) (T := TX5) (N := 9) hx hb hts hI_X5 hown hK hP 0 rfl rfl 8 (by decide) gf55 (fun _ h9 => h9) rfl dX5_draw_2 ?_
    refine lv_i2l (v := (Int32.toInt64 x_random)) hx hb dX5_draw_5 rfl ?_
    refine lv_ldc2 hx hb hown gk323 dX5_draw_6 ?_
    refine lv_lmul hx hb dX5_draw_9 ?_
    refine lv_ldc2 hx hb hown gk325 dX5_draw_10 ?_
    refine lv_ladd hx hb dX5_draw_13 ?_
    refine lv_ldc2 hx hb hown gk327 dX5_draw_14 ?_
    refine lv_land hx hb dX5_draw_17 ?_
    refine lv_l2i (v := (Int64.toInt32 ((((Int32.toInt64 x_random) * (1103515245 : Int64)) + (12345 : Int64)) &&& (2147483647 : Int64)))) hx hb dX5_draw_18 rfl ?_
    refine lv_topi (fun y1 ey1 => ?_)
    replace hf := onm ey1 hf
    refine va_put (D := D) (ci := 5) (v := .int y1) (ty := .int) (C := RX5) (T := TX5) (N := 9) hx hb hts hI_X5 tyX5 tyX5_ok nmX5 hown hK hP (hD.addr rfl) hS 0 rfl rfl 8 (by decide) gf55 (fun _ h9 => h9) rfl (by decide +kernel) rfl rfl (Nat.le_of_ble_eq_true rfl) dX5_draw_19 (fun H locs hP _ hS => ?_)
    have hP : va_P D vwCl [oX5 x b h k r q v y1] H := hP
    refine lv_iload_n hx hb dX5_draw_22 rfl (lv_at hl 1 rfl) ?_
    refine lv_if_le (tgt := 39) hx hb dX5_draw_23 (by decide) (fun c2 => ?_) (fun c2 => ?_)
    · replace hf := oif c2 hf
      refine lv_iconst (v := 0) hx hb dX5_draw_39 (by decide) ?_
      have er := Option.some.inj hf
      exact rwI (wm := (fun u => [oX5 x b h k r q v u])) hx hb hr hS dX5_draw_40 hP er hlocks
    · replace hf := oel c2 hf
      refine lv_aload_n hx hb dX5_draw_26 rfl (lv_at hl 0 rfl) ?_
      refine va_get (D := D) (ci := 5) (v := .int y1) (C := RX5) (T := TX5) (N := 9) hx hb hts hI_X5 hown hK hP 0 rfl rfl 8 (by decide) gf55 (fun _ h9 => h9) rfl dX5_draw_27 ?_
      refine lv_ldcw hx hb hown gk329 dX5_draw_30 ?_
      refine lv_idiv hx hb dX5_draw_33 (by decide) ?_
      refine lv_iload_n hx hb dX5_draw_34 rfl (lv_at hl 1 rfl) ?_
      obtain ⟨h4, hf⟩ := ogd hf
      refine lv_irem hx hb dX5_draw_35 h4 ?_
      refine lv_goto (tgt := 40) hx hb dX5_draw_36 (by decide) ?_
      have er := Option.some.inj hf
      exact rwI (wm := (fun u => [oX5 x b h k r q v u])) hx hb hr hS dX5_draw_40 hP er hlocks
  exact go s.heap [] hP hS
noncomputable def f_X5_putByChance (x_random : Int32) (b_kinds : Nat → Int32) (b_sizes : Nat → Int32) (b_sorts : Nat → Int32) (b_numbers : Nat → Int64) : Option (Int32 × Int32 × (Nat → Int32) × (Nat → Int64)) := (f_X5_draw x_random 6).bind (fun z1 => (f_X5_draw z1.2 12).bind (fun z2 => (f_X5_draw z2.2 10).bind (fun z3 => (f_X5_draw z3.2 256).bind (fun z4 => if z3.1 = 8 then ((some ((Int32.toInt64 (z4.1 - z4.1 / (8 : Int32) * (8 : Int32))) : Int64)).bind (fun y11 => (f_X0_whyNotPut b_kinds b_sizes z1.1 z2.1 z3.1 y11 0).bind (fun z12 => if z12 = 0 then ((f_X0_store b_kinds b_sorts b_numbers z1.1 z2.1 z3.1 y11).bind (fun z14 => some ((1, z4.2, z14.1, z14.2)))) else (some ((0, z4.2, b_sorts, b_numbers)))))) else ((f_X5_made z3.1 (Int32.toInt64 (z4.1 - (128 : Int32)))).bind (fun z6 => (f_X0_whyNotPut b_kinds b_sizes z1.1 z2.1 z3.1 z6 0).bind (fun z7 => if z7 = 0 then ((f_X0_store b_kinds b_sorts b_numbers z1.1 z2.1 z3.1 z6).bind (fun z9 => some ((1, z4.2, z9.1, z9.2)))) else (some ((0, z4.2, b_sorts, b_numbers))))))))))
set_option maxHeartbeats 4000000 in
set_option maxRecDepth 100000 in
theorem c_X5_putByChance (l : Launch) (D : va_G) (cI cJ cZ cQ : ClassId) (bs sz : Nat) (x : Nat → Nat) (b : Nat → Nat) (h : Nat → Nat) (k : Nat → Nat) (r : Nat → Nat) (q : Nat → Nat) (v : Nat → Nat) (x_random : Int32) (b_keyCount : Int32) (b_sheetSet : Int32) (b_handSort : Int32) (b_handNumber : Int64) (b_kinds : Nat → Int32) (b_sizes : Nat → Int32) (b_sorts : Nat → Int32) (b_numbers : Nat → Int64) (zr : Int32 × Int32 × (Nat → Int32) × (Nat → Int64)) (hf : f_X5_putByChance x_random b_kinds b_sizes b_sorts b_numbers = some zr) : Met l yX5_putByChance wsX5_putByChance { frames := 4, cells := 0, slots := 0, locals := 92 } (va_Pc [.ref (x 0)] (Pr D cI cJ cZ cQ bs sz [oX5 x b h k r q v x_random, oX0 b b_keyCount b_sheetSet b_handSort b_handNumber, aI cI (b 1) 6 b_kinds, aI cI (b 2) 6 b_sizes, aI cI (b 3) 72 b_sorts, aJ cJ (b 4) 72 b_numbers])) (QwZ D zr (fun u => [oX5 x b h k r q v u.1, oX0 b b_keyCount b_sheetSet b_handSort b_handNumber, aI cI (b 1) 6 b_kinds, aI cI (b 2) 6 b_sizes, aI cI (b 3) 72 u.2.1, aJ cJ (b 4) 72 u.2.2]) (va_A [oX5 x b h k r q v x_random, oX0 b b_keyCount b_sheetSet b_handSort b_handNumber, aI cI (b 1) 6 b_kinds, aI cI (b 2) 6 b_sizes, aI cI (b 3) 72 b_sorts, aJ cJ (b 4) 72 b_numbers] sz)) 0 0 (va_A [oX5 x b h k r q v x_random, oX0 b b_keyCount b_sheetSet b_handSort b_handNumber, aI cI (b 1) 6 b_kinds, aI cI (b 2) 6 b_sizes, aI cI (b 3) 72 b_sorts, aJ cJ (b 4) 72 b_numbers] sz) := by
  refine stW (cc := cX5_putByChance) (maxL := 7) (ret := (some .boolean)) (Qf := fun A => (QwZ D zr (fun u => [oX5 x b h k r q v u.1, oX0 b b_keyCount b_sheetSet b_handSort b_handNumber, aI cI (b 1) 6 b_kinds, aI cI (b 2) 6 b_sizes, aI cI (b 3) 72 u.2.1, aJ cJ (b 4) 72 u.2.2]) A)) (by decide +kernel) rfl (Nat.le_of_ble_eq_true rfl) ?_
  intro p e s m args below meth c A C0 hr hlocks hname hsz hP hD hA hAb hE ls hl
  obtain ⟨hx, hb, hml, hown, hts⟩ := id C0
  have hown : s.vm.findClass RX5 = some m.cls := hown
  obtain ⟨hK, hNW, -, tw, hZ, hT⟩ := id hE
  have hl : lv_has ls 7 [(0, .ref (x 0))] := hl
  have hS : va_S A s.heap s.heap [] := va_S.rf
  have hI_X5 := (show ∀ w ∈ wsX50, w ∈ wsX5_putByChance by decide +kernel)
  have gf10 := hts (.fieldLink RX5 10 "RowRanks" "bench" "LRowRanks$Bench;") (by decide +kernel)
  unfold f_X5_putByChance at hf
  have go : ∀ (H : Heap) (locs : List Loc), va_P D vwCl [oX5 x b h k r q v x_random, oX0 b b_keyCount b_sheetSet b_handSort b_handNumber, aI cI (b 1) 6 b_kinds, aI cI (b 2) 6 b_sizes, aI cI (b 3) 72 b_sorts, aJ cJ (b 4) 72 b_numbers] H → va_S A s.heap H locs → W p l e { frames := 4, cells := 0, slots := 0, locals := 92 } s m args below meth c H locs 0 0 (MQ below (QwZ D zr (fun u => [oX5 x b h k r q v u.1, oX0 b b_keyCount b_sheetSet b_handSort b_handNumber, aI cI (b 1) 6 b_kinds, aI cI (b 2) 6 b_sizes, aI cI (b 3) 72 u.2.1, aJ cJ (b 4) 72 u.2.2]) A) args s 0 0 A) (F0 m 0 ls []) := by
    intro H locs hP hS
    refine lv_aload_n hx hb dX5_putByChance_0 rfl (lv_at hl 0 rfl) ?_
    refine lv_bipush (v := 6) hx hb dX5_putByChance_1 (by decide) ?_
    obtain ⟨z1, hz1, hf⟩ := obd hf
    refine kwI (runV (As := [.int 6]) (rest := []) C0 hE hAb hP ((hD.weaken (fun _ _ _ h9 => hAb _ h9)).addr rfl) hS [0] (wc := [oX5 x b h k r q v x_random]) (by decide) rfl 0 rfl rfl (c_X5_draw l D cI cJ cZ cQ bs H.size x b h k r q v x_random 6 z1 hz1) (cwV 1 hts gX5_putByChance_X5_draw rfl rfl rfl (by decide +kernel) ⟨Nat.le_of_ble_eq_true rfl, Nat.le_of_ble_eq_true rfl⟩) rfl hl.1 rfl (Nat.le_of_ble_eq_true rfl) dX5_putByChance_3 ⟨Nat.le_of_ble_eq_true rfl, Nat.le_of_ble_eq_true rfl⟩) hS hP (hD.addr rfl) hA [0] rfl rfl (ws' := [oX5 x b h k r q v z1.2, oX0 b b_keyCount b_sheetSet b_handSort b_handNumber, aI cI (b 1) 6 b_kinds, aI cI (b 2) 6 b_sizes, aI cI (b 3) 72 b_sorts, aJ cJ (b 4) 72 b_numbers]) rfl rfl (fun H locs hP hS => ?_)
    refine lv_istore_n (lv' := [(1, .int z1.1), (0, .ref (x 0))]) hx hb dX5_putByChance_6 rfl hl (by decide) rfl (fun ls hl => ?_)
    refine lv_aload_n hx hb dX5_putByChance_7 rfl (lv_at hl 1 rfl) ?_
    refine lv_bipush (v := 12) hx hb dX5_putByChance_8 (by decide) ?_
    obtain ⟨z2, hz2, hf⟩ := obd hf
    refine kwI (runV (As := [.int 12]) (rest := []) C0 hE hAb hP ((hD.weaken (fun _ _ _ h9 => hAb _ h9)).addr rfl) hS [0] (wc := [oX5 x b h k r q v z1.2]) (by decide) rfl 0 rfl rfl (c_X5_draw l D cI cJ cZ cQ bs H.size x b h k r q v z1.2 12 z2 hz2) (cwV 1 hts gX5_putByChance_X5_draw rfl rfl rfl (by decide +kernel) ⟨Nat.le_of_ble_eq_true rfl, Nat.le_of_ble_eq_true rfl⟩) rfl hl.1 rfl (Nat.le_of_ble_eq_true rfl) dX5_putByChance_10 ⟨Nat.le_of_ble_eq_true rfl, Nat.le_of_ble_eq_true rfl⟩) hS hP (hD.addr rfl) hA [0] rfl rfl (ws' := [oX5 x b h k r q v z2.2, oX0 b b_keyCount b_sheetSet b_handSort b_handNumber, aI cI (b 1) 6 b_kinds, aI cI (b 2) 6 b_sizes, aI cI (b 3) 72 b_sorts, aJ cJ (b 4) 72 b_numbers]) rfl rfl (fun H locs hP hS => ?_)
    refine lv_istore_n (lv' := [(2, .int z2.1), (1, .int z1.1), (0, .ref (x 0))]) hx hb dX5_putByChance_13 rfl hl (by decide) rfl (fun ls hl => ?_)
    refine lv_aload_n hx hb dX5_putByChance_14 rfl (lv_at hl 2 rfl) ?_
    refine lv_bipush (v := 10) hx hb dX5_putByChance_15 (by decide) ?_
    obtain ⟨z3, hz3, hf⟩ := obd hf
    refine kwI (runV (As := [.int 10]) (rest := []) C0 hE hAb hP ((hD.weaken (fun _ _ _ h9 => hAb _ h9)).addr rfl) hS [0] (wc := [oX5 x b h k r q v z2.2]) (by decide) rfl 0 rfl rfl (c_X5_draw l D cI cJ cZ cQ bs H.size x b h k r q v z2.2 10 z3 hz3) (cwV 1 hts gX5_putByChance_X5_draw rfl rfl rfl (by decide +kernel) ⟨Nat.le_of_ble_eq_true rfl, Nat.le_of_ble_eq_true rfl⟩) rfl hl.1 rfl (Nat.le_of_ble_eq_true rfl) dX5_putByChance_17 ⟨Nat.le_of_ble_eq_true rfl, Nat.le_of_ble_eq_true rfl⟩) hS hP (hD.addr rfl) hA [0] rfl rfl (ws' := [oX5 x b h k r q v z3.2, oX0 b b_keyCount b_sheetSet b_handSort b_handNumber, aI cI (b 1) 6 b_kinds, aI cI (b 2) 6 b_sizes, aI cI (b 3) 72 b_sorts, aJ cJ (b 4) 72 b_numbers]) rfl rfl (fun H locs hP hS => ?_)
    refine lv_istore_n (lv' := [(3, .int z3.1), (2, .int z2.1), (1, .int z1.1), (0, .ref (x 0))]) hx hb dX5_putByChance_20 rfl hl (by decide) rfl (fun ls hl => ?_)
    refine lv_aload_n hx hb dX5_putByChance_21 rfl (lv_at hl 3 rfl) ?_
    refine lv_sipush (v := 256) hx hb dX5_putByChance_22 (by decide) ?_
    obtain ⟨z4, hz4, hf⟩ := obd hf
    refine kwI (runV (As := [.int 256]) (rest := []) C0 hE hAb hP ((hD.weaken (fun _ _ _ h9 => hAb _ h9)).addr rfl) hS [0] (wc := [oX5 x b h k r q v z3.2]) (by decide) rfl 0 rfl rfl (c_X5_draw l D cI cJ cZ cQ bs H.size x b h k r q v z3.2 256 z4 hz4) (cwV 1 hts gX5_putByChance_X5_draw rfl rfl rfl (by decide +kernel) ⟨Nat.le_of_ble_eq_true rfl, Nat.le_of_ble_eq_true rfl⟩) rfl hl.1 rfl (Nat.le_of_ble_eq_true rfl) dX5_putByChance_25 ⟨Nat.le_of_ble_eq_true rfl, Nat.le_of_ble_eq_true rfl⟩) hS hP (hD.addr rfl) hA [0] rfl rfl (ws' := [oX5 x b h k r q v z4.2, oX0 b b_keyCount b_sheetSet b_handSort b_handNumber, aI cI (b 1) 6 b_kinds, aI cI (b 2) 6 b_sizes, aI cI (b 3) 72 b_sorts, aJ cJ (b 4) 72 b_numbers]) rfl rfl (fun H locs hP hS => ?_)
    refine lv_istore (lv' := [(4, .int z4.1), (3, .int z3.1), (2, .int z2.1), (1, .int z1.1), (0, .ref (x 0))]) hx hb dX5_putByChance_28 hl (by decide) rfl (fun ls hl => ?_)
    refine lv_iload_n hx hb dX5_putByChance_30 rfl (lv_at hl 1 rfl) ?_
    refine lv_bipush (v := 8) hx hb dX5_putByChance_31 (by decide) ?_
    refine lv_icmp_ne (tgt := 45) hx hb dX5_putByChance_33 (by decide) (fun c5 => ?_) (fun c5 => ?_)
    · replace hf := oel c5 hf
      refine lv_iload_n hx hb dX5_putByChance_45 rfl (lv_at hl 1 rfl) ?_
      refine lv_iload hx hb dX5_putByChance_46 (lv_at hl 0 rfl) ?_
      refine lv_sipush (v := 128) hx hb dX5_putByChance_48 (by decide) ?_
      refine lv_isub hx hb dX5_putByChance_51 ?_
      refine lv_i2l (v := (Int32.toInt64 (z4.1 - (128 : Int32)))) hx hb dX5_putByChance_52 rfl ?_
      obtain ⟨z6, hz6, hf⟩ := obd hf
      refine kJ (runS (As := [.int z3.1, .long (Int32.toInt64 (z4.1 - (128 : Int32)))]) (rest := []) C0 hE hAb hP ((hD.weaken (fun _ _ _ h9 => hAb _ h9)).addr rfl) hS [] (wc := []) (by decide) rfl (c_X5_made l D cI cJ cZ cQ bs H.size z3.1 (Int32.toInt64 (z4.1 - (128 : Int32))) z6 hz6) (va_cwS 2 hts gX5_putByChance_X5_made rfl rfl rfl (by decide +kernel) ⟨Nat.le_of_ble_eq_true rfl, Nat.le_of_ble_eq_true rfl⟩) rfl hl.1 rfl (Nat.le_of_ble_eq_true rfl) dX5_putByChance_53 ⟨Nat.le_of_ble_eq_true rfl, Nat.le_of_ble_eq_true rfl⟩) hS hP (fun H locs hP hS => ?_)
      refine lv_lstore (lv' := [(5, .long z6), (4, .int z4.1), (3, .int z3.1), (2, .int z2.1), (1, .int z1.1), (0, .ref (x 0))]) hx hb dX5_putByChance_56 hl (by decide) rfl (fun ls hl => ?_)
      refine lv_aload_n hx hb dX5_putByChance_58 rfl (lv_at hl 5 rfl) ?_
      refine va_get (D := D) (ci := 5) (v := .ref (b 0)) (C := RX5) (T := TX5) (N := 9) hx hb hts hI_X5 hown hK hP 0 rfl rfl 0 (by decide) gf10 (fun _ h9 => h9) rfl dX5_putByChance_59 ?_
      refine lv_iload_n hx hb dX5_putByChance_62 rfl (lv_at hl 4 rfl) ?_
      refine lv_iload_n hx hb dX5_putByChance_63 rfl (lv_at hl 3 rfl) ?_
      refine lv_iload_n hx hb dX5_putByChance_64 rfl (lv_at hl 2 rfl) ?_
      refine lv_lload hx hb dX5_putByChance_65 (lv_at hl 0 rfl) ?_
      refine lv_iconst (v := 0) hx hb dX5_putByChance_67 (by decide) ?_
      obtain ⟨z7, hz7, hf⟩ := obd hf
      refine kI (runV (As := [.int z1.1, .int z2.1, .int z3.1, .long z6, .int 0]) (rest := []) C0 hE hAb hP ((hD.weaken (fun _ _ _ h9 => hAb _ h9)).addr rfl) hS [1, 2, 3] (wc := [oX0 b b_keyCount b_sheetSet b_handSort b_handNumber, aI cI (b 1) 6 b_kinds, aI cI (b 2) 6 b_sizes]) (by decide) rfl 1 rfl rfl (c_X0_whyNotPut l D cI cJ cZ cQ bs H.size b b_keyCount b_sheetSet b_handSort b_handNumber b_kinds b_sizes z1.1 z2.1 z3.1 z6 0 z7 hz7) (cwV 5 hts gX5_putByChance_X0_whyNotPut rfl rfl rfl (by decide +kernel) ⟨Nat.le_of_ble_eq_true rfl, Nat.le_of_ble_eq_true rfl⟩) rfl hl.1 rfl (Nat.le_of_ble_eq_true rfl) dX5_putByChance_68 ⟨Nat.le_of_ble_eq_true rfl, Nat.le_of_ble_eq_true rfl⟩) hS hP (fun H locs hP hS => ?_)
      refine lv_if_eq (tgt := 76) hx hb dX5_putByChance_71 (by decide) (fun c8 => ?_) (fun c8 => ?_)
      · replace hf := oif c8 hf
        refine lv_aload_n hx hb dX5_putByChance_76 rfl (lv_at hl 5 rfl) ?_
        refine va_get (D := D) (ci := 5) (v := .ref (b 0)) (C := RX5) (T := TX5) (N := 9) hx hb hts hI_X5 hown hK hP 0 rfl rfl 0 (by decide) gf10 (fun _ h9 => h9) rfl dX5_putByChance_77 ?_
        refine lv_iload_n hx hb dX5_putByChance_80 rfl (lv_at hl 4 rfl) ?_
        refine lv_iload_n hx hb dX5_putByChance_81 rfl (lv_at hl 3 rfl) ?_
        refine lv_iload_n hx hb dX5_putByChance_82 rfl (lv_at hl 2 rfl) ?_
        refine lv_lload hx hb dX5_putByChance_83 (lv_at hl 0 rfl) ?_
        obtain ⟨z9, hz9, hf⟩ := obd hf
        refine kwV (runV (As := [.int z1.1, .int z2.1, .int z3.1, .long z6]) (rest := []) C0 hE hAb hP ((hD.weaken (fun _ _ _ h9 => hAb _ h9)).addr rfl) hS [1, 2, 4, 5] (wc := [oX0 b b_keyCount b_sheetSet b_handSort b_handNumber, aI cI (b 1) 6 b_kinds, aI cI (b 3) 72 b_sorts, aJ cJ (b 4) 72 b_numbers]) (by decide) rfl 1 rfl rfl (c_X0_store l D cI cJ cZ cQ bs H.size b b_keyCount b_sheetSet b_handSort b_handNumber b_kinds b_sorts b_numbers z1.1 z2.1 z3.1 z6 z9 hz9) (cwV 4 hts gX5_putByChance_X0_store rfl rfl rfl (by decide +kernel) ⟨Nat.le_of_ble_eq_true rfl, Nat.le_of_ble_eq_true rfl⟩) rfl hl.1 rfl (Nat.le_of_ble_eq_true rfl) dX5_putByChance_85 ⟨Nat.le_of_ble_eq_true rfl, Nat.le_of_ble_eq_true rfl⟩) hS hP (hD.addr rfl) hA [1, 2, 4, 5] rfl rfl (ws' := [oX5 x b h k r q v z4.2, oX0 b b_keyCount b_sheetSet b_handSort b_handNumber, aI cI (b 1) 6 b_kinds, aI cI (b 2) 6 b_sizes, aI cI (b 3) 72 z9.1, aJ cJ (b 4) 72 z9.2]) rfl rfl (fun H locs hP hS => ?_)
        refine lv_iconst (v := 1) hx hb dX5_putByChance_88 (by decide) ?_
        have er := Option.some.inj hf
        exact rwZ (wm := (fun u => [oX5 x b h k r q v u.1, oX0 b b_keyCount b_sheetSet b_handSort b_handNumber, aI cI (b 1) 6 b_kinds, aI cI (b 2) 6 b_sizes, aI cI (b 3) 72 u.2.1, aJ cJ (b 4) 72 u.2.2])) hx hb hr hS dX5_putByChance_89 hP er (by decide) hlocks
      · replace hf := oel c8 hf
        refine lv_iconst (v := 0) hx hb dX5_putByChance_74 (by decide) ?_
        have er := Option.some.inj hf
        exact rwZ (wm := (fun u => [oX5 x b h k r q v u.1, oX0 b b_keyCount b_sheetSet b_handSort b_handNumber, aI cI (b 1) 6 b_kinds, aI cI (b 2) 6 b_sizes, aI cI (b 3) 72 u.2.1, aJ cJ (b 4) 72 u.2.2])) hx hb hr hS dX5_putByChance_75 hP er (by decide) hlocks
    · replace hf := oif c5 hf
      refine lv_iload hx hb dX5_putByChance_36 (lv_at hl 0 rfl) ?_
      refine lv_bipush (v := 8) hx hb dX5_putByChance_38 (by decide) ?_
      refine lv_irem hx hb dX5_putByChance_40 (by decide) ?_
      refine lv_i2l (v := (Int32.toInt64 (z4.1 - z4.1 / (8 : Int32) * (8 : Int32)))) hx hb dX5_putByChance_41 rfl ?_
      refine lv_goto (tgt := 56) hx hb dX5_putByChance_42 (by decide) ?_
      refine lv_topl (fun y11 ey11 => ?_)
      replace hf := onm ey11 hf
      refine lv_lstore (lv' := [(5, .long y11), (4, .int z4.1), (3, .int z3.1), (2, .int z2.1), (1, .int z1.1), (0, .ref (x 0))]) hx hb dX5_putByChance_56 hl (by decide) rfl (fun ls hl => ?_)
      refine lv_aload_n hx hb dX5_putByChance_58 rfl (lv_at hl 5 rfl) ?_
      refine va_get (D := D) (ci := 5) (v := .ref (b 0)) (C := RX5) (T := TX5) (N := 9) hx hb hts hI_X5 hown hK hP 0 rfl rfl 0 (by decide) gf10 (fun _ h9 => h9) rfl dX5_putByChance_59 ?_
      refine lv_iload_n hx hb dX5_putByChance_62 rfl (lv_at hl 4 rfl) ?_
      refine lv_iload_n hx hb dX5_putByChance_63 rfl (lv_at hl 3 rfl) ?_
      refine lv_iload_n hx hb dX5_putByChance_64 rfl (lv_at hl 2 rfl) ?_
      refine lv_lload hx hb dX5_putByChance_65 (lv_at hl 0 rfl) ?_
      refine lv_iconst (v := 0) hx hb dX5_putByChance_67 (by decide) ?_
      obtain ⟨z12, hz12, hf⟩ := obd hf
      refine kI (runV (As := [.int z1.1, .int z2.1, .int z3.1, .long y11, .int 0]) (rest := []) C0 hE hAb hP ((hD.weaken (fun _ _ _ h9 => hAb _ h9)).addr rfl) hS [1, 2, 3] (wc := [oX0 b b_keyCount b_sheetSet b_handSort b_handNumber, aI cI (b 1) 6 b_kinds, aI cI (b 2) 6 b_sizes]) (by decide) rfl 1 rfl rfl (c_X0_whyNotPut l D cI cJ cZ cQ bs H.size b b_keyCount b_sheetSet b_handSort b_handNumber b_kinds b_sizes z1.1 z2.1 z3.1 y11 0 z12 hz12) (cwV 5 hts gX5_putByChance_X0_whyNotPut rfl rfl rfl (by decide +kernel) ⟨Nat.le_of_ble_eq_true rfl, Nat.le_of_ble_eq_true rfl⟩) rfl hl.1 rfl (Nat.le_of_ble_eq_true rfl) dX5_putByChance_68 ⟨Nat.le_of_ble_eq_true rfl, Nat.le_of_ble_eq_true rfl⟩) hS hP (fun H locs hP hS => ?_)
      refine lv_if_eq (tgt := 76) hx hb dX5_putByChance_71 (by decide) (fun c13 => ?_) (fun c13 => ?_)
      · replace hf := oif c13 hf
        refine lv_aload_n hx hb dX5_putByChance_76 rfl (lv_at hl 5 rfl) ?_
        refine va_get (D := D) (ci := 5) (v := .ref (b 0)) (C := RX5) (T := TX5) (N := 9) hx hb hts hI_X5 hown hK hP 0 rfl rfl 0 (by decide) gf10 (fun _ h9 => h9) rfl dX5_putByChance_77 ?_
        refine lv_iload_n hx hb dX5_putByChance_80 rfl (lv_at hl 4 rfl) ?_
        refine lv_iload_n hx hb dX5_putByChance_81 rfl (lv_at hl 3 rfl) ?_
        refine lv_iload_n hx hb dX5_putByChance_82 rfl (lv_at hl 2 rfl) ?_
        refine lv_lload hx hb dX5_putByChance_83 (lv_at hl 0 rfl) ?_
        obtain ⟨z14, hz14, hf⟩ := obd hf
        refine kwV (runV (As := [.int z1.1, .int z2.1, .int z3.1, .long y11]) (rest := []) C0 hE hAb hP ((hD.weaken (fun _ _ _ h9 => hAb _ h9)).addr rfl) hS [1, 2, 4, 5] (wc := [oX0 b b_keyCount b_sheetSet b_handSort b_handNumber, aI cI (b 1) 6 b_kinds, aI cI (b 3) 72 b_sorts, aJ cJ (b 4) 72 b_numbers]) (by decide) rfl 1 rfl rfl (c_X0_store l D cI cJ cZ cQ bs H.size b b_keyCount b_sheetSet b_handSort b_handNumber b_kinds b_sorts b_numbers z1.1 z2.1 z3.1 y11 z14 hz14) (cwV 4 hts gX5_putByChance_X0_store rfl rfl rfl (by decide +kernel) ⟨Nat.le_of_ble_eq_true rfl, Nat.le_of_ble_eq_true rfl⟩) rfl hl.1 rfl (Nat.le_of_ble_eq_true rfl) dX5_putByChance_85 ⟨Nat.le_of_ble_eq_true rfl, Nat.le_of_ble_eq_true rfl⟩) hS hP (hD.addr rfl) hA [1, 2, 4, 5] rfl rfl (ws' := [oX5 x b h k r q v z4.2, oX0 b b_keyCount b_sheetSet b_handSort b_handNumber, aI cI (b 1) 6 b_kinds, aI cI (b 2) 6 b_sizes, aI cI (b 3) 72 z14.1, aJ cJ (b 4) 72 z14.2]) rfl rfl (fun H locs hP hS => ?_)
        refine lv_iconst (v := 1) hx hb dX5_putByChance_88 (by decide) ?_
        have er := Option.some.inj hf
        exact rwZ (wm := (fun u => [oX5 x b h k r q v u.1, oX0 b b_keyCount b_sheetSet b_handSort b_handNumber, aI cI (b 1) 6 b_kinds, aI cI (b 2) 6 b_sizes, aI cI (b 3) 72 u.2.1, aJ cJ (b 4) 72 u.2.2])) hx hb hr hS dX5_putByChance_89 hP er (by decide) hlocks
      · replace hf := oel c13 hf
        refine lv_iconst (v := 0) hx hb dX5_putByChance_74 (by decide) ?_
        have er := Option.some.inj hf
        exact rwZ (wm := (fun u => [oX5 x b h k r q v u.1, oX0 b b_keyCount b_sheetSet b_handSort b_handNumber, aI cI (b 1) 6 b_kinds, aI cI (b 2) 6 b_sizes, aI cI (b 3) 72 u.2.1, aJ cJ (b 4) 72 u.2.2])) hx hb hr hS dX5_putByChance_75 hP er (by decide) hlocks
  exact go s.heap [] hP hS
noncomputable def f_X5_sourceOf (x0 : Int32) (x1 : Int32) (x2 : Int32) (x3 : Int32) : Option (Int32) := (f_X5_isIn x0 (if x2 < x1 then x2 else x1) (if x1 < x2 then x2 else x1)).bind (fun z1 => if z1 = 0 then (some (x0)) else (if x3 = 1 then (some (((x1 + x2) - x0))) else (if x0 = x2 then (some (x1)) else (if x3 = 0 then (if x0 = x1 then (some (x2)) else (some (x0))) else (if x2 ≤ x1 then (some ((x0 - (1 : Int32)))) else (some ((x0 + (1 : Int32)))))))))
set_option maxHeartbeats 4000000 in
set_option maxRecDepth 100000 in
theorem c_X5_sourceOf (l : Launch) (D : va_G) (cI cJ cZ cQ : ClassId) (bs sz : Nat) (x0 : Int32) (x1 : Int32) (x2 : Int32) (x3 : Int32) (zr : Int32) (hf : f_X5_sourceOf x0 x1 x2 x3 = some zr) : Met l yX5_sourceOf wsX5_sourceOf { frames := 1, cells := 0, slots := 0, locals := 22 } (va_Pc [.int x0, .int x1, .int x2, .int x3] (Pr D cI cJ cZ cQ bs sz [])) (QrI zr) 0 0 no := by
  refine stM (cc := cX5_sourceOf) (maxL := 4) (ret := (some .int)) (by decide +kernel) rfl (Nat.le_of_ble_eq_true rfl) ?_
  intro p e s m args below meth c C0 hr hlocks hname hsz hP hDb hE ls hl
  have hAb : ∀ q, no q → bs ≤ q := fun _ h => h.elim
  obtain ⟨hx, hb, hml, hown, hts⟩ := id C0
  have hown : s.vm.findClass RX5 = some m.cls := hown
  obtain ⟨hK, hNW, -, tw, hZ, hT⟩ := id hE
  have hl : lv_has ls 4 [(0, .int x0), (1, .int x1), (2, .int x2), (3, .int x3)] := hl
  have hS : va_S no s.heap s.heap [] := va_S.rf
  have gl315 := hts (.methodLink RX5 315 Lib.Math.min.name) (by decide +kernel)
  have gmmin2 := hts (.static Lib.Math.min.name) (by decide +kernel)
  have gmI := hts (.initialized "java/lang/Math") (by decide +kernel)
  have gmmin4 := hts (.code Lib.Math.min.name Lib.Math.min.code 2 (some .int)) (by decide +kernel)
  have gl320 := hts (.methodLink RX5 320 Lib.Math.max.name) (by decide +kernel)
  have gmmax2 := hts (.static Lib.Math.max.name) (by decide +kernel)
  have gmmax4 := hts (.code Lib.Math.max.name Lib.Math.max.code 2 (some .int)) (by decide +kernel)
  unfold f_X5_sourceOf at hf
  have go : ∀ (H : Heap) (locs : List Loc), va_P D vwCl [] H → va_S no s.heap H locs → W p l e { frames := 1, cells := 0, slots := 0, locals := 22 } s m args below meth c H locs 0 0 (MQ below (QrI zr) args s 0 0 no) (F0 m 0 ls []) := by
    intro H locs hP hS
    refine lv_iload_n hx hb dX5_sourceOf_0 rfl (lv_at hl 0 rfl) ?_
    refine lv_iload_n hx hb dX5_sourceOf_1 rfl (lv_at hl 1 rfl) ?_
    refine lv_iload_n hx hb dX5_sourceOf_2 rfl (lv_at hl 2 rfl) ?_
    refine va_mmin hx hb (hml.trans hl.1.symm) hown gl315 gmmin2 gmI gmmin4 (Nat.le_of_ble_eq_true rfl) (Nat.le_of_ble_eq_true rfl) (Nat.zero_le _) (Nat.zero_le _) dX5_sourceOf_3 ?_
    refine lv_iload_n hx hb dX5_sourceOf_6 rfl (lv_at hl 1 rfl) ?_
    refine lv_iload_n hx hb dX5_sourceOf_7 rfl (lv_at hl 2 rfl) ?_
    refine va_mmax hx hb (hml.trans hl.1.symm) hown gl320 gmmax2 gmI gmmax4 (Nat.le_of_ble_eq_true rfl) (Nat.le_of_ble_eq_true rfl) (Nat.zero_le _) (Nat.zero_le _) dX5_sourceOf_8 ?_
    obtain ⟨z1, hz1, hf⟩ := obd hf
    refine kZ (runS (As := [.int x0, .int (if x2 < x1 then x2 else x1), .int (if x1 < x2 then x2 else x1)]) (rest := []) C0 hE hAb hP (hDb.addr rfl) hS [] (wc := []) (by decide) rfl (c_X5_isIn l D cI cJ cZ cQ bs H.size x0 (if x2 < x1 then x2 else x1) (if x1 < x2 then x2 else x1) z1 hz1) (va_cwS 3 hts gX5_sourceOf_X5_isIn rfl rfl rfl (by decide +kernel) ⟨Nat.le_of_ble_eq_true rfl, Nat.le_of_ble_eq_true rfl⟩) rfl hl.1 rfl (Nat.le_of_ble_eq_true rfl) dX5_sourceOf_11 ⟨Nat.le_of_ble_eq_true rfl, Nat.le_of_ble_eq_true rfl⟩) hS hP (fun bz1 H locs hP hS => ?_)
    refine lv_if_ne (tgt := 19) hx hb dX5_sourceOf_14 (by decide) (fun c2 => ?_) (fun c2 => ?_)
    · replace hf := oel c2 hf
      refine lv_iload_n hx hb dX5_sourceOf_19 rfl (lv_at hl 3 rfl) ?_
      refine lv_iconst (v := 1) hx hb dX5_sourceOf_20 (by decide) ?_
      refine lv_icmp_ne (tgt := 30) hx hb dX5_sourceOf_21 (by decide) (fun c3 => ?_) (fun c3 => ?_)
      · replace hf := oel c3 hf
        refine lv_iload_n hx hb dX5_sourceOf_30 rfl (lv_at hl 0 rfl) ?_
        refine lv_iload_n hx hb dX5_sourceOf_31 rfl (lv_at hl 2 rfl) ?_
        refine lv_icmp_ne (tgt := 37) hx hb dX5_sourceOf_32 (by decide) (fun c4 => ?_) (fun c4 => ?_)
        · replace hf := oel c4 hf
          refine lv_iload_n hx hb dX5_sourceOf_37 rfl (lv_at hl 3 rfl) ?_
          refine lv_if_ne (tgt := 52) hx hb dX5_sourceOf_38 (by decide) (fun c5 => ?_) (fun c5 => ?_)
          · replace hf := oel c5 hf
            refine lv_iload_n hx hb dX5_sourceOf_52 rfl (lv_at hl 1 rfl) ?_
            refine lv_iload_n hx hb dX5_sourceOf_53 rfl (lv_at hl 2 rfl) ?_
            refine lv_icmp_ge (tgt := 63) hx hb dX5_sourceOf_54 (by decide) (fun c6 => ?_) (fun c6 => ?_)
            · replace hf := oif c6 hf
              refine lv_iload_n hx hb dX5_sourceOf_63 rfl (lv_at hl 0 rfl) ?_
              refine lv_iconst (v := 1) hx hb dX5_sourceOf_64 (by decide) ?_
              refine lv_isub hx hb dX5_sourceOf_65 ?_
              have er := Option.some.inj hf
              exact rtI hx hb hr hS dX5_sourceOf_66 er hlocks
            · replace hf := oel c6 hf
              refine lv_iload_n hx hb dX5_sourceOf_57 rfl (lv_at hl 0 rfl) ?_
              refine lv_iconst (v := 1) hx hb dX5_sourceOf_58 (by decide) ?_
              refine lv_iadd hx hb dX5_sourceOf_59 ?_
              refine lv_goto (tgt := 66) hx hb dX5_sourceOf_60 (by decide) ?_
              have er := Option.some.inj hf
              exact rtI hx hb hr hS dX5_sourceOf_66 er hlocks
          · replace hf := oif c5 hf
            refine lv_iload_n hx hb dX5_sourceOf_41 rfl (lv_at hl 0 rfl) ?_
            refine lv_iload_n hx hb dX5_sourceOf_42 rfl (lv_at hl 1 rfl) ?_
            refine lv_icmp_ne (tgt := 50) hx hb dX5_sourceOf_43 (by decide) (fun c7 => ?_) (fun c7 => ?_)
            · replace hf := oel c7 hf
              refine lv_iload_n hx hb dX5_sourceOf_50 rfl (lv_at hl 0 rfl) ?_
              have er := Option.some.inj hf
              exact rtI hx hb hr hS dX5_sourceOf_51 er hlocks
            · replace hf := oif c7 hf
              refine lv_iload_n hx hb dX5_sourceOf_46 rfl (lv_at hl 2 rfl) ?_
              refine lv_goto (tgt := 51) hx hb dX5_sourceOf_47 (by decide) ?_
              have er := Option.some.inj hf
              exact rtI hx hb hr hS dX5_sourceOf_51 er hlocks
        · replace hf := oif c4 hf
          refine lv_iload_n hx hb dX5_sourceOf_35 rfl (lv_at hl 1 rfl) ?_
          have er := Option.some.inj hf
          exact rtI hx hb hr hS dX5_sourceOf_36 er hlocks
      · replace hf := oif c3 hf
        refine lv_iload_n hx hb dX5_sourceOf_24 rfl (lv_at hl 1 rfl) ?_
        refine lv_iload_n hx hb dX5_sourceOf_25 rfl (lv_at hl 2 rfl) ?_
        refine lv_iadd hx hb dX5_sourceOf_26 ?_
        refine lv_iload_n hx hb dX5_sourceOf_27 rfl (lv_at hl 0 rfl) ?_
        refine lv_isub hx hb dX5_sourceOf_28 ?_
        have er := Option.some.inj hf
        exact rtI hx hb hr hS dX5_sourceOf_29 er hlocks
    · replace hf := oif c2 hf
      refine lv_iload_n hx hb dX5_sourceOf_17 rfl (lv_at hl 0 rfl) ?_
      have er := Option.some.inj hf
      exact rtI hx hb hr hS dX5_sourceOf_18 er hlocks
  exact go s.heap [] hP hS
noncomputable def L_X5_planMove_10 (v1 : Int32) (v2 : Int32) (v3 : Int32) (v4 : Int32) : Nat → Int32 → (Nat → Int32) → Int32 → Option ((Nat → Int32) × Int32)
  | 0, _, _, _ => none
  | n + 1, v5, v_from, v_count => if v4 ≤ v5 then (some ((v_from, v_count))) else ((f_X5_sourceOf v5 v1 v2 v3).bind (fun z3 => (f_X3_add v_from v_count z3).bind (fun z4 => (some (v5 + 1 : Int32)).bind (fun y5 => L_X5_planMove_10 v1 v2 v3 v4 n y5 z4.1 z4.2))))
noncomputable def f_X5_planMove (v_from : Nat → Int32) (v_count : Int32) (x1 : Int32) (x2 : Int32) (x3 : Int32) (x4 : Int32) : Option ((Nat → Int32) × Int32) := (f_X3_clear v_count).bind (fun z1 => (L_X5_planMove_10 x1 x2 x3 x4 4000 0 v_from z1).bind (fun z6 => some ((z6.1, z6.2))))
set_option maxHeartbeats 4000000 in
set_option maxRecDepth 100000 in
theorem c_X5_planMove (l : Launch) (D : va_G) (cI cJ cZ cQ : ClassId) (bs sz : Nat) (x : Nat → Nat) (b : Nat → Nat) (h : Nat → Nat) (k : Nat → Nat) (r : Nat → Nat) (q : Nat → Nat) (v : Nat → Nat) (x_random : Int32) (v_count : Int32) (v_from : Nat → Int32) (x1 : Int32) (x2 : Int32) (x3 : Int32) (x4 : Int32) (zr : (Nat → Int32) × Int32) (hf : f_X5_planMove v_from v_count x1 x2 x3 x4 = some zr) : Met l yX5_planMove wsX5_planMove { frames := 2, cells := 0, slots := 0, locals := 45 } (va_Pc [.ref (x 0), .int x1, .int x2, .int x3, .int x4] (Pr D cI cJ cZ cQ bs sz [oX5 x b h k r q v x_random, oX3 v v_count, aI cI (v 1) 12 v_from])) (QwV D zr (fun u => [oX5 x b h k r q v x_random, oX3 v u.2, aI cI (v 1) 12 u.1]) (va_A [oX5 x b h k r q v x_random, oX3 v v_count, aI cI (v 1) 12 v_from] sz)) 0 0 (va_A [oX5 x b h k r q v x_random, oX3 v v_count, aI cI (v 1) 12 v_from] sz) := by
  refine stW (cc := cX5_planMove) (maxL := 6) (ret := none) (Qf := fun A => (QwV D zr (fun u => [oX5 x b h k r q v x_random, oX3 v u.2, aI cI (v 1) 12 u.1]) A)) (by decide +kernel) rfl (Nat.le_of_ble_eq_true rfl) ?_
  intro p e s m args below meth c A C0 hr hlocks hname hsz hP hD hA hAb hE ls hl
  obtain ⟨hx, hb, hml, hown, hts⟩ := id C0
  have hown : s.vm.findClass RX5 = some m.cls := hown
  obtain ⟨hK, hNW, -, tw, hZ, hT⟩ := id hE
  have hl : lv_has ls 6 [(0, .ref (x 0)), (1, .int x1), (2, .int x2), (3, .int x3), (4, .int x4)] := hl
  have hS : va_S A s.heap s.heap [] := va_S.rf
  have hI_X5 := (show ∀ w ∈ wsX50, w ∈ wsX5_planMove by decide +kernel)
  have gf43 := hts (.fieldLink RX5 43 "RowRanks" "moves" "LRowRanks$Moves;") (by decide +kernel)
  have W10 : ∀ (n : Nat) (v1 : Int32) (v2 : Int32) (v3 : Int32) (v4 : Int32) (v5 : Int32) (v_from : Nat → Int32) (v_count : Int32) (H : Heap) (locs : List Loc) (ls : Array Slot) (z : (Nat → Int32) × Int32), va_P D vwCl [oX5 x b h k r q v x_random, oX3 v v_count, aI cI (v 1) 12 v_from] H → va_S A s.heap H locs → lv_has ls 6 [(0, .ref (x 0)), (1, .int v1), (2, .int v2), (3, .int v3), (4, .int v4), (5, .int v5)] → L_X5_planMove_10 v1 v2 v3 v4 n v5 v_from v_count = some z → (∀ (H : Heap) (locs : List Loc) (ls : Array Slot), va_P D vwCl [oX5 x b h k r q v x_random, oX3 v z.2, aI cI (v 1) 12 z.1] H → va_S A s.heap H locs → lv_has ls 6 [] → W p l e { frames := 2, cells := 0, slots := 0, locals := 45 } s m args below meth c H locs 0 0 (MQ below (QwV D zr (fun u => [oX5 x b h k r q v x_random, oX3 v u.2, aI cI (v 1) 12 u.1]) A) args s 0 0 A) (F0 m 38 ls [])) → W p l e { frames := 2, cells := 0, slots := 0, locals := 45 } s m args below meth c H locs 0 0 (MQ below (QwV D zr (fun u => [oX5 x b h k r q v x_random, oX3 v u.2, aI cI (v 1) 12 u.1]) A) args s 0 0 A) (F0 m 10 ls []) := by
    intro n
    induction n with
    | zero =>
      intro v1 v2 v3 v4 v5 v_from v_count H locs ls z hP hS hl hf
      exact absurd (show (none : Option ((Nat → Int32) × Int32)) = some z from hf) (fun h => by cases h)
    | succ n ih =>
      intro v1 v2 v3 v4 v5 v_from v_count H locs ls z hP hS hl hf K
      rw [L_X5_planMove_10] at hf
      refine lv_iload hx hb dX5_planMove_10 (lv_at hl 5 rfl) ?_
      refine lv_iload hx hb dX5_planMove_12 (lv_at hl 4 rfl) ?_
      refine lv_icmp_ge (tgt := 38) hx hb dX5_planMove_14 (by decide) (fun c2 => ?_) (fun c2 => ?_)
      · replace hf := oif c2 hf
        have hf := Option.some.inj hf
        subst hf
        exact K H locs ls hP hS (lv_sub hl [] rfl)
      · replace hf := oel c2 hf
        refine lv_aload_n hx hb dX5_planMove_17 rfl (lv_at hl 0 rfl) ?_
        refine va_get (D := D) (ci := 5) (v := .ref (v 0)) (C := RX5) (T := TX5) (N := 9) hx hb hts hI_X5 hown hK hP 0 rfl rfl 5 (by decide) gf43 (fun _ h9 => h9) rfl dX5_planMove_18 ?_
        refine lv_iload hx hb dX5_planMove_21 (lv_at hl 5 rfl) ?_
        refine lv_iload_n hx hb dX5_planMove_23 rfl (lv_at hl 1 rfl) ?_
        refine lv_iload_n hx hb dX5_planMove_24 rfl (lv_at hl 2 rfl) ?_
        refine lv_iload_n hx hb dX5_planMove_25 rfl (lv_at hl 3 rfl) ?_
        obtain ⟨z3, hz3, hf⟩ := obd hf
        refine kI (runS (As := [.int v5, .int v1, .int v2, .int v3]) (rest := [.ref (v 0)]) C0 hE hAb hP ((hD.weaken (fun _ _ _ h9 => hAb _ h9)).addr rfl) hS [] (wc := []) (by decide) rfl (c_X5_sourceOf l D cI cJ cZ cQ bs H.size v5 v1 v2 v3 z3 hz3) (va_cwS 4 hts gX5_planMove_X5_sourceOf rfl rfl rfl (by decide +kernel) ⟨Nat.le_of_ble_eq_true rfl, Nat.le_of_ble_eq_true rfl⟩) rfl hl.1 rfl (Nat.le_of_ble_eq_true rfl) dX5_planMove_26 ⟨Nat.le_of_ble_eq_true rfl, Nat.le_of_ble_eq_true rfl⟩) hS hP (fun H locs hP hS => ?_)
        obtain ⟨z4, hz4, hf⟩ := obd hf
        refine kwV (runV (As := [.int z3]) (rest := []) C0 hE hAb hP ((hD.weaken (fun _ _ _ h9 => hAb _ h9)).addr rfl) hS [1, 2] (wc := [oX3 v v_count, aI cI (v 1) 12 v_from]) (by decide) rfl 1 rfl rfl (c_X3_add l D cI cJ cZ cQ bs H.size v v_count v_from z3 z4 hz4) (cwV 1 hts gX5_planMove_X3_add rfl rfl rfl (by decide +kernel) ⟨Nat.le_of_ble_eq_true rfl, Nat.le_of_ble_eq_true rfl⟩) rfl hl.1 rfl (Nat.le_of_ble_eq_true rfl) dX5_planMove_29 ⟨Nat.le_of_ble_eq_true rfl, Nat.le_of_ble_eq_true rfl⟩) hS hP (hD.addr rfl) hA [1, 2] rfl rfl (ws' := [oX5 x b h k r q v x_random, oX3 v z4.2, aI cI (v 1) 12 z4.1]) rfl rfl (fun H locs hP hS => ?_)
        obtain ⟨y5, ey5⟩ : ∃ y : Int32, y = v5 + 1 := ⟨_, rfl⟩
        replace hf := onm ey5 hf
        refine lv_iinc (v := y5) (lv' := [(5, .int y5), (0, .ref (x 0)), (1, .int v1), (2, .int v2), (3, .int v3), (4, .int v4)]) hx hb dX5_planMove_32 hl (k := 5) rfl (by rw [ey5]; rfl) (by decide) rfl (fun ls hl => ?_)
        refine lv_goto (tgt := 10) hx hb dX5_planMove_35 (by decide) ?_
        exact ih v1 v2 v3 v4 y5 z4.1 z4.2 H locs ls z hP hS (lv_sub hl [1, 2, 3, 4, 5, 0] rfl) hf K
  unfold f_X5_planMove at hf
  have go : ∀ (H : Heap) (locs : List Loc), va_P D vwCl [oX5 x b h k r q v x_random, oX3 v v_count, aI cI (v 1) 12 v_from] H → va_S A s.heap H locs → W p l e { frames := 2, cells := 0, slots := 0, locals := 45 } s m args below meth c H locs 0 0 (MQ below (QwV D zr (fun u => [oX5 x b h k r q v x_random, oX3 v u.2, aI cI (v 1) 12 u.1]) A) args s 0 0 A) (F0 m 0 ls []) := by
    intro H locs hP hS
    refine lv_aload_n hx hb dX5_planMove_0 rfl (lv_at hl 0 rfl) ?_
    refine va_get (D := D) (ci := 5) (v := .ref (v 0)) (C := RX5) (T := TX5) (N := 9) hx hb hts hI_X5 hown hK hP 0 rfl rfl 5 (by decide) gf43 (fun _ h9 => h9) rfl dX5_planMove_1 ?_
    obtain ⟨z1, hz1, hf⟩ := obd hf
    refine kwV (runV (As := []) (rest := []) C0 hE hAb hP ((hD.weaken (fun _ _ _ h9 => hAb _ h9)).addr rfl) hS [1] (wc := [oX3 v v_count]) (by decide) rfl 1 rfl rfl (c_X3_clear l D cI cJ cZ cQ bs H.size v v_count z1 hz1) (cwV 0 hts gX5_planMove_X3_clear rfl rfl rfl (by decide +kernel) ⟨Nat.le_of_ble_eq_true rfl, Nat.le_of_ble_eq_true rfl⟩) rfl hl.1 rfl (Nat.le_of_ble_eq_true rfl) dX5_planMove_4 ⟨Nat.le_of_ble_eq_true rfl, Nat.le_of_ble_eq_true rfl⟩) hS hP (hD.addr rfl) hA [1] rfl rfl (ws' := [oX5 x b h k r q v x_random, oX3 v z1, aI cI (v 1) 12 v_from]) rfl rfl (fun H locs hP hS => ?_)
    refine lv_iconst (v := 0) hx hb dX5_planMove_7 (by decide) ?_
    refine lv_istore (lv' := [(5, .int 0), (0, .ref (x 0)), (1, .int x1), (2, .int x2), (3, .int x3), (4, .int x4)]) hx hb dX5_planMove_8 hl (by decide) rfl (fun ls hl => ?_)
    obtain ⟨z6, hz6, hf⟩ := obd hf
    refine W10 4000 x1 x2 x3 x4 0 v_from z1 H locs ls z6 hP hS (lv_sub hl [1, 2, 3, 4, 5, 0] rfl) hz6 (fun H locs ls hP hS hl => ?_)
    have er := Option.some.inj hf
    exact rwV (wm := (fun u => [oX5 x b h k r q v x_random, oX3 v u.2, aI cI (v 1) 12 u.1])) hx hb hr hS dX5_planMove_38 hP er hlocks
  exact go s.heap [] hP hS
noncomputable def f_X5_exchangeNow (b_sorts : Nat → Int32) (b_numbers : Nat → Int64) (b_sheetSet : Int32) (v_from : Nat → Int32) (v_oldSorts : Nat → Int32) (v_oldNumbers : Nat → Int64) (v_count : Int32) (x1 : Int32) (x2 : Int32) (x3 : Int32) : Option ((Nat → Int32) × (Nat → Int64) × (Nat → Int32) × (Nat → Int32) × (Nat → Int64) × Int32) := (f_X5_planMove v_from v_count x1 x2 0 x3).bind (fun z1 => (f_X3_applyTo b_sorts b_numbers b_sheetSet z1.1 v_oldSorts v_oldNumbers z1.2).bind (fun z2 => some ((z2.1, z2.2.1, z1.1, z2.2.2.1, z2.2.2.2, z1.2))))
set_option maxHeartbeats 4000000 in
set_option maxRecDepth 100000 in
theorem c_X5_exchangeNow (l : Launch) (D : va_G) (cI cJ cZ cQ : ClassId) (bs sz : Nat) (x : Nat → Nat) (b : Nat → Nat) (h : Nat → Nat) (k : Nat → Nat) (r : Nat → Nat) (q : Nat → Nat) (v : Nat → Nat) (x_random : Int32) (b_keyCount : Int32) (b_sheetSet : Int32) (b_handSort : Int32) (b_handNumber : Int64) (b_sorts : Nat → Int32) (b_numbers : Nat → Int64) (v_count : Int32) (v_from : Nat → Int32) (v_oldSorts : Nat → Int32) (v_oldNumbers : Nat → Int64) (x1 : Int32) (x2 : Int32) (x3 : Int32) (zr : (Nat → Int32) × (Nat → Int64) × (Nat → Int32) × (Nat → Int32) × (Nat → Int64) × Int32) (hf : f_X5_exchangeNow b_sorts b_numbers b_sheetSet v_from v_oldSorts v_oldNumbers v_count x1 x2 x3 = some zr) : Met l yX5_exchangeNow wsX5_exchangeNow { frames := 4, cells := 0, slots := 0, locals := 91 } (va_Pc [.ref (x 0), .int x1, .int x2, .int x3] (Pr D cI cJ cZ cQ bs sz [oX5 x b h k r q v x_random, oX0 b b_keyCount b_sheetSet b_handSort b_handNumber, aI cI (b 3) 72 b_sorts, aJ cJ (b 4) 72 b_numbers, oX3 v v_count, aI cI (v 1) 12 v_from, aI cI (v 2) 12 v_oldSorts, aJ cJ (v 3) 12 v_oldNumbers])) (QwV D zr (fun u => [oX5 x b h k r q v x_random, oX0 b b_keyCount b_sheetSet b_handSort b_handNumber, aI cI (b 3) 72 u.1, aJ cJ (b 4) 72 u.2.1, oX3 v u.2.2.2.2.2, aI cI (v 1) 12 u.2.2.1, aI cI (v 2) 12 u.2.2.2.1, aJ cJ (v 3) 12 u.2.2.2.2.1]) (va_A [oX5 x b h k r q v x_random, oX0 b b_keyCount b_sheetSet b_handSort b_handNumber, aI cI (b 3) 72 b_sorts, aJ cJ (b 4) 72 b_numbers, oX3 v v_count, aI cI (v 1) 12 v_from, aI cI (v 2) 12 v_oldSorts, aJ cJ (v 3) 12 v_oldNumbers] sz)) 0 0 (va_A [oX5 x b h k r q v x_random, oX0 b b_keyCount b_sheetSet b_handSort b_handNumber, aI cI (b 3) 72 b_sorts, aJ cJ (b 4) 72 b_numbers, oX3 v v_count, aI cI (v 1) 12 v_from, aI cI (v 2) 12 v_oldSorts, aJ cJ (v 3) 12 v_oldNumbers] sz) := by
  refine stW (cc := cX5_exchangeNow) (maxL := 4) (ret := none) (Qf := fun A => (QwV D zr (fun u => [oX5 x b h k r q v x_random, oX0 b b_keyCount b_sheetSet b_handSort b_handNumber, aI cI (b 3) 72 u.1, aJ cJ (b 4) 72 u.2.1, oX3 v u.2.2.2.2.2, aI cI (v 1) 12 u.2.2.1, aI cI (v 2) 12 u.2.2.2.1, aJ cJ (v 3) 12 u.2.2.2.2.1]) A)) (by decide +kernel) rfl (Nat.le_of_ble_eq_true rfl) ?_
  intro p e s m args below meth c A C0 hr hlocks hname hsz hP hD hA hAb hE ls hl
  obtain ⟨hx, hb, hml, hown, hts⟩ := id C0
  have hown : s.vm.findClass RX5 = some m.cls := hown
  obtain ⟨hK, hNW, -, tw, hZ, hT⟩ := id hE
  have hl : lv_has ls 4 [(0, .ref (x 0)), (1, .int x1), (2, .int x2), (3, .int x3)] := hl
  have hS : va_S A s.heap s.heap [] := va_S.rf
  have hI_X5 := (show ∀ w ∈ wsX50, w ∈ wsX5_exchangeNow by decide +kernel)
  have gf43 := hts (.fieldLink RX5 43 "RowRanks" "moves" "LRowRanks$Moves;") (by decide +kernel)
  have gf10 := hts (.fieldLink RX5 10 "RowRanks" "bench" "LRowRanks$Bench;") (by decide +kernel)
  unfold f_X5_exchangeNow at hf
  have go : ∀ (H : Heap) (locs : List Loc), va_P D vwCl [oX5 x b h k r q v x_random, oX0 b b_keyCount b_sheetSet b_handSort b_handNumber, aI cI (b 3) 72 b_sorts, aJ cJ (b 4) 72 b_numbers, oX3 v v_count, aI cI (v 1) 12 v_from, aI cI (v 2) 12 v_oldSorts, aJ cJ (v 3) 12 v_oldNumbers] H → va_S A s.heap H locs → W p l e { frames := 4, cells := 0, slots := 0, locals := 91 } s m args below meth c H locs 0 0 (MQ below (QwV D zr (fun u => [oX5 x b h k r q v x_random, oX0 b b_keyCount b_sheetSet b_handSort b_handNumber, aI cI (b 3) 72 u.1, aJ cJ (b 4) 72 u.2.1, oX3 v u.2.2.2.2.2, aI cI (v 1) 12 u.2.2.1, aI cI (v 2) 12 u.2.2.2.1, aJ cJ (v 3) 12 u.2.2.2.2.1]) A) args s 0 0 A) (F0 m 0 ls []) := by
    intro H locs hP hS
    refine lv_aload_n hx hb dX5_exchangeNow_0 rfl (lv_at hl 0 rfl) ?_
    refine lv_iload_n hx hb dX5_exchangeNow_1 rfl (lv_at hl 1 rfl) ?_
    refine lv_iload_n hx hb dX5_exchangeNow_2 rfl (lv_at hl 2 rfl) ?_
    refine lv_iconst (v := 0) hx hb dX5_exchangeNow_3 (by decide) ?_
    refine lv_iload_n hx hb dX5_exchangeNow_4 rfl (lv_at hl 3 rfl) ?_
    obtain ⟨z1, hz1, hf⟩ := obd hf
    refine kwV (runV (As := [.int x1, .int x2, .int 0, .int x3]) (rest := []) C0 hE hAb hP ((hD.weaken (fun _ _ _ h9 => hAb _ h9)).addr rfl) hS [0, 4, 5] (wc := [oX5 x b h k r q v x_random, oX3 v v_count, aI cI (v 1) 12 v_from]) (by decide) rfl 0 rfl rfl (c_X5_planMove l D cI cJ cZ cQ bs H.size x b h k r q v x_random v_count v_from x1 x2 0 x3 z1 hz1) (cwV 4 hts gX5_exchangeNow_X5_planMove rfl rfl rfl (by decide +kernel) ⟨Nat.le_of_ble_eq_true rfl, Nat.le_of_ble_eq_true rfl⟩) rfl hl.1 rfl (Nat.le_of_ble_eq_true rfl) dX5_exchangeNow_5 ⟨Nat.le_of_ble_eq_true rfl, Nat.le_of_ble_eq_true rfl⟩) hS hP (hD.addr rfl) hA [0, 4, 5] rfl rfl (ws' := [oX5 x b h k r q v x_random, oX0 b b_keyCount b_sheetSet b_handSort b_handNumber, aI cI (b 3) 72 b_sorts, aJ cJ (b 4) 72 b_numbers, oX3 v z1.2, aI cI (v 1) 12 z1.1, aI cI (v 2) 12 v_oldSorts, aJ cJ (v 3) 12 v_oldNumbers]) rfl rfl (fun H locs hP hS => ?_)
    refine lv_aload_n hx hb dX5_exchangeNow_8 rfl (lv_at hl 0 rfl) ?_
    refine va_get (D := D) (ci := 5) (v := .ref (v 0)) (C := RX5) (T := TX5) (N := 9) hx hb hts hI_X5 hown hK hP 0 rfl rfl 5 (by decide) gf43 (fun _ h9 => h9) rfl dX5_exchangeNow_9 ?_
    refine lv_aload_n hx hb dX5_exchangeNow_12 rfl (lv_at hl 0 rfl) ?_
    refine va_get (D := D) (ci := 5) (v := .ref (b 0)) (C := RX5) (T := TX5) (N := 9) hx hb hts hI_X5 hown hK hP 0 rfl rfl 0 (by decide) gf10 (fun _ h9 => h9) rfl dX5_exchangeNow_13 ?_
    obtain ⟨z2, hz2, hf⟩ := obd hf
    refine kwV (runV (As := [.ref (b 0)]) (rest := []) C0 hE hAb hP ((hD.weaken (fun _ _ _ h9 => hAb _ h9)).addr rfl) hS [1, 2, 3, 4, 5, 6, 7] (wc := [oX0 b b_keyCount b_sheetSet b_handSort b_handNumber, aI cI (b 3) 72 b_sorts, aJ cJ (b 4) 72 b_numbers, oX3 v z1.2, aI cI (v 1) 12 z1.1, aI cI (v 2) 12 v_oldSorts, aJ cJ (v 3) 12 v_oldNumbers]) (by decide) rfl 4 rfl rfl (c_X3_applyTo l D cI cJ cZ cQ bs H.size b v b_keyCount b_sheetSet b_handSort b_handNumber b_sorts b_numbers z1.2 z1.1 v_oldSorts v_oldNumbers z2 hz2) (cwV 1 hts gX5_exchangeNow_X3_applyTo rfl rfl rfl (by decide +kernel) ⟨Nat.le_of_ble_eq_true rfl, Nat.le_of_ble_eq_true rfl⟩) rfl hl.1 rfl (Nat.le_of_ble_eq_true rfl) dX5_exchangeNow_16 ⟨Nat.le_of_ble_eq_true rfl, Nat.le_of_ble_eq_true rfl⟩) hS hP (hD.addr rfl) hA [1, 2, 3, 4, 5, 6, 7] rfl rfl (ws' := [oX5 x b h k r q v x_random, oX0 b b_keyCount b_sheetSet b_handSort b_handNumber, aI cI (b 3) 72 z2.1, aJ cJ (b 4) 72 z2.2.1, oX3 v z1.2, aI cI (v 1) 12 z1.1, aI cI (v 2) 12 z2.2.2.1, aJ cJ (v 3) 12 z2.2.2.2]) rfl rfl (fun H locs hP hS => ?_)
    have er := Option.some.inj hf
    exact rwV (wm := (fun u => [oX5 x b h k r q v x_random, oX0 b b_keyCount b_sheetSet b_handSort b_handNumber, aI cI (b 3) 72 u.1, aJ cJ (b 4) 72 u.2.1, oX3 v u.2.2.2.2.2, aI cI (v 1) 12 u.2.2.1, aI cI (v 2) 12 u.2.2.2.1, aJ cJ (v 3) 12 u.2.2.2.2.1])) hx hb hr hS dX5_exchangeNow_19 hP er hlocks
  exact go s.heap [] hP hS
