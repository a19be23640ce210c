noncomputable def f_X5_isIn (x0 : Int32) (x1 : Int32) (x2 : Int32) : Option (Int32) := if x0 < x1 then (some (0)) else (if x2 < x0 then (some (0)) else (some (1)))
set_option maxHeartbeats 4000000 in
set_option maxRecDepth 100000 in
theorem c_X5_isIn (l : Launch) (D : va_G) (cI cJ cZ cQ : ClassId) (bs sz : Nat) (x0 : Int32) (x1 : Int32) (x2 : Int32) (zr : Int32) (hf : f_X5_isIn x0 x1 x2 = some zr) : Met l yX5_isIn wsX5_isIn { frames := 0, cells := 0, slots := 0, locals := 0 } (va_Pc [.int x0, .int x1, .int x2] (Pr D cI cJ cZ cQ bs sz [])) (QrZ zr) 0 0 no := by
  refine stM (cc := cX5_isIn) (maxL := 3) (ret := (some .boolean)) (by decide +kernel) rfl (Nat.le_of_ble_eq_true rfl) ?_
  intro p e s m args below meth c C0 hr hlocks hname hsz hP hDb hE ls hl
  have hAb : ∀ q, no q → bs ≤ q := fun _ h => h.elim
  obtain ⟨hx, hb, hml, hown, hts⟩ := id C0
  have hown : s.vm.findClass RX5 = some m.cls := hown
  obtain ⟨hK, hNW, -, tw, hZ, hT⟩ := id hE
  have hl : lv_has ls 3 [(0, .int x0), (1, .int x1), (2, .int x2)] := hl
  have hS : va_S no s.heap s.heap [] := va_S.rf
  unfold f_X5_isIn at hf
  have go : ∀ (H : Heap) (locs : List Loc), va_P D vwCl [] H → va_S no s.heap H locs → W p l e { frames := 0, cells := 0, slots := 0, locals := 0 } s m args below meth c H locs 0 0 (MQ below (QrZ zr) args s 0 0 no) (F0 m 0 ls []) := by
    intro H locs hP hS
    refine lv_iload_n hx hb dX5_isIn_0 rfl (lv_at hl 0 rfl) ?_
    refine lv_iload_n hx hb dX5_isIn_1 rfl (lv_at hl 1 rfl) ?_
    refine lv_icmp_lt (tgt := 14) hx hb dX5_isIn_2 (by decide) (fun c1 => ?_) (fun c1 => ?_)
    · replace hf := oif c1 hf
      refine lv_iconst (v := 0) hx hb dX5_isIn_14 (by decide) ?_
      have er := Option.some.inj hf
      exact rtZ hx hb hr hS dX5_isIn_15 er (by decide) hlocks
    · replace hf := oel c1 hf
      refine lv_iload_n hx hb dX5_isIn_5 rfl (lv_at hl 0 rfl) ?_
      refine lv_iload_n hx hb dX5_isIn_6 rfl (lv_at hl 2 rfl) ?_
      refine lv_icmp_gt (tgt := 14) hx hb dX5_isIn_7 (by decide) (fun c2 => ?_) (fun c2 => ?_)
      · replace hf := oif c2 hf
        refine lv_iconst (v := 0) hx hb dX5_isIn_14 (by decide) ?_
        have er := Option.some.inj hf
        exact rtZ hx hb hr hS dX5_isIn_15 er (by decide) hlocks
      · replace hf := oel c2 hf
        refine lv_iconst (v := 1) hx hb dX5_isIn_10 (by decide) ?_
        refine lv_goto (tgt := 15) hx hb dX5_isIn_11 (by decide) ?_
        have er := Option.some.inj hf
        exact rtZ hx hb hr hS dX5_isIn_15 er (by decide) hlocks
  exact go s.heap [] hP hS
noncomputable def f_X5_isSlot (x0 : Int32) : Option (Int32) := if x0 < 0 then (some (0)) else (if 6 ≤ x0 then (some (0)) else (some (1)))
set_option maxHeartbeats 4000000 in
set_option maxRecDepth 100000 in
theorem c_X5_isSlot (l : Launch) (D : va_G) (cI cJ cZ cQ : ClassId) (bs sz : Nat) (x0 : Int32) (zr : Int32) (hf : f_X5_isSlot x0 = some zr) : Met l yX5_isSlot wsX5_isSlot { frames := 0, cells := 0, slots := 0, locals := 0 } (va_Pc [.int x0] (Pr D cI cJ cZ cQ bs sz [])) (QrZ zr) 0 0 no := by
  refine stM (cc := cX5_isSlot) (maxL := 1) (ret := (some .boolean)) (by decide +kernel) rfl (Nat.le_of_ble_eq_true rfl) ?_
  intro p e s m args below meth c C0 hr hlocks hname hsz hP hDb hE ls hl
  have hAb : ∀ q, no q → bs ≤ q := fun _ h => h.elim
  obtain ⟨hx, hb, hml, hown, hts⟩ := id C0
  have hown : s.vm.findClass RX5 = some m.cls := hown
  obtain ⟨hK, hNW, -, tw, hZ, hT⟩ := id hE
  have hl : lv_has ls 1 [(0, .int x0)] := hl
  have hS : va_S no s.heap s.heap [] := va_S.rf
  unfold f_X5_isSlot at hf
  have go : ∀ (H : Heap) (locs : List Loc), va_P D vwCl [] H → va_S no s.heap H locs → W p l e { frames := 0, cells := 0, slots := 0, locals := 0 } s m args below meth c H locs 0 0 (MQ below (QrZ zr) args s 0 0 no) (F0 m 0 ls []) := by
    intro H locs hP hS
    refine lv_iload_n hx hb dX5_isSlot_0 rfl (lv_at hl 0 rfl) ?_
    refine lv_if_lt (tgt := 14) hx hb dX5_isSlot_1 (by decide) (fun c1 => ?_) (fun c1 => ?_)
    · replace hf := oif c1 hf
      refine lv_iconst (v := 0) hx hb dX5_isSlot_14 (by decide) ?_
      have er := Option.some.inj hf
      exact rtZ hx hb hr hS dX5_isSlot_15 er (by decide) hlocks
    · replace hf := oel c1 hf
      refine lv_iload_n hx hb dX5_isSlot_4 rfl (lv_at hl 0 rfl) ?_
      refine lv_bipush (v := 6) hx hb dX5_isSlot_5 (by decide) ?_
      refine lv_icmp_ge (tgt := 14) hx hb dX5_isSlot_7 (by decide) (fun c2 => ?_) (fun c2 => ?_)
      · replace hf := oif c2 hf
        refine lv_iconst (v := 0) hx hb dX5_isSlot_14 (by decide) ?_
        have er := Option.some.inj hf
        exact rtZ hx hb hr hS dX5_isSlot_15 er (by decide) hlocks
      · replace hf := oel c2 hf
        refine lv_iconst (v := 1) hx hb dX5_isSlot_10 (by decide) ?_
        refine lv_goto (tgt := 15) hx hb dX5_isSlot_11 (by decide) ?_
        have er := Option.some.inj hf
        exact rtZ hx hb hr hS dX5_isSlot_15 er (by decide) hlocks
  exact go s.heap [] hP hS
noncomputable def f_X0_kindOf (b_kinds : Nat → Int32) (x1 : Int32) : Option (Int32) := if x1 < 0 then (some (14)) else (if 6 ≤ x1 then (some (14)) else (if ib x1 6 = true then (some ((b_kinds x1.toNatClampNeg))) else none))
set_option maxHeartbeats 4000000 in
set_option maxRecDepth 100000 in
theorem c_X0_kindOf (l : Launch) (D : va_G) (cI cJ cZ cQ : ClassId) (bs sz : Nat) (b : Nat → Nat) (b_keyCount : Int32) (b_sheetSet : Int32) (b_handSort : Int32) (b_handNumber : Int64) (b_kinds : Nat → Int32) (x1 : Int32) (zr : Int32) (hf : f_X0_kindOf b_kinds x1 = some zr) : Met l yX0_kindOf wsX0_kindOf { frames := 0, cells := 0, slots := 0, locals := 0 } (va_Pc [.ref (b 0), .int x1] (Pr D cI cJ cZ cQ bs sz [oX0 b b_keyCount b_sheetSet b_handSort b_handNumber, aI cI (b 1) 6 b_kinds])) (QrI zr) 0 0 no := by
  refine stM (cc := cX0_kindOf) (maxL := 2) (ret := (some .int)) (by decide +kernel) rfl (Nat.le_of_ble_eq_true rfl) ?_
  intro p e s m args below meth c C0 hr hlocks hname hsz hP hDb hE ls hl
  have hAb : ∀ q, no q → bs ≤ q := fun _ h => h.elim
  obtain ⟨hx, hb, hml, hown, hts⟩ := id C0
  have hown : s.vm.findClass RX0 = some m.cls := hown
  obtain ⟨hK, hNW, -, tw, hZ, hT⟩ := id hE
  have hl : lv_has ls 2 [(0, .ref (b 0)), (1, .int x1)] := hl
  have hS : va_S no s.heap s.heap [] := va_S.rf
  have hI_X0 := (show ∀ w ∈ wsX00, w ∈ wsX0_kindOf by decide +kernel)
  have gf9 := hts (.fieldLink RX0 9 "RowRanks$Bench" "kinds" "[I") (by decide +kernel)
  unfold f_X0_kindOf at hf
  have go : ∀ (H : Heap) (locs : List Loc), va_P D vwCl [oX0 b b_keyCount b_sheetSet b_handSort b_handNumber, aI cI (b 1) 6 b_kinds] H → va_S no s.heap H locs → W p l e { frames := 0, cells := 0, slots := 0, locals := 0 } s m args below meth c H locs 0 0 (MQ below (QrI zr) args s 0 0 no) (F0 m 0 ls []) := by
    intro H locs hP hS
    refine lv_iload_n hx hb dX0_kindOf_0 rfl (lv_at hl 1 rfl) ?_
    refine lv_if_lt (tgt := 19) hx hb dX0_kindOf_1 (by decide) (fun c1 => ?_) (fun c1 => ?_)
    · replace hf := oif c1 hf
      refine lv_bipush (v := 14) hx hb dX0_kindOf_19 (by decide) ?_
      have er := Option.some.inj hf
      exact rtI hx hb hr hS dX0_kindOf_21 er hlocks
    · replace hf := oel c1 hf
      refine lv_iload_n hx hb dX0_kindOf_4 rfl (lv_at hl 1 rfl) ?_
      refine lv_bipush (v := 6) hx hb dX0_kindOf_5 (by decide) ?_
      refine lv_icmp_ge (tgt := 19) hx hb dX0_kindOf_7 (by decide) (fun c2 => ?_) (fun c2 => ?_)
      · replace hf := oif c2 hf
        refine lv_bipush (v := 14) hx hb dX0_kindOf_19 (by decide) ?_
        have er := Option.some.inj hf
        exact rtI hx hb hr hS dX0_kindOf_21 er hlocks
      · replace hf := oel c2 hf
        refine lv_aload_n hx hb dX0_kindOf_10 rfl (lv_at hl 0 rfl) ?_
        refine va_get (D := D) (ci := 0) (v := .ref (b 1)) (C := RX0) (T := TX0) (N := 12) hx hb hts hI_X0 hown hK hP 0 rfl rfl 0 (by decide) gf9 (fun _ h9 => h9) rfl dX0_kindOf_11 ?_
        refine lv_iload_n hx hb dX0_kindOf_14 rfl (lv_at hl 1 rfl) ?_
        obtain ⟨h3, hf⟩ := ogd hf
        refine va_iald hx hb hK hP 1 0 rfl rfl (ib_in h3) dX0_kindOf_15 ?_
        refine lv_goto (tgt := 21) hx hb dX0_kindOf_16 (by decide) ?_
        have er := Option.some.inj hf
        exact rtI hx hb hr hS dX0_kindOf_21 er hlocks
  exact go s.heap [] hP hS
noncomputable def f_X0_sizeOf (b_sizes : Nat → Int32) (x1 : Int32) : Option (Int32) := if x1 < 0 then (some (0)) else (if 6 ≤ x1 then (some (0)) else (if ib x1 6 = true then (some ((b_sizes x1.toNatClampNeg))) else none))
set_option maxHeartbeats 4000000 in
set_option maxRecDepth 100000 in
theorem c_X0_sizeOf (l : Launch) (D : va_G) (cI cJ cZ cQ : ClassId) (bs sz : Nat) (b : Nat → Nat) (b_keyCount : Int32) (b_sheetSet : Int32) (b_handSort : Int32) (b_handNumber : Int64) (b_sizes : Nat → Int32) (x1 : Int32) (zr : Int32) (hf : f_X0_sizeOf b_sizes x1 = some zr) : Met l yX0_sizeOf wsX0_sizeOf { frames := 0, cells := 0, slots := 0, locals := 0 } (va_Pc [.ref (b 0), .int x1] (Pr D cI cJ cZ cQ bs sz [oX0 b b_keyCount b_sheetSet b_handSort b_handNumber, aI cI (b 2) 6 b_sizes])) (QrI zr) 0 0 no := by
  refine stM (cc := cX0_sizeOf) (maxL := 2) (ret := (some .int)) (by decide +kernel) rfl (Nat.le_of_ble_eq_true rfl) ?_
  intro p e s m args below meth c C0 hr hlocks hname hsz hP hDb hE ls hl
  have hAb : ∀ q, no q → bs ≤ q := fun _ h => h.elim
  obtain ⟨hx, hb, hml, hown, hts⟩ := id C0
  have hown : s.vm.findClass RX0 = some m.cls := hown
  obtain ⟨hK, hNW, -, tw, hZ, hT⟩ := id hE
  have hl : lv_has ls 2 [(0, .ref (b 0)), (1, .int x1)] := hl
  have hS : va_S no s.heap s.heap [] := va_S.rf
  have hI_X0 := (show ∀ w ∈ wsX00, w ∈ wsX0_sizeOf by decide +kernel)
  have gf15 := hts (.fieldLink RX0 15 "RowRanks$Bench" "sizes" "[I") (by decide +kernel)
  unfold f_X0_sizeOf at hf
  have go : ∀ (H : Heap) (locs : List Loc), va_P D vwCl [oX0 b b_keyCount b_sheetSet b_handSort b_handNumber, aI cI (b 2) 6 b_sizes] H → va_S no s.heap H locs → W p l e { frames := 0, cells := 0, slots := 0, locals := 0 } s m args below meth c H locs 0 0 (MQ below (QrI zr) args s 0 0 no) (F0 m 0 ls []) := by
    intro H locs hP hS
    refine lv_iload_n hx hb dX0_sizeOf_0 rfl (lv_at hl 1 rfl) ?_
    refine lv_if_lt (tgt := 19) hx hb dX0_sizeOf_1 (by decide) (fun c1 => ?_) (fun c1 => ?_)
    · replace hf := oif c1 hf
      refine lv_iconst (v := 0) hx hb dX0_sizeOf_19 (by decide) ?_
      have er := Option.some.inj hf
      exact rtI hx hb hr hS dX0_sizeOf_20 er hlocks
    · replace hf := oel c1 hf
      refine lv_iload_n hx hb dX0_sizeOf_4 rfl (lv_at hl 1 rfl) ?_
      refine lv_bipush (v := 6) hx hb dX0_sizeOf_5 (by decide) ?_
      refine lv_icmp_ge (tgt := 19) hx hb dX0_sizeOf_7 (by decide) (fun c2 => ?_) (fun c2 => ?_)
      · replace hf := oif c2 hf
        refine lv_iconst (v := 0) hx hb dX0_sizeOf_19 (by decide) ?_
        have er := Option.some.inj hf
        exact rtI hx hb hr hS dX0_sizeOf_20 er hlocks
      · replace hf := oel c2 hf
        refine lv_aload_n hx hb dX0_sizeOf_10 rfl (lv_at hl 0 rfl) ?_
        refine va_get (D := D) (ci := 0) (v := .ref (b 2)) (C := RX0) (T := TX0) (N := 12) hx hb hts hI_X0 hown hK hP 0 rfl rfl 1 (by decide) gf15 (fun _ h9 => h9) rfl dX0_sizeOf_11 ?_
        refine lv_iload_n hx hb dX0_sizeOf_14 rfl (lv_at hl 1 rfl) ?_
        obtain ⟨h3, hf⟩ := ogd hf
        refine va_iald hx hb hK hP 1 0 rfl rfl (ib_in h3) dX0_sizeOf_15 ?_
        refine lv_goto (tgt := 20) hx hb dX0_sizeOf_16 (by decide) ?_
        have er := Option.some.inj hf
        exact rtI hx hb hr hS dX0_sizeOf_20 er hlocks
  exact go s.heap [] hP hS
noncomputable def f_X0_holdsArray (b_kinds : Nat → Int32) (x1 : Int32) : Option (Int32) := (f_X0_kindOf b_kinds x1).bind (fun z1 => if 11 < z1 then (some (0)) else (some (1)))
set_option maxHeartbeats 4000000 in
set_option maxRecDepth 100000 in
theorem c_X0_holdsArray (l : Launch) (D : va_G) (cI cJ cZ cQ : ClassId) (bs sz : Nat) (b : Nat → Nat) (b_keyCount : Int32) (b_sheetSet : Int32) (b_handSort : Int32) (b_handNumber : Int64) (b_kinds : Nat → Int32) (x1 : Int32) (zr : Int32) (hf : f_X0_holdsArray b_kinds x1 = some zr) : Met l yX0_holdsArray wsX0_holdsArray { frames := 1, cells := 0, slots := 0, locals := 21 } (va_Pc [.ref (b 0), .int x1] (Pr D cI cJ cZ cQ bs sz [oX0 b b_keyCount b_sheetSet b_handSort b_handNumber, aI cI (b 1) 6 b_kinds])) (QrZ zr) 0 0 no := by
  refine stM (cc := cX0_holdsArray) (maxL := 2) (ret := (some .boolean)) (by decide +kernel) rfl (Nat.le_of_ble_eq_true rfl) ?_
  intro p e s m args below meth c C0 hr hlocks hname hsz hP hDb hE ls hl
  have hAb : ∀ q, no q → bs ≤ q := fun _ h => h.elim
  obtain ⟨hx, hb, hml, hown, hts⟩ := id C0
  have hown : s.vm.findClass RX0 = some m.cls := hown
  obtain ⟨hK, hNW, -, tw, hZ, hT⟩ := id hE
  have hl : lv_has ls 2 [(0, .ref (b 0)), (1, .int x1)] := hl
  have hS : va_S no s.heap s.heap [] := va_S.rf
  unfold f_X0_holdsArray at hf
  have go : ∀ (H : Heap) (locs : List Loc), va_P D vwCl [oX0 b b_keyCount b_sheetSet b_handSort b_handNumber, aI cI (b 1) 6 b_kinds] H → va_S no s.heap H locs → W p l e { frames := 1, cells := 0, slots := 0, locals := 21 } s m args below meth c H locs 0 0 (MQ below (QrZ zr) args s 0 0 no) (F0 m 0 ls []) := by
    intro H locs hP hS
    refine lv_aload_n hx hb dX0_holdsArray_0 rfl (lv_at hl 0 rfl) ?_
    refine lv_iload_n hx hb dX0_holdsArray_1 rfl (lv_at hl 1 rfl) ?_
    obtain ⟨z1, hz1, hf⟩ := obd hf
    refine kI (runV (As := [.int x1]) (rest := []) C0 hE hAb hP (hDb.addr rfl) hS [0, 1] (wc := [oX0 b b_keyCount b_sheetSet b_handSort b_handNumber, aI cI (b 1) 6 b_kinds]) (by decide) rfl 0 rfl rfl (c_X0_kindOf l D cI cJ cZ cQ bs H.size b b_keyCount b_sheetSet b_handSort b_handNumber b_kinds x1 z1 hz1) (cwV 1 hts gX0_holdsArray_X0_kindOf rfl rfl rfl (by decide +kernel) ⟨Nat.le_of_ble_eq_true rfl, Nat.le_of_ble_eq_true rfl⟩) rfl hl.1 rfl (Nat.le_of_ble_eq_true rfl) dX0_holdsArray_2 ⟨Nat.le_of_ble_eq_true rfl, Nat.le_of_ble_eq_true rfl⟩) hS hP (fun H locs hP hS => ?_)
    refine lv_bipush (v := 11) hx hb dX0_holdsArray_5 (by decide) ?_
    refine lv_icmp_gt (tgt := 14) hx hb dX0_holdsArray_7 (by decide) (fun c2 => ?_) (fun c2 => ?_)
    · replace hf := oif c2 hf
      refine lv_iconst (v := 0) hx hb dX0_holdsArray_14 (by decide) ?_
      have er := Option.some.inj hf
      exact rtZ hx hb hr hS dX0_holdsArray_15 er (by decide) hlocks
    · replace hf := oel c2 hf
      refine lv_iconst (v := 1) hx hb dX0_holdsArray_10 (by decide) ?_
      refine lv_goto (tgt := 15) hx hb dX0_holdsArray_11 (by decide) ?_
      have er := Option.some.inj hf
      exact rtZ hx hb hr hS dX0_holdsArray_15 er (by decide) hlocks
  exact go s.heap [] hP hS
noncomputable def f_X0_whyNotReach (b_kinds : Nat → Int32) (b_sizes : Nat → Int32) (x1 : Int32) (x2 : Int32) : Option (Int32) := (f_X0_kindOf b_kinds x1).bind (fun z1 => if z1 = 14 then (some (1)) else ((f_X0_holdsArray b_kinds x1).bind (fun z3 => if z3 = 0 then (some (2)) else ((f_X0_sizeOf b_sizes x1).bind (fun z5 => (f_X5_isIn x2 0 (z5 - 1)).bind (fun z6 => if z6 = 0 then (some (3)) else (some (0))))))))
set_option maxHeartbeats 4000000 in
set_option maxRecDepth 100000 in
theorem c_X0_whyNotReach (l : Launch) (D : va_G) (cI cJ cZ cQ : ClassId) (bs sz : Nat) (b : Nat → Nat) (b_keyCount : Int32) (b_sheetSet : Int32) (b_handSort : Int32) (b_handNumber : Int64) (b_kinds : Nat → Int32) (b_sizes : Nat → Int32) (x1 : Int32) (x2 : Int32) (zr : Int32) (hf : f_X0_whyNotReach b_kinds b_sizes x1 x2 = some zr) : Met l yX0_whyNotReach wsX0_whyNotReach { frames := 2, cells := 0, slots := 0, locals := 42 } (va_Pc [.ref (b 0), .int x1, .int x2] (Pr D cI cJ cZ cQ bs sz [oX0 b b_keyCount b_sheetSet b_handSort b_handNumber, aI cI (b 1) 6 b_kinds, aI cI (b 2) 6 b_sizes])) (QrI zr) 0 0 no := by
  refine stM (cc := cX0_whyNotReach) (maxL := 3) (ret := (some .int)) (by decide +kernel) rfl (Nat.le_of_ble_eq_true rfl) ?_
  intro p e s m args below meth c C0 hr hlocks hname hsz hP hDb hE ls hl
  have hAb : ∀ q, no q → bs ≤ q := fun _ h => h.elim
  obtain ⟨hx, hb, hml, hown, hts⟩ := id C0
  have hown : s.vm.findClass RX0 = some m.cls := hown
  obtain ⟨hK, hNW, -, tw, hZ, hT⟩ := id hE
  have hl : lv_has ls 3 [(0, .ref (b 0)), (1, .int x1), (2, .int x2)] := hl
  have hS : va_S no s.heap s.heap [] := va_S.rf
  have gn79 := hNW (.methodLinkNest RX0 79 yX5_isIn RX5) (by decide +kernel)
  have giRX5 := hts (.initialized RX5) (by decide +kernel)
  have gsX5_isIn := hts (.static yX5_isIn) (by decide +kernel)
  unfold f_X0_whyNotReach at hf
  have go : ∀ (H : Heap) (locs : List Loc), va_P D vwCl [oX0 b b_keyCount b_sheetSet b_handSort b_handNumber, aI cI (b 1) 6 b_kinds, aI cI (b 2) 6 b_sizes] H → va_S no s.heap H locs → W p l e { frames := 2, cells := 0, slots := 0, locals := 42 } s m args below meth c H locs 0 0 (MQ below (QrI zr) args s 0 0 no) (F0 m 0 ls []) := by
    intro H locs hP hS
    refine lv_aload_n hx hb dX0_whyNotReach_0 rfl (lv_at hl 0 rfl) ?_
    refine lv_iload_n hx hb dX0_whyNotReach_1 rfl (lv_at hl 1 rfl) ?_
    obtain ⟨z1, hz1, hf⟩ := obd hf
    refine kI (runV (As := [.int x1]) (rest := []) C0 hE hAb hP (hDb.addr rfl) hS [0, 1] (wc := [oX0 b b_keyCount b_sheetSet b_handSort b_handNumber, aI cI (b 1) 6 b_kinds]) (by decide) rfl 0 rfl rfl (c_X0_kindOf l D cI cJ cZ cQ bs H.size b b_keyCount b_sheetSet b_handSort b_handNumber b_kinds x1 z1 hz1) (cwV 1 hts gX0_whyNotReach_X0_kindOf rfl rfl rfl (by decide +kernel) ⟨Nat.le_of_ble_eq_true rfl, Nat.le_of_ble_eq_true rfl⟩) rfl hl.1 rfl (Nat.le_of_ble_eq_true rfl) dX0_whyNotReach_2 ⟨Nat.le_of_ble_eq_true rfl, Nat.le_of_ble_eq_true rfl⟩) hS hP (fun H locs hP hS => ?_)
    refine lv_bipush (v := 14) hx hb dX0_whyNotReach_5 (by decide) ?_
    refine lv_icmp_ne (tgt := 12) hx hb dX0_whyNotReach_7 (by decide) (fun c2 => ?_) (fun c2 => ?_)
    · replace hf := oel c2 hf
      refine lv_aload_n hx hb dX0_whyNotReach_12 rfl (lv_at hl 0 rfl) ?_
      refine lv_iload_n hx hb dX0_whyNotReach_13 rfl (lv_at hl 1 rfl) ?_
      obtain ⟨z3, hz3, hf⟩ := obd hf
      refine kZ (runV (As := [.int x1]) (rest := []) C0 hE hAb hP (hDb.addr rfl) hS [0, 1] (wc := [oX0 b b_keyCount b_sheetSet b_handSort b_handNumber, aI cI (b 1) 6 b_kinds]) (by decide) rfl 0 rfl rfl (c_X0_holdsArray l D cI cJ cZ cQ bs H.size b b_keyCount b_sheetSet b_handSort b_handNumber b_kinds x1 z3 hz3) (cwV 1 hts gX0_whyNotReach_X0_holdsArray rfl rfl rfl (by decide +kernel) ⟨Nat.le_of_ble_eq_true rfl, Nat.le_of_ble_eq_true rfl⟩) rfl hl.1 rfl (Nat.le_of_ble_eq_true rfl) dX0_whyNotReach_14 ⟨Nat.le_of_ble_eq_true rfl, Nat.le_of_ble_eq_true rfl⟩) hS hP (fun bz3 H locs hP hS => ?_)
      refine lv_if_ne (tgt := 22) hx hb dX0_whyNotReach_17 (by decide) (fun c4 => ?_) (fun c4 => ?_)
      · replace hf := oel c4 hf
        refine lv_iload_n hx hb dX0_whyNotReach_22 rfl (lv_at hl 2 rfl) ?_
        refine lv_iconst (v := 0) hx hb dX0_whyNotReach_23 (by decide) ?_
        refine lv_aload_n hx hb dX0_whyNotReach_24 rfl (lv_at hl 0 rfl) ?_
        refine lv_iload_n hx hb dX0_whyNotReach_25 rfl (lv_at hl 1 rfl) ?_
        obtain ⟨z5, hz5, hf⟩ := obd hf
        refine kI (runV (As := [.int x1]) (rest := [.int 0, .int x2]) C0 hE hAb hP (hDb.addr rfl) hS [0, 2] (wc := [oX0 b b_keyCount b_sheetSet b_handSort b_handNumber, aI cI (b 2) 6 b_sizes]) (by decide) rfl 0 rfl rfl (c_X0_sizeOf l D cI cJ cZ cQ bs H.size b b_keyCount b_sheetSet b_handSort b_handNumber b_sizes x1 z5 hz5) (cwV 1 hts gX0_whyNotReach_X0_sizeOf rfl rfl rfl (by decide +kernel) ⟨Nat.le_of_ble_eq_true rfl, Nat.le_of_ble_eq_true rfl⟩) rfl hl.1 rfl (Nat.le_of_ble_eq_true rfl) dX0_whyNotReach_26 ⟨Nat.le_of_ble_eq_true rfl, Nat.le_of_ble_eq_true rfl⟩) hS hP (fun H locs hP hS => ?_)
        refine lv_iconst (v := 1) hx hb dX0_whyNotReach_29 (by decide) ?_
        refine lv_isub hx hb dX0_whyNotReach_30 ?_
        obtain ⟨z6, hz6, hf⟩ := obd hf
        refine kZ (runSN (As := [.int x2, .int 0, .int (z5 - 1)]) (rest := []) C0 hE hAb hP (hDb.addr rfl) hS [] (wc := []) (by decide) rfl (c_X5_isIn l D cI cJ cZ cQ bs H.size x2 0 (z5 - 1) z6 hz6) (va_cnB 3 hts ggX0_whyNotReach_X5_isIn rfl rfl rfl gn79 giRX5 (by decide +kernel) ⟨Nat.le_of_ble_eq_true rfl, Nat.le_of_ble_eq_true rfl⟩) gsX5_isIn rfl hl.1 rfl (Nat.le_of_ble_eq_true rfl) dX0_whyNotReach_31 ⟨Nat.le_of_ble_eq_true rfl, Nat.le_of_ble_eq_true rfl⟩) hS hP (fun bz6 H locs hP hS => ?_)
        refine lv_if_eq (tgt := 41) hx hb dX0_whyNotReach_34 (by decide) (fun c7 => ?_) (fun c7 => ?_)
        · replace hf := oif c7 hf
          refine lv_iconst (v := 3) hx hb dX0_whyNotReach_41 (by decide) ?_
          have er := Option.some.inj hf
          exact rtI hx hb hr hS dX0_whyNotReach_42 er hlocks
        · replace hf := oel c7 hf
          refine lv_iconst (v := 0) hx hb dX0_whyNotReach_37 (by decide) ?_
          refine lv_goto (tgt := 42) hx hb dX0_whyNotReach_38 (by decide) ?_
          have er := Option.some.inj hf
          exact rtI hx hb hr hS dX0_whyNotReach_42 er hlocks
      · replace hf := oif c4 hf
        refine lv_iconst (v := 2) hx hb dX0_whyNotReach_20 (by decide) ?_
        have er := Option.some.inj hf
        exact rtI hx hb hr hS dX0_whyNotReach_21 er hlocks
    · replace hf := oif c2 hf
      refine lv_iconst (v := 1) hx hb dX0_whyNotReach_10 (by decide) ?_
      have er := Option.some.inj hf
      exact rtI hx hb hr hS dX0_whyNotReach_11 er hlocks
  exact go s.heap [] hP hS
noncomputable def f_X0_isCell (x0 : Int32) (x1 : Int32) : Option (Int32) := if x0 < 0 then (some (0)) else (if 6 ≤ x0 then (some (0)) else (if x1 < 0 then (some (0)) else (if 12 ≤ x1 then (some (0)) else (some (1)))))
set_option maxHeartbeats 4000000 in
set_option maxRecDepth 100000 in
theorem c_X0_isCell (l : Launch) (D : va_G) (cI cJ cZ cQ : ClassId) (bs sz : Nat) (x0 : Int32) (x1 : Int32) (zr : Int32) (hf : f_X0_isCell x0 x1 = some zr) : Met l yX0_isCell wsX0_isCell { frames := 0, cells := 0, slots := 0, locals := 0 } (va_Pc [.int x0, .int x1] (Pr D cI cJ cZ cQ bs sz [])) (QrZ zr) 0 0 no := by
  refine stM (cc := cX0_isCell) (maxL := 2) (ret := (some .boolean)) (by decide +kernel) rfl (Nat.le_of_ble_eq_true rfl) ?_
  intro p e s m args below meth c C0 hr hlocks hname hsz hP hDb hE ls hl
  have hAb : ∀ q, no q → bs ≤ q := fun _ h => h.elim
  obtain ⟨hx, hb, hml, hown, hts⟩ := id C0
  have hown : s.vm.findClass RX0 = some m.cls := hown
  obtain ⟨hK, hNW, -, tw, hZ, hT⟩ := id hE
  have hl : lv_has ls 2 [(0, .int x0), (1, .int x1)] := hl
  have hS : va_S no s.heap s.heap [] := va_S.rf
  unfold f_X0_isCell at hf
  have go : ∀ (H : Heap) (locs : List Loc), va_P D vwCl [] H → va_S no s.heap H locs → W p l e { frames := 0, cells := 0, slots := 0, locals := 0 } s m args below meth c H locs 0 0 (MQ below (QrZ zr) args s 0 0 no) (F0 m 0 ls []) := by
    intro H locs hP hS
    refine lv_iload_n hx hb dX0_isCell_0 rfl (lv_at hl 0 rfl) ?_
    refine lv_if_lt (tgt := 24) hx hb dX0_isCell_1 (by decide) (fun c1 => ?_) (fun c1 => ?_)
    · replace hf := oif c1 hf
      refine lv_iconst (v := 0) hx hb dX0_isCell_24 (by decide) ?_
      have er := Option.some.inj hf
      exact rtZ hx hb hr hS dX0_isCell_25 er (by decide) hlocks
    · replace hf := oel c1 hf
      refine lv_iload_n hx hb dX0_isCell_4 rfl (lv_at hl 0 rfl) ?_
      refine lv_bipush (v := 6) hx hb dX0_isCell_5 (by decide) ?_
      refine lv_icmp_ge (tgt := 24) hx hb dX0_isCell_7 (by decide) (fun c2 => ?_) (fun c2 => ?_)
      · replace hf := oif c2 hf
        refine lv_iconst (v := 0) hx hb dX0_isCell_24 (by decide) ?_
        have er := Option.some.inj hf
        exact rtZ hx hb hr hS dX0_isCell_25 er (by decide) hlocks
      · replace hf := oel c2 hf
        refine lv_iload_n hx hb dX0_isCell_10 rfl (lv_at hl 1 rfl) ?_
        refine lv_if_lt (tgt := 24) hx hb dX0_isCell_11 (by decide) (fun c3 => ?_) (fun c3 => ?_)
        · replace hf := oif c3 hf
          refine lv_iconst (v := 0) hx hb dX0_isCell_24 (by decide) ?_
          have er := Option.some.inj hf
          exact rtZ hx hb hr hS dX0_isCell_25 er (by decide) hlocks
        · replace hf := oel c3 hf
          refine lv_iload_n hx hb dX0_isCell_14 rfl (lv_at hl 1 rfl) ?_
          refine lv_bipush (v := 12) hx hb dX0_isCell_15 (by decide) ?_
          refine lv_icmp_ge (tgt := 24) hx hb dX0_isCell_17 (by decide) (fun c4 => ?_) (fun c4 => ?_)
          · replace hf := oif c4 hf
            refine lv_iconst (v := 0) hx hb dX0_isCell_24 (by decide) ?_
            have er := Option.some.inj hf
            exact rtZ hx hb hr hS dX0_isCell_25 er (by decide) hlocks
          · replace hf := oel c4 hf
            refine lv_iconst (v := 1) hx hb dX0_isCell_20 (by decide) ?_
            refine lv_goto (tgt := 25) hx hb dX0_isCell_21 (by decide) ?_
            have er := Option.some.inj hf
            exact rtZ hx hb hr hS dX0_isCell_25 er (by decide) hlocks
  exact go s.heap [] hP hS
noncomputable def f_X0_sortAt (b_sorts : Nat → Int32) (x1 : Int32) (x2 : Int32) : Option (Int32) := (f_X0_isCell x1 x2).bind (fun z1 => if z1 = 0 then (some (9)) else (if ib ((x1 * 12) + x2) 72 = true then (some ((b_sorts ((x1 * 12) + x2).toNatClampNeg))) else none))
set_option maxHeartbeats 4000000 in
set_option maxRecDepth 100000 in
theorem c_X0_sortAt (l : Launch) (D : va_G) (cI cJ cZ cQ : ClassId) (bs sz : Nat) (b : Nat → Nat) (b_keyCount : Int32) (b_sheetSet : Int32) (b_handSort : Int32) (b_handNumber : Int64) (b_sorts : Nat → Int32) (x1 : Int32) (x2 : Int32) (zr : Int32) (hf : f_X0_sortAt b_sorts x1 x2 = some zr) : Met l yX0_sortAt wsX0_sortAt { frames := 1, cells := 0, slots := 0, locals := 21 } (va_Pc [.ref (b 0), .int x1, .int x2] (Pr D cI cJ cZ cQ bs sz [oX0 b b_keyCount b_sheetSet b_handSort b_handNumber, aI cI (b 3) 72 b_sorts])) (QrI zr) 0 0 no := by
  refine stM (cc := cX0_sortAt) (maxL := 3) (ret := (some .int)) (by decide +kernel) rfl (Nat.le_of_ble_eq_true rfl) ?_
  intro p e s m args below meth c C0 hr hlocks hname hsz hP hDb hE ls hl
  have hAb : ∀ q, no q → bs ≤ q := fun _ h => h.elim
  obtain ⟨hx, hb, hml, hown, hts⟩ := id C0
  have hown : s.vm.findClass RX0 = some m.cls := hown
  obtain ⟨hK, hNW, -, tw, hZ, hT⟩ := id hE
  have hl : lv_has ls 3 [(0, .ref (b 0)), (1, .int x1), (2, .int x2)] := hl
  have hS : va_S no s.heap s.heap [] := va_S.rf
  have hI_X0 := (show ∀ w ∈ wsX00, w ∈ wsX0_sortAt by decide +kernel)
  have gf18 := hts (.fieldLink RX0 18 "RowRanks$Bench" "sorts" "[I") (by decide +kernel)
  unfold f_X0_sortAt at hf
  have go : ∀ (H : Heap) (locs : List Loc), va_P D vwCl [oX0 b b_keyCount b_sheetSet b_handSort b_handNumber, aI cI (b 3) 72 b_sorts] H → va_S no s.heap H locs → W p l e { frames := 1, cells := 0, slots := 0, locals := 21 } s m args below meth c H locs 0 0 (MQ below (QrI zr) args s 0 0 no) (F0 m 0 ls []) := by
    intro H locs hP hS
    refine lv_iload_n hx hb dX0_sortAt_0 rfl (lv_at hl 1 rfl) ?_
    refine lv_iload_n hx hb dX0_sortAt_1 rfl (lv_at hl 2 rfl) ?_
    obtain ⟨z1, hz1, hf⟩ := obd hf
    refine kZ (runS (As := [.int x1, .int x2]) (rest := []) C0 hE hAb hP (hDb.addr rfl) hS [] (wc := []) (by decide) rfl (c_X0_isCell l D cI cJ cZ cQ bs H.size x1 x2 z1 hz1) (va_cwS 2 hts gX0_sortAt_X0_isCell rfl rfl rfl (by decide +kernel) ⟨Nat.le_of_ble_eq_true rfl, Nat.le_of_ble_eq_true rfl⟩) rfl hl.1 rfl (Nat.le_of_ble_eq_true rfl) dX0_sortAt_2 ⟨Nat.le_of_ble_eq_true rfl, Nat.le_of_ble_eq_true rfl⟩) hS hP (fun bz1 H locs hP hS => ?_)
    refine lv_if_eq (tgt := 22) hx hb dX0_sortAt_5 (by decide) (fun c2 => ?_) (fun c2 => ?_)
    · replace hf := oif c2 hf
      refine lv_bipush (v := 9) hx hb dX0_sortAt_22 (by decide) ?_
      have er := Option.some.inj hf
      exact rtI hx hb hr hS dX0_sortAt_24 er hlocks
    · replace hf := oel c2 hf
      refine lv_aload_n hx hb dX0_sortAt_8 rfl (lv_at hl 0 rfl) ?_
      refine va_get (D := D) (ci := 0) (v := .ref (b 3)) (C := RX0) (T := TX0) (N := 12) hx hb hts hI_X0 hown hK hP 0 rfl rfl 2 (by decide) gf18 (fun _ h9 => h9) rfl dX0_sortAt_9 ?_
      refine lv_iload_n hx hb dX0_sortAt_12 rfl (lv_at hl 1 rfl) ?_
      refine lv_bipush (v := 12) hx hb dX0_sortAt_13 (by decide) ?_
      refine lv_imul hx hb dX0_sortAt_15 ?_
      refine lv_iload_n hx hb dX0_sortAt_16 rfl (lv_at hl 2 rfl) ?_
      refine lv_iadd hx hb dX0_sortAt_17 ?_
      obtain ⟨h3, hf⟩ := ogd hf
      refine va_iald hx hb hK hP 1 0 rfl rfl (ib_in h3) dX0_sortAt_18 ?_
      refine lv_goto (tgt := 24) hx hb dX0_sortAt_19 (by decide) ?_
      have er := Option.some.inj hf
      exact rtI hx hb hr hS dX0_sortAt_24 er hlocks
  exact go s.heap [] hP hS
noncomputable def f_X0_numberAt (b_numbers : Nat → Int64) (x1 : Int32) (x2 : Int32) : Option (Int64) := (f_X0_isCell x1 x2).bind (fun z1 => if z1 = 0 then (some (0)) else (if ib ((x1 * 12) + x2) 72 = true then (some ((b_numbers ((x1 * 12) + x2).toNatClampNeg))) else none))
set_option maxHeartbeats 4000000 in
set_option maxRecDepth 100000 in
theorem c_X0_numberAt (l : Launch) (D : va_G) (cI cJ cZ cQ : ClassId) (bs sz : Nat) (b : Nat → Nat) (b_keyCount : Int32) (b_sheetSet : Int32) (b_handSort : Int32) (b_handNumber : Int64) (b_numbers : Nat → Int64) (x1 : Int32) (x2 : Int32) (zr : Int64) (hf : f_X0_numberAt b_numbers x1 x2 = some zr) : Met l yX0_numberAt wsX0_numberAt { frames := 1, cells := 0, slots := 0, locals := 21 } (va_Pc [.ref (b 0), .int x1, .int x2] (Pr D cI cJ cZ cQ bs sz [oX0 b b_keyCount b_sheetSet b_handSort b_handNumber, aJ cJ (b 4) 72 b_numbers])) (QrJ zr) 0 0 no := by
  refine stM (cc := cX0_numberAt) (maxL := 3) (ret := (some .long)) (by decide +kernel) rfl (Nat.le_of_ble_eq_true rfl) ?_
  intro p e s m args below meth c C0 hr hlocks hname hsz hP hDb hE ls hl
  have hAb : ∀ q, no q → bs ≤ q := fun _ h => h.elim
  obtain ⟨hx, hb, hml, hown, hts⟩ := id C0
  have hown : s.vm.findClass RX0 = some m.cls := hown
  obtain ⟨hK, hNW, -, tw, hZ, hT⟩ := id hE
  have hl : lv_has ls 3 [(0, .ref (b 0)), (1, .int x1), (2, .int x2)] := hl
  have hS : va_S no s.heap s.heap [] := va_S.rf
  have hI_X0 := (show ∀ w ∈ wsX00, w ∈ wsX0_numberAt by decide +kernel)
  have gf21 := hts (.fieldLink RX0 21 "RowRanks$Bench" "numbers" "[J") (by decide +kernel)
  unfold f_X0_numberAt at hf
  have go : ∀ (H : Heap) (locs : List Loc), va_P D vwCl [oX0 b b_keyCount b_sheetSet b_handSort b_handNumber, aJ cJ (b 4) 72 b_numbers] H → va_S no s.heap H locs → W p l e { frames := 1, cells := 0, slots := 0, locals := 21 } s m args below meth c H locs 0 0 (MQ below (QrJ zr) args s 0 0 no) (F0 m 0 ls []) := by
    intro H locs hP hS
    refine lv_iload_n hx hb dX0_numberAt_0 rfl (lv_at hl 1 rfl) ?_
    refine lv_iload_n hx hb dX0_numberAt_1 rfl (lv_at hl 2 rfl) ?_
    obtain ⟨z1, hz1, hf⟩ := obd hf
    refine kZ (runS (As := [.int x1, .int x2]) (rest := []) C0 hE hAb hP (hDb.addr rfl) hS [] (wc := []) (by decide) rfl (c_X0_isCell l D cI cJ cZ cQ bs H.size x1 x2 z1 hz1) (va_cwS 2 hts gX0_numberAt_X0_isCell rfl rfl rfl (by decide +kernel) ⟨Nat.le_of_ble_eq_true rfl, Nat.le_of_ble_eq_true rfl⟩) rfl hl.1 rfl (Nat.le_of_ble_eq_true rfl) dX0_numberAt_2 ⟨Nat.le_of_ble_eq_true rfl, Nat.le_of_ble_eq_true rfl⟩) hS hP (fun bz1 H locs hP hS => ?_)
    refine lv_if_eq (tgt := 22) hx hb dX0_numberAt_5 (by decide) (fun c2 => ?_) (fun c2 => ?_)
    · replace hf := oif c2 hf
      refine lv_lconst (v := 0) hx hb dX0_numberAt_22 (by decide) ?_
      have er := Option.some.inj hf
      exact rtJ hx hb hr hS dX0_numberAt_23 er hlocks
    · replace hf := oel c2 hf
      refine lv_aload_n hx hb dX0_numberAt_8 rfl (lv_at hl 0 rfl) ?_
      refine va_get (D := D) (ci := 0) (v := .ref (b 4)) (C := RX0) (T := TX0) (N := 12) hx hb hts hI_X0 hown hK hP 0 rfl rfl 3 (by decide) gf21 (fun _ h9 => h9) rfl dX0_numberAt_9 ?_
      refine lv_iload_n hx hb dX0_numberAt_12 rfl (lv_at hl 1 rfl) ?_
      refine lv_bipush (v := 12) hx hb dX0_numberAt_13 (by decide) ?_
      refine lv_imul hx hb dX0_numberAt_15 ?_
      refine lv_iload_n hx hb dX0_numberAt_16 rfl (lv_at hl 2 rfl) ?_
      refine lv_iadd hx hb dX0_numberAt_17 ?_
      obtain ⟨h3, hf⟩ := ogd hf
      refine va_lald hx hb hK hP 1 1 rfl rfl (ib_in h3) dX0_numberAt_18 ?_
      refine lv_goto (tgt := 23) hx hb dX0_numberAt_19 (by decide) ?_
      have er := Option.some.inj hf
      exact rtJ hx hb hr hS dX0_numberAt_23 er hlocks
  exact go s.heap [] hP hS
noncomputable def f_X0_setCell (b_sorts : Nat → Int32) (b_numbers : Nat → Int64) (x1 : Int32) (x2 : Int32) (x3 : Int32) (x4 : Int64) : Option ((Nat → Int32) × (Nat → Int64)) := (f_X0_isCell x1 x2).bind (fun z1 => if z1 = 0 then (some ((b_sorts, b_numbers))) else (if ib ((x1 * 12) + x2) 72 = true then ((some (upd b_sorts ((x1 * 12) + x2).toNatClampNeg x3 : Nat → Int32)).bind (fun h3a => if ib ((x1 * 12) + x2) 72 = true then ((some (vp_updL b_numbers ((x1 * 12) + x2).toNatClampNeg x4 : Nat → Int64)).bind (fun h4a => some ((h3a, h4a)))) else none)) else none))
set_option maxHeartbeats 4000000 in
set_option maxRecDepth 100000 in
theorem c_X0_setCell (l : Launch) (D : va_G) (cI cJ cZ cQ : ClassId) (bs sz : Nat) (b : Nat → Nat) (b_keyCount : Int32) (b_sheetSet : Int32) (b_handSort : Int32) (b_handNumber : Int64) (b_sorts : Nat → Int32) (b_numbers : Nat → Int64) (x1 : Int32) (x2 : Int32) (x3 : Int32) (x4 : Int64) (zr : (Nat → Int32) × (Nat → Int64)) (hf : f_X0_setCell b_sorts b_numbers x1 x2 x3 x4 = some zr) : Met l yX0_setCell wsX0_setCell { frames := 1, cells := 0, slots := 0, locals := 21 } (va_Pc [.ref (b 0), .int x1, .int x2, .int x3, .long x4] (Pr D cI cJ cZ cQ bs sz [oX0 b b_keyCount b_sheetSet b_handSort b_handNumber, aI cI (b 3) 72 b_sorts, aJ cJ (b 4) 72 b_numbers])) (QwV D zr (fun u => [oX0 b b_keyCount b_sheetSet b_handSort b_handNumber, aI cI (b 3) 72 u.1, aJ cJ (b 4) 72 u.2]) (va_A [oX0 b b_keyCount b_sheetSet b_handSort b_handNumber, aI cI (b 3) 72 b_sorts, aJ cJ (b 4) 72 b_numbers] sz)) 0 0 (va_A [oX0 b b_keyCount b_sheetSet b_handSort b_handNumber, aI cI (b 3) 72 b_sorts, aJ cJ (b 4) 72 b_numbers] sz) := by
  refine stW (cc := cX0_setCell) (maxL := 6) (ret := none) (Qf := fun A => (QwV D zr (fun u => [oX0 b b_keyCount b_sheetSet b_handSort b_handNumber, aI cI (b 3) 72 u.1, aJ cJ (b 4) 72 u.2]) A)) (by decide +kernel) rfl (Nat.le_of_ble_eq_true rfl) ?_
  intro p e s m args below meth c A C0 hr hlocks hname hsz hP hD hA hAb hE ls hl
  obtain ⟨hx, hb, hml, hown, hts⟩ := id C0
  have hown : s.vm.findClass RX0 = some m.cls := hown
  obtain ⟨hK, hNW, -, tw, hZ, hT⟩ := id hE
  have hl : lv_has ls 6 [(0, .ref (b 0)), (1, .int x1), (2, .int x2), (3, .int x3), (4, .long x4)] := hl
  have hS : va_S A s.heap s.heap [] := va_S.rf
  have hI_X0 := (show ∀ w ∈ wsX00, w ∈ wsX0_setCell by decide +kernel)
  have gf18 := hts (.fieldLink RX0 18 "RowRanks$Bench" "sorts" "[I") (by decide +kernel)
  have gf21 := hts (.fieldLink RX0 21 "RowRanks$Bench" "numbers" "[J") (by decide +kernel)
  unfold f_X0_setCell at hf
  have go : ∀ (H : Heap) (locs : List Loc), va_P D vwCl [oX0 b b_keyCount b_sheetSet b_handSort b_handNumber, aI cI (b 3) 72 b_sorts, aJ cJ (b 4) 72 b_numbers] H → va_S A s.heap H locs → W p l e { frames := 1, cells := 0, slots := 0, locals := 21 } s m args below meth c H locs 0 0 (MQ below (QwV D zr (fun u => [oX0 b b_keyCount b_sheetSet b_handSort b_handNumber, aI cI (b 3) 72 u.1, aJ cJ (b 4) 72 u.2]) A) args s 0 0 A) (F0 m 0 ls []) := by
    intro H locs hP hS
    refine lv_iload_n hx hb dX0_setCell_0 rfl (lv_at hl 1 rfl) ?_
    refine lv_iload_n hx hb dX0_setCell_1 rfl (lv_at hl 2 rfl) ?_
    obtain ⟨z1, hz1, hf⟩ := obd hf
    refine kZ (runS (As := [.int x1, .int x2]) (rest := []) C0 hE hAb hP ((hD.weaken (fun _ _ _ h9 => hAb _ h9)).addr rfl) hS [] (wc := []) (by decide) rfl (c_X0_isCell l D cI cJ cZ cQ bs H.size x1 x2 z1 hz1) (va_cwS 2 hts gX0_setCell_X0_isCell rfl rfl rfl (by decide +kernel) ⟨Nat.le_of_ble_eq_true rfl, Nat.le_of_ble_eq_true rfl⟩) rfl hl.1 rfl (Nat.le_of_ble_eq_true rfl) dX0_setCell_2 ⟨Nat.le_of_ble_eq_true rfl, Nat.le_of_ble_eq_true rfl⟩) hS hP (fun bz1 H locs hP hS => ?_)
    refine lv_if_eq (tgt := 33) hx hb dX0_setCell_5 (by decide) (fun c2 => ?_) (fun c2 => ?_)
    · replace hf := oif c2 hf
      have er := Option.some.inj hf
      exact rwV (wm := (fun u => [oX0 b b_keyCount b_sheetSet b_handSort b_handNumber, aI cI (b 3) 72 u.1, aJ cJ (b 4) 72 u.2])) hx hb hr hS dX0_setCell_33 hP er hlocks
    · replace hf := oel c2 hf
      refine lv_aload_n hx hb dX0_setCell_8 rfl (lv_at hl 0 rfl) ?_
      refine va_get (D := D) (ci := 0) (v := .ref (b 3)) (C := RX0) (T := TX0) (N := 12) hx hb hts hI_X0 hown hK hP 0 rfl rfl 2 (by decide) gf18 (fun _ h9 => h9) rfl dX0_setCell_9 ?_
      refine lv_iload_n hx hb dX0_setCell_12 rfl (lv_at hl 1 rfl) ?_
      refine lv_bipush (v := 12) hx hb dX0_setCell_13 (by decide) ?_
      refine lv_imul hx hb dX0_setCell_15 ?_
      refine lv_iload_n hx hb dX0_setCell_16 rfl (lv_at hl 2 rfl) ?_
      refine lv_iadd hx hb dX0_setCell_17 ?_
      refine lv_iload_n hx hb dX0_setCell_18 rfl (lv_at hl 3 rfl) ?_
      obtain ⟨h3, hf⟩ := ogd hf
      refine va_iast hx hb hK hP (hD.addr rfl) hS 1 0 rfl rfl (ib_in h3) dX0_setCell_19 (fun H locs hP _ hS => ?_)
      obtain ⟨h3a, eh3a⟩ : ∃ y : Nat → Int32, y = upd b_sorts ((x1 * 12) + x2).toNatClampNeg x3 := ⟨_, rfl⟩
      replace hf := onm eh3a hf
      have hP : va_P D vwCl [oX0 b b_keyCount b_sheetSet b_handSort b_handNumber, aI cI (b 3) 72 h3a, aJ cJ (b 4) 72 b_numbers] H := by rw [eh3a]; exact hP
      refine lv_aload_n hx hb dX0_setCell_20 rfl (lv_at hl 0 rfl) ?_
      refine va_get (D := D) (ci := 0) (v := .ref (b 4)) (C := RX0) (T := TX0) (N := 12) hx hb hts hI_X0 hown hK hP 0 rfl rfl 3 (by decide) gf21 (fun _ h9 => h9) rfl dX0_setCell_21 ?_
      refine lv_iload_n hx hb dX0_setCell_24 rfl (lv_at hl 1 rfl) ?_
      refine lv_bipush (v := 12) hx hb dX0_setCell_25 (by decide) ?_
      refine lv_imul hx hb dX0_setCell_27 ?_
      refine lv_iload_n hx hb dX0_setCell_28 rfl (lv_at hl 2 rfl) ?_
      refine lv_iadd hx hb dX0_setCell_29 ?_
      refine lv_lload hx hb dX0_setCell_30 (lv_at hl 4 rfl) ?_
      obtain ⟨h4, hf⟩ := ogd hf
      refine va_last hx hb hK hP (hD.addr rfl) hS 2 1 rfl rfl (ib_in h4) dX0_setCell_32 (fun H locs hP _ hS => ?_)
      obtain ⟨h4a, eh4a⟩ : ∃ y : Nat → Int64, y = vp_updL b_numbers ((x1 * 12) + x2).toNatClampNeg x4 := ⟨_, rfl⟩
      replace hf := onm eh4a hf
      have hP : va_P D vwCl [oX0 b b_keyCount b_sheetSet b_handSort b_handNumber, aI cI (b 3) 72 h3a, aJ cJ (b 4) 72 h4a] H := by rw [eh4a]; exact hP
      have er := Option.some.inj hf
      exact rwV (wm := (fun u => [oX0 b b_keyCount b_sheetSet b_handSort b_handNumber, aI cI (b 3) 72 u.1, aJ cJ (b 4) 72 u.2])) hx hb hr hS dX0_setCell_33 hP er hlocks
  exact go s.heap [] hP hS
noncomputable def L_X0_renew_35 (v1 : Int32) (v2 : Int32) : Nat → Int32 → (Nat → Int32) → (Nat → Int64) → Option ((Nat → Int32) × (Nat → Int64))
  | 0, _, _, _ => none
  | n + 1, v4, b_sorts, b_numbers => if 12 ≤ v4 then (some ((b_sorts, b_numbers))) else (if 7 < v2 then ((f_X0_setCell b_sorts b_numbers v1 v4 9 0).bind (fun z8 => (some (v4 + 1 : Int32)).bind (fun y9 => L_X0_renew_35 v1 v2 n y9 z8.1 z8.2))) else ((f_X0_setCell b_sorts b_numbers v1 v4 v2 0).bind (fun z10 => (some (v4 + 1 : Int32)).bind (fun y11 => L_X0_renew_35 v1 v2 n y11 z10.1 z10.2))))
noncomputable def f_X0_renew (b_kinds : Nat → Int32) (b_sizes : Nat → Int32) (b_sorts : Nat → Int32) (b_numbers : Nat → Int64) (x1 : Int32) (x2 : Int32) (x3 : Int32) : Option ((Nat → Int32) × (Nat → Int32) × (Nat → Int32) × (Nat → Int64)) := (f_X5_isSlot x1).bind (fun z1 => if z1 = 0 then (some ((b_kinds, b_sizes, b_sorts, b_numbers))) else (if ib x1 6 = true then ((some (upd b_kinds x1.toNatClampNeg x2 : Nat → Int32)).bind (fun h3a => if 11 < x2 then (if ib x1 6 = true then ((some (upd b_sizes x1.toNatClampNeg 0 : Nat → Int32)).bind (fun h5a => (L_X0_renew_35 x1 x2 4000 0 b_sorts b_numbers).bind (fun z12 => some ((h3a, h5a, z12.1, z12.2))))) else none) else (if ib x1 6 = true then ((some (upd b_sizes x1.toNatClampNeg x3 : Nat → Int32)).bind (fun h13a => (L_X0_renew_35 x1 x2 4000 0 b_sorts b_numbers).bind (fun z14 => some ((h3a, h13a, z14.1, z14.2))))) else none))) else none))
set_option maxHeartbeats 4000000 in
set_option maxRecDepth 100000 in
theorem c_X0_renew (l : Launch) (D : va_G) (cI cJ cZ cQ : ClassId) (bs sz : Nat) (b : Nat → Nat) (b_keyCount : Int32) (b_sheetSet : Int32) (b_handSort : Int32) (b_handNumber : Int64) (b_kinds : Nat → Int32) (b_sizes : Nat → Int32) (b_sorts : Nat → Int32) (b_numbers : Nat → Int64) (x1 : Int32) (x2 : Int32) (x3 : Int32) (zr : (Nat → Int32) × (Nat → Int32) × (Nat → Int32) × (Nat → Int64)) (hf : f_X0_renew b_kinds b_sizes b_sorts b_numbers x1 x2 x3 = some zr) : Met l yX0_renew wsX0_renew { frames := 2, cells := 0, slots := 0, locals := 46 } (va_Pc [.ref (b 0), .int x1, .int x2, .int x3] (Pr D cI cJ cZ cQ bs sz [oX0 b b_keyCount b_sheetSet b_handSort b_handNumber, aI cI (b 1) 6 b_kinds, aI cI (b 2) 6 b_sizes, aI cI (b 3) 72 b_sorts, aJ cJ (b 4) 72 b_numbers])) (QwV D zr (fun u => [oX0 b b_keyCount b_sheetSet b_handSort b_handNumber, aI cI (b 1) 6 u.1, aI cI (b 2) 6 u.2.1, aI cI (b 3) 72 u.2.2.1, aJ cJ (b 4) 72 u.2.2.2]) (va_A [oX0 b b_keyCount b_sheetSet b_handSort b_handNumber, aI cI (b 1) 6 b_kinds, aI cI (b 2) 6 b_sizes, aI cI (b 3) 72 b_sorts, aJ cJ (b 4) 72 b_numbers] sz)) 0 0 (va_A [oX0 b b_keyCount b_sheetSet b_handSort b_handNumber, aI cI (b 1) 6 b_kinds, aI cI (b 2) 6 b_sizes, aI cI (b 3) 72 b_sorts, aJ cJ (b 4) 72 b_numbers] sz) := by
  refine stW (cc := cX0_renew) (maxL := 5) (ret := none) (Qf := fun A => (QwV D zr (fun u => [oX0 b b_keyCount b_sheetSet b_handSort b_handNumber, aI cI (b 1) 6 u.1, aI cI (b 2) 6 u.2.1, aI cI (b 3) 72 u.2.2.1, aJ cJ (b 4) 72 u.2.2.2]) A)) (by decide +kernel) rfl (Nat.le_of_ble_eq_true rfl) ?_
  intro p e s m args below meth c A C0 hr hlocks hname hsz hP hD hA hAb hE ls hl
  obtain ⟨hx, hb, hml, hown, hts⟩ := id C0
  have hown : s.vm.findClass RX0 = some m.cls := hown
  obtain ⟨hK, hNW, -, tw, hZ, hT⟩ := id hE
  have hl : lv_has ls 5 [(0, .ref (b 0)), (1, .int x1), (2, .int x2), (3, .int x3)] := hl
  have hS : va_S A s.heap s.heap [] := va_S.rf
  have gn61 := hNW (.methodLinkNest RX0 61 yX5_isSlot RX5) (by decide +kernel)
  have giRX5 := hts (.initialized RX5) (by decide +kernel)
  have gsX5_isSlot := hts (.static yX5_isSlot) (by decide +kernel)
  have hI_X0 := (show ∀ w ∈ wsX00, w ∈ wsX0_renew by decide +kernel)
  have gf9 := hts (.fieldLink RX0 9 "RowRanks$Bench" "kinds" "[I") (by decide +kernel)
  have gf15 := hts (.fieldLink RX0 15 "RowRanks$Bench" "sizes" "[I") (by decide +kernel)
  have W35 : ∀ (n : Nat) (v1 : Int32) (v2 : Int32) (v4 : Int32) (b_kinds : Nat → Int32) (b_sizes : Nat → Int32) (b_sorts : Nat → Int32) (b_numbers : Nat → Int64) (H : Heap) (locs : List Loc) (ls : Array Slot) (z : (Nat → Int32) × (Nat → Int64)), va_P D vwCl [oX0 b b_keyCount b_sheetSet b_handSort b_handNumber, aI cI (b 1) 6 b_kinds, aI cI (b 2) 6 b_sizes, aI cI (b 3) 72 b_sorts, aJ cJ (b 4) 72 b_numbers] H → va_S A s.heap H locs → lv_has ls 5 [(0, .ref (b 0)), (1, .int v1), (2, .int v2), (4, .int v4)] → L_X0_renew_35 v1 v2 n v4 b_sorts b_numbers = some z → (∀ (H : Heap) (locs : List Loc) (ls : Array Slot), va_P D vwCl [oX0 b b_keyCount b_sheetSet b_handSort b_handNumber, aI cI (b 1) 6 b_kinds, aI cI (b 2) 6 b_sizes, aI cI (b 3) 72 z.1, aJ cJ (b 4) 72 z.2] H → va_S A s.heap H locs → lv_has ls 5 [] → W p l e { frames := 2, cells := 0, slots := 0, locals := 46 } s m args below meth c H locs 0 0 (MQ below (QwV D zr (fun u => [oX0 b b_keyCount b_sheetSet b_handSort b_handNumber, aI cI (b 1) 6 u.1, aI cI (b 2) 6 u.2.1, aI cI (b 3) 72 u.2.2.1, aJ cJ (b 4) 72 u.2.2.2]) A) args s 0 0 A) (F0 m 68 ls [])) → W p l e { frames := 2, cells := 0, slots := 0, locals := 46 } s m args below meth c H locs 0 0 (MQ below (QwV D zr (fun u => [oX0 b b_keyCount b_sheetSet b_handSort b_handNumber, aI cI (b 1) 6 u.1, aI cI (b 2) 6 u.2.1, aI cI (b 3) 72 u.2.2.1, aJ cJ (b 4) 72 u.2.2.2]) A) args s 0 0 A) (F0 m 35 ls []) := by
    intro n
    induction n with
    | zero =>
      intro v1 v2 v4 b_kinds b_sizes b_sorts b_numbers H locs ls z hP hS hl hf
      exact absurd (show (none : Option ((Nat → Int32) × (Nat → Int64))) = some z from hf) (fun h => by cases h)
    | succ n ih =>
      intro v1 v2 v4 b_kinds b_sizes b_sorts b_numbers H locs ls z hP hS hl hf K
      rw [L_X0_renew_35] at hf
      refine lv_iload hx hb dX0_renew_35 (lv_at hl 3 rfl) ?_
      refine lv_bipush (v := 12) hx hb dX0_renew_37 (by decide) ?_
      refine lv_icmp_ge (tgt := 68) hx hb dX0_renew_39 (by decide) (fun c6 => ?_) (fun c6 => ?_)
      · replace hf := oif c6 hf
        have hf := Option.some.inj hf
        subst hf
        exact K H locs ls hP hS (lv_sub hl [] rfl)
      · replace hf := oel c6 hf
        refine lv_aload_n hx hb dX0_renew_42 rfl (lv_at hl 0 rfl) ?_
        refine lv_iload_n hx hb dX0_renew_43 rfl (lv_at hl 1 rfl) ?_
        refine lv_iload hx hb dX0_renew_44 (lv_at hl 3 rfl) ?_
        refine lv_iload_n hx hb dX0_renew_46 rfl (lv_at hl 2 rfl) ?_
        refine lv_bipush (v := 7) hx hb dX0_renew_47 (by decide) ?_
        refine lv_icmp_gt (tgt := 56) hx hb dX0_renew_49 (by decide) (fun c7 => ?_) (fun c7 => ?_)
        · replace hf := oif c7 hf
          refine lv_bipush (v := 9) hx hb dX0_renew_56 (by decide) ?_
          refine lv_lconst (v := 0) hx hb dX0_renew_58 (by decide) ?_
          obtain ⟨z8, hz8, hf⟩ := obd hf
          refine kwV (runV (As := [.int v1, .int v4, .int 9, .long 0]) (rest := []) C0 hE hAb hP ((hD.weaken (fun _ _ _ h9 => hAb _ h9)).addr rfl) hS [0, 3, 4] (wc := [oX0 b b_keyCount b_sheetSet b_handSort b_handNumber, aI cI (b 3) 72 b_sorts, aJ cJ (b 4) 72 b_numbers]) (by decide) rfl 0 rfl rfl (c_X0_setCell l D cI cJ cZ cQ bs H.size b b_keyCount b_sheetSet b_handSort b_handNumber b_sorts b_numbers v1 v4 9 0 z8 hz8) (cwV 4 hts gX0_renew_X0_setCell rfl rfl rfl (by decide +kernel) ⟨Nat.le_of_ble_eq_true rfl, Nat.le_of_ble_eq_true rfl⟩) rfl hl.1 rfl (Nat.le_of_ble_eq_true rfl) dX0_renew_59 ⟨Nat.le_of_ble_eq_true rfl, Nat.le_of_ble_eq_true rfl⟩) hS hP (hD.addr rfl) hA [0, 3, 4] rfl rfl (ws' := [oX0 b b_keyCount b_sheetSet b_handSort b_handNumber, aI cI (b 1) 6 b_kinds, aI cI (b 2) 6 b_sizes, aI cI (b 3) 72 z8.1, aJ cJ (b 4) 72 z8.2]) rfl rfl (fun H locs hP hS => ?_)
          obtain ⟨y9, ey9⟩ : ∃ y : Int32, y = v4 + 1 := ⟨_, rfl⟩
          replace hf := onm ey9 hf
          refine lv_iinc (v := y9) (lv' := [(4, .int y9), (0, .ref (b 0)), (1, .int v1), (2, .int v2)]) hx hb dX0_renew_62 hl (k := 3) rfl (by rw [ey9]; rfl) (by decide) rfl (fun ls hl => ?_)
          refine lv_goto (tgt := 35) hx hb dX0_renew_65 (by decide) ?_
          exact ih v1 v2 y9 b_kinds b_sizes z8.1 z8.2 H locs ls z hP hS (lv_sub hl [1, 2, 3, 0] rfl) hf K
        · replace hf := oel c7 hf
          refine lv_iload_n hx hb dX0_renew_52 rfl (lv_at hl 2 rfl) ?_
          refine lv_goto (tgt := 58) hx hb dX0_renew_53 (by decide) ?_
          refine lv_lconst (v := 0) hx hb dX0_renew_58 (by decide) ?_
          obtain ⟨z10, hz10, hf⟩ := obd hf
          refine kwV (runV (As := [.int v1, .int v4, .int v2, .long 0]) (rest := []) C0 hE hAb hP ((hD.weaken (fun _ _ _ h9 => hAb _ h9)).addr rfl) hS [0, 3, 4] (wc := [oX0 b b_keyCount b_sheetSet b_handSort b_handNumber, aI cI (b 3) 72 b_sorts, aJ cJ (b 4) 72 b_numbers]) (by decide) rfl 0 rfl rfl (c_X0_setCell l D cI cJ cZ cQ bs H.size b b_keyCount b_sheetSet b_handSort b_handNumber b_sorts b_numbers v1 v4 v2 0 z10 hz10) (cwV 4 hts gX0_renew_X0_setCell rfl rfl rfl (by decide +kernel) ⟨Nat.le_of_ble_eq_true rfl, Nat.le_of_ble_eq_true rfl⟩) rfl hl.1 rfl (Nat.le_of_ble_eq_true rfl) dX0_renew_59 ⟨Nat.le_of_ble_eq_true rfl, Nat.le_of_ble_eq_true rfl⟩) hS hP (hD.addr rfl) hA [0, 3, 4] rfl rfl (ws' := [oX0 b b_keyCount b_sheetSet b_handSort b_handNumber, aI cI (b 1) 6 b_kinds, aI cI (b 2) 6 b_sizes, aI cI (b 3) 72 z10.1, aJ cJ (b 4) 72 z10.2]) rfl rfl (fun H locs hP hS => ?_)
          obtain ⟨y11, ey11⟩ : ∃ y : Int32, y = v4 + 1 := ⟨_, rfl⟩
          replace hf := onm ey11 hf
          refine lv_iinc (v := y11) (lv' := [(4, .int y11), (0, .ref (b 0)), (1, .int v1), (2, .int v2)]) hx hb dX0_renew_62 hl (k := 3) rfl (by rw [ey11]; rfl) (by decide) rfl (fun ls hl => ?_)
          refine lv_goto (tgt := 35) hx hb dX0_renew_65 (by decide) ?_
          exact ih v1 v2 y11 b_kinds b_sizes z10.1 z10.2 H locs ls z hP hS (lv_sub hl [1, 2, 3, 0] rfl) hf K
  unfold f_X0_renew at hf
  have go : ∀ (H : Heap) (locs : List Loc), va_P D vwCl [oX0 b b_keyCount b_sheetSet b_handSort b_handNumber, aI cI (b 1) 6 b_kinds, aI cI (b 2) 6 b_sizes, aI cI (b 3) 72 b_sorts, aJ cJ (b 4) 72 b_numbers] H → va_S A s.heap H locs → W p l e { frames := 2, cells := 0, slots := 0, locals := 46 } s m args below meth c H locs 0 0 (MQ below (QwV D zr (fun u => [oX0 b b_keyCount b_sheetSet b_handSort b_handNumber, aI cI (b 1) 6 u.1, aI cI (b 2) 6 u.2.1, aI cI (b 3) 72 u.2.2.1, aJ cJ (b 4) 72 u.2.2.2]) A) args s 0 0 A) (F0 m 0 ls []) := by
    intro H locs hP hS
    refine lv_iload_n hx hb dX0_renew_0 rfl (lv_at hl 1 rfl) ?_
    obtain ⟨z1, hz1, hf⟩ := obd hf
    refine kZ (runSN (As := [.int x1]) (rest := []) C0 hE hAb hP ((hD.weaken (fun _ _ _ h9 => hAb _ h9)).addr rfl) hS [] (wc := []) (by decide) rfl (c_X5_isSlot l D cI cJ cZ cQ bs H.size x1 z1 hz1) (va_cnB 1 hts ggX0_renew_X5_isSlot rfl rfl rfl gn61 giRX5 (by decide +kernel) ⟨Nat.le_of_ble_eq_true rfl, Nat.le_of_ble_eq_true rfl⟩) gsX5_isSlot rfl hl.1 rfl (Nat.le_of_ble_eq_true rfl) dX0_renew_1 ⟨Nat.le_of_ble_eq_true rfl, Nat.le_of_ble_eq_true rfl⟩) hS hP (fun bz1 H locs hP hS => ?_)
    refine lv_if_ne (tgt := 8) hx hb dX0_renew_4 (by decide) (fun c2 => ?_) (fun c2 => ?_)
    · replace hf := oel c2 hf
      refine lv_aload_n hx hb dX0_renew_8 rfl (lv_at hl 0 rfl) ?_
      refine va_get (D := D) (ci := 0) (v := .ref (b 1)) (C := RX0) (T := TX0) (N := 12) hx hb hts hI_X0 hown hK hP 0 rfl rfl 0 (by decide) gf9 (fun _ h9 => h9) rfl dX0_renew_9 ?_
      refine lv_iload_n hx hb dX0_renew_12 rfl (lv_at hl 1 rfl) ?_
      refine lv_iload_n hx hb dX0_renew_13 rfl (lv_at hl 2 rfl) ?_
      obtain ⟨h3, hf⟩ := ogd hf
      refine va_iast hx hb hK hP (hD.addr rfl) hS 1 0 rfl rfl (ib_in h3) dX0_renew_14 (fun H locs hP _ hS => ?_)
      obtain ⟨h3a, eh3a⟩ : ∃ y : Nat → Int32, y = upd b_kinds x1.toNatClampNeg x2 := ⟨_, rfl⟩
      replace hf := onm eh3a hf
      have hP : va_P D vwCl [oX0 b b_keyCount b_sheetSet b_handSort b_handNumber, aI cI (b 1) 6 h3a, aI cI (b 2) 6 b_sizes, aI cI (b 3) 72 b_sorts, aJ cJ (b 4) 72 b_numbers] H := by rw [eh3a]; exact hP
      refine lv_aload_n hx hb dX0_renew_15 rfl (lv_at hl 0 rfl) ?_
      refine va_get (D := D) (ci := 0) (v := .ref (b 2)) (C := RX0) (T := TX0) (N := 12) hx hb hts hI_X0 hown hK hP 0 rfl rfl 1 (by decide) gf15 (fun _ h9 => h9) rfl dX0_renew_16 ?_
      refine lv_iload_n hx hb dX0_renew_19 rfl (lv_at hl 1 rfl) ?_
      refine lv_iload_n hx hb dX0_renew_20 rfl (lv_at hl 2 rfl) ?_
      refine lv_bipush (v := 11) hx hb dX0_renew_21 (by decide) ?_
      refine lv_icmp_gt (tgt := 30) hx hb dX0_renew_23 (by decide) (fun c4 => ?_) (fun c4 => ?_)
      · replace hf := oif c4 hf
        refine lv_iconst (v := 0) hx hb dX0_renew_30 (by decide) ?_
        obtain ⟨h5, hf⟩ := ogd hf
        refine va_iast hx hb hK hP (hD.addr rfl) hS 2 0 rfl rfl (ib_in h5) dX0_renew_31 (fun H locs hP _ hS => ?_)
        obtain ⟨h5a, eh5a⟩ : ∃ y : Nat → Int32, y = upd b_sizes x1.toNatClampNeg 0 := ⟨_, rfl⟩
        replace hf := onm eh5a hf
        have hP : va_P D vwCl [oX0 b b_keyCount b_sheetSet b_handSort b_handNumber, aI cI (b 1) 6 h3a, aI cI (b 2) 6 h5a, aI cI (b 3) 72 b_sorts, aJ cJ (b 4) 72 b_numbers] H := by rw [eh5a]; exact hP
        refine lv_iconst (v := 0) hx hb dX0_renew_32 (by decide) ?_
        refine lv_istore (lv' := [(4, .int 0), (0, .ref (b 0)), (1, .int x1), (2, .int x2), (3, .int x3)]) hx hb dX0_renew_33 hl (by decide) rfl (fun ls hl => ?_)
        obtain ⟨z12, hz12, hf⟩ := obd hf
        refine W35 4000 x1 x2 0 h3a h5a b_sorts b_numbers H locs ls z12 hP hS (lv_sub hl [1, 2, 3, 0] rfl) hz12 (fun H locs ls hP hS hl => ?_)
        have er := Option.some.inj hf
        exact rwV (wm := (fun u => [oX0 b b_keyCount b_sheetSet b_handSort b_handNumber, aI cI (b 1) 6 u.1, aI cI (b 2) 6 u.2.1, aI cI (b 3) 72 u.2.2.1, aJ cJ (b 4) 72 u.2.2.2])) hx hb hr hS dX0_renew_68 hP er hlocks
      · replace hf := oel c4 hf
        refine lv_iload_n hx hb dX0_renew_26 rfl (lv_at hl 3 rfl) ?_
        refine lv_goto (tgt := 31) hx hb dX0_renew_27 (by decide) ?_
        obtain ⟨h13, hf⟩ := ogd hf
        refine va_iast hx hb hK hP (hD.addr rfl) hS 2 0 rfl rfl (ib_in h13) dX0_renew_31 (fun H locs hP _ hS => ?_)
        obtain ⟨h13a, eh13a⟩ : ∃ y : Nat → Int32, y = upd b_sizes x1.toNatClampNeg x3 := ⟨_, rfl⟩
        replace hf := onm eh13a hf
        have hP : va_P D vwCl [oX0 b b_keyCount b_sheetSet b_handSort b_handNumber, aI cI (b 1) 6 h3a, aI cI (b 2) 6 h13a, aI cI (b 3) 72 b_sorts, aJ cJ (b 4) 72 b_numbers] H := by rw [eh13a]; exact hP
        refine lv_iconst (v := 0) hx hb dX0_renew_32 (by decide) ?_
        refine lv_istore (lv' := [(4, .int 0), (0, .ref (b 0)), (1, .int x1), (2, .int x2), (3, .int x3)]) hx hb dX0_renew_33 hl (by decide) rfl (fun ls hl => ?_)
        obtain ⟨z14, hz14, hf⟩ := obd hf
        refine W35 4000 x1 x2 0 h3a h13a b_sorts b_numbers H locs ls z14 hP hS (lv_sub hl [1, 2, 3, 0] rfl) hz14 (fun H locs ls hP hS hl => ?_)
        have er := Option.some.inj hf
        exact rwV (wm := (fun u => [oX0 b b_keyCount b_sheetSet b_handSort b_handNumber, aI cI (b 1) 6 u.1, aI cI (b 2) 6 u.2.1, aI cI (b 3) 72 u.2.2.1, aJ cJ (b 4) 72 u.2.2.2])) hx hb hr hS dX0_renew_68 hP er hlocks
    · replace hf := oif c2 hf
      have er := Option.some.inj hf
      exact rwV (wm := (fun u => [oX0 b b_keyCount b_sheetSet b_handSort b_handNumber, aI cI (b 1) 6 u.1, aI cI (b 2) 6 u.2.1, aI cI (b 3) 72 u.2.2.1, aJ cJ (b 4) 72 u.2.2.2])) hx hb hr hS dX0_renew_7 hP er hlocks
  exact go s.heap [] hP hS
noncomputable def f_X5_fits (x0 : Int32) (x1 : Int32) : Option (Int32) := if x0 < 0 then (some (0)) else (if 10 ≤ x0 then (some (0)) else (if x1 < 0 then (some (0)) else (if x1 ≤ 7 then (if ib x0 10 = true then (if (((wdF x0.toNatClampNeg) >>> (x1 &&& 31)) &&& 1) = 1 then (some (1)) else (some (0))) else none) else (some (0)))))
set_option maxHeartbeats 4000000 in
set_option maxRecDepth 100000 in
theorem c_X5_fits (l : Launch) (D : va_G) (cI cJ cZ cQ : ClassId) (bs sz : Nat) (x0 : Int32) (x1 : Int32) (zr : Int32) (hf : f_X5_fits x0 x1 = some zr) : Met l yX5_fits wsX5_fits { frames := 0, cells := 0, slots := 0, locals := 0 } (va_Pc [.int x0, .int x1] (Pr D cI cJ cZ cQ bs sz [])) (QrZ zr) 0 0 no := by
  refine stM (cc := cX5_fits) (maxL := 2) (ret := (some .boolean)) (by decide +kernel) rfl (Nat.le_of_ble_eq_true rfl) ?_
  intro p e s m args below meth c C0 hr hlocks hname hsz hP hDb hE ls hl
  have hAb : ∀ q, no q → bs ≤ q := fun _ h => h.elim
  obtain ⟨hx, hb, hml, hown, hts⟩ := id C0
  have hown : s.vm.findClass RX5 = some m.cls := hown
  obtain ⟨hK, hNW, -, tw, hZ, hT⟩ := id hE
  have hl : lv_has ls 2 [(0, .int x0), (1, .int x1)] := hl
  have hS : va_S no s.heap s.heap [] := va_S.rf
  have gf275 := hts (.fieldLink RX5 275 "RowRanks" "WIDENS" "[I") (by decide +kernel)
  unfold f_X5_fits at hf
  have go : ∀ (H : Heap) (locs : List Loc), va_P D vwCl [] H → va_S no s.heap H locs → W p l e { frames := 0, cells := 0, slots := 0, locals := 0 } s m args below meth c H locs 0 0 (MQ below (QrZ zr) args s 0 0 no) (F0 m 0 ls []) := by
    intro H locs hP hS
    refine lv_iload_n hx hb dX5_fits_0 rfl (lv_at hl 0 rfl) ?_
    refine lv_if_lt (tgt := 22) hx hb dX5_fits_1 (by decide) (fun c1 => ?_) (fun c1 => ?_)
    · replace hf := oif c1 hf
      refine lv_iconst (v := 0) hx hb dX5_fits_22 (by decide) ?_
      have er := Option.some.inj hf
      exact rtZ hx hb hr hS dX5_fits_23 er (by decide) hlocks
    · replace hf := oel c1 hf
      refine lv_iload_n hx hb dX5_fits_4 rfl (lv_at hl 0 rfl) ?_
      refine va_gets hx hb (va_Z.narrow hZ hAb) hS hown gf275 (fun _ h9 => h9) dX5_fits_5 ?_
      refine va_tlen (v := 10) hx hb (va_T.narrow hT hAb) hS rfl dX5_fits_8 ?_
      refine lv_icmp_ge (tgt := 22) hx hb dX5_fits_9 (by decide) (fun c2 => ?_) (fun c2 => ?_)
      · replace hf := oif c2 hf
        refine lv_iconst (v := 0) hx hb dX5_fits_22 (by decide) ?_
        have er := Option.some.inj hf
        exact rtZ hx hb hr hS dX5_fits_23 er (by decide) hlocks
      · replace hf := oel c2 hf
        refine lv_iload_n hx hb dX5_fits_12 rfl (lv_at hl 1 rfl) ?_
        refine lv_if_lt (tgt := 22) hx hb dX5_fits_13 (by decide) (fun c3 => ?_) (fun c3 => ?_)
        · replace hf := oif c3 hf
          refine lv_iconst (v := 0) hx hb dX5_fits_22 (by decide) ?_
          have er := Option.some.inj hf
          exact rtZ hx hb hr hS dX5_fits_23 er (by decide) hlocks
        · replace hf := oel c3 hf
          refine lv_iload_n hx hb dX5_fits_16 rfl (lv_at hl 1 rfl) ?_
          refine lv_bipush (v := 7) hx hb dX5_fits_17 (by decide) ?_
          refine lv_icmp_le (tgt := 24) hx hb dX5_fits_19 (by decide) (fun c4 => ?_) (fun c4 => ?_)
          · replace hf := oif c4 hf
            refine va_gets hx hb (va_Z.narrow hZ hAb) hS hown gf275 (fun _ h9 => h9) dX5_fits_24 ?_
            refine lv_iload_n hx hb dX5_fits_27 rfl (lv_at hl 0 rfl) ?_
            obtain ⟨h5, hf⟩ := ogd hf
            refine va_ti (v := .int (wdF x0.toNatClampNeg)) hx hb (va_T.narrow hT hAb) hS (ib_in h5) rfl dX5_fits_28 ?_
            refine lv_iload_n hx hb dX5_fits_29 rfl (lv_at hl 1 rfl) ?_
            refine lv_ishr hx hb dX5_fits_30 ?_
            refine lv_iconst (v := 1) hx hb dX5_fits_31 (by decide) ?_
            refine lv_iand hx hb dX5_fits_32 ?_
            refine lv_iconst (v := 1) hx hb dX5_fits_33 (by decide) ?_
            refine lv_icmp_ne (tgt := 41) hx hb dX5_fits_34 (by decide) (fun c6 => ?_) (fun c6 => ?_)
            · replace hf := oel c6 hf
              refine lv_iconst (v := 0) hx hb dX5_fits_41 (by decide) ?_
              have er := Option.some.inj hf
              exact rtZ hx hb hr hS dX5_fits_42 er (by decide) hlocks
            · replace hf := oif c6 hf
              refine lv_iconst (v := 1) hx hb dX5_fits_37 (by decide) ?_
              refine lv_goto (tgt := 42) hx hb dX5_fits_38 (by decide) ?_
              have er := Option.some.inj hf
              exact rtZ hx hb hr hS dX5_fits_42 er (by decide) hlocks
          · replace hf := oel c4 hf
            refine lv_iconst (v := 0) hx hb dX5_fits_22 (by decide) ?_
            have er := Option.some.inj hf
            exact rtZ hx hb hr hS dX5_fits_23 er (by decide) hlocks
  exact go s.heap [] hP hS
noncomputable def f_X5_made (x0 : Int32) (x1 : Int64) : Option (Int64) := if x0 = 0 then (if (lg_cmp x1 0) = 0 then (some (0)) else (some (1))) else (if x0 = 1 then (some ((Int32.toInt64 (Int8.toInt32 (Int32.toInt8 (Int64.toInt32 x1)))))) else (if x0 = 2 then (some ((Int32.toInt64 (UInt32.toInt32 (Int32.toUInt32 (Int64.toInt32 x1) % 65536))))) else (if x0 = 3 then (some ((Int32.toInt64 (Int16.toInt32 (Int32.toInt16 (Int64.toInt32 x1)))))) else (if x0 = 4 then (some ((Int32.toInt64 (Int64.toInt32 x1)))) else (if x0 = 5 then (some (x1)) else (if x0 = 6 then (some ((FP.f2l (FP.l2f x1)))) else (if x0 = 7 then (some ((FP.d2l (FP.l2d x1)))) else (if x0 = 8 then (some (x1)) else (if x0 = 9 then (some (0)) else (some (x1)))))))))))
set_option maxHeartbeats 4000000 in
set_option maxRecDepth 100000 in
theorem c_X5_made (l : Launch) (D : va_G) (cI cJ cZ cQ : ClassId) (bs sz : Nat) (x0 : Int32) (x1 : Int64) (zr : Int64) (hf : f_X5_made x0 x1 = some zr) : Met l yX5_made wsX5_made { frames := 0, cells := 0, slots := 0, locals := 0 } (va_Pc [.int x0, .long x1] (Pr D cI cJ cZ cQ bs sz [])) (QrJ zr) 0 0 no := by
  refine stM (cc := cX5_made) (maxL := 3) (ret := (some .long)) (by decide +kernel) rfl (Nat.le_of_ble_eq_true rfl) ?_
  intro p e s m args below meth c C0 hr hlocks hname hsz hP hDb hE ls hl
  have hAb : ∀ q, no q → bs ≤ q := fun _ h => h.elim
  obtain ⟨hx, hb, hml, hown, hts⟩ := id C0
  have hown : s.vm.findClass RX5 = some m.cls := hown
  obtain ⟨hK, hNW, -, tw, hZ, hT⟩ := id hE
  have hl : lv_has ls 3 [(0, .int x0), (1, .long x1)] := hl
  have hS : va_S no s.heap s.heap [] := va_S.rf
  unfold f_X5_made at hf
  have go : ∀ (H : Heap) (locs : List Loc), va_P D vwCl [] H → va_S no s.heap H locs → W p l e { frames := 0, cells := 0, slots := 0, locals := 0 } s m args below meth c H locs 0 0 (MQ below (QrJ zr) args s 0 0 no) (F0 m 0 ls []) := by
    intro H locs hP hS
    refine lv_iload_n hx hb dX5_made_0 rfl (lv_at hl 0 rfl) ?_
    by_cases c1 : x0 = 0
    · replace hf := oif c1 hf
      refine cgI c1 ?_
      refine lv_tableIn (off := 55) (tgt := 56) hx hb dX5_made_1 (by decide) (by decide) (by decide +kernel) (by decide) ?_
      refine lv_lload_n hx hb dX5_made_56 rfl (lv_at hl 1 rfl) ?_
      refine lv_lconst (v := 0) hx hb dX5_made_57 (by decide) ?_
      refine W.lcmp hx hb dX5_made_58 ?_
      refine lv_if_eq (tgt := 66) hx hb dX5_made_59 (by decide) (fun c2 => ?_) (fun c2 => ?_)
      · replace hf := oif c2 hf
        refine lv_lconst (v := 0) hx hb dX5_made_66 (by decide) ?_
        have er := Option.some.inj hf
        exact rtJ hx hb hr hS dX5_made_67 er hlocks
      · replace hf := oel c2 hf
        refine lv_lconst (v := 1) hx hb dX5_made_62 (by decide) ?_
        refine lv_goto (tgt := 67) hx hb dX5_made_63 (by decide) ?_
        have er := Option.some.inj hf
        exact rtJ hx hb hr hS dX5_made_67 er hlocks
    replace hf := oel c1 hf
    by_cases c3 : x0 = 1
    · replace hf := oif c3 hf
      refine cgI c3 ?_
      refine lv_tableIn (off := 67) (tgt := 68) hx hb dX5_made_1 (by decide) (by decide) (by decide +kernel) (by decide) ?_
      refine lv_lload_n hx hb dX5_made_68 rfl (lv_at hl 1 rfl) ?_
      refine lv_l2i (v := (Int64.toInt32 x1)) hx hb dX5_made_69 rfl ?_
      refine lv_i2b (v := (Int8.toInt32 (Int32.toInt8 (Int64.toInt32 x1)))) hx hb dX5_made_70 rfl ?_
      refine lv_i2l (v := (Int32.toInt64 (Int8.toInt32 (Int32.toInt8 (Int64.toInt32 x1))))) hx hb dX5_made_71 rfl ?_
      have er := Option.some.inj hf
      exact rtJ hx hb hr hS dX5_made_72 er hlocks
    replace hf := oel c3 hf
    by_cases c4 : x0 = 2
    · replace hf := oif c4 hf
      refine cgI c4 ?_
      refine lv_tableIn (off := 72) (tgt := 73) hx hb dX5_made_1 (by decide) (by decide) (by decide +kernel) (by decide) ?_
      refine lv_lload_n hx hb dX5_made_73 rfl (lv_at hl 1 rfl) ?_
      refine lv_l2i (v := (Int64.toInt32 x1)) hx hb dX5_made_74 rfl ?_
      refine lv_i2c (v := (UInt32.toInt32 (Int32.toUInt32 (Int64.toInt32 x1) % 65536))) hx hb dX5_made_75 rfl ?_
      refine lv_i2l (v := (Int32.toInt64 (UInt32.toInt32 (Int32.toUInt32 (Int64.toInt32 x1) % 65536)))) hx hb dX5_made_76 rfl ?_
      have er := Option.some.inj hf
      exact rtJ hx hb hr hS dX5_made_77 er hlocks
    replace hf := oel c4 hf
    by_cases c5 : x0 = 3
    · replace hf := oif c5 hf
      refine cgI c5 ?_
      refine lv_tableIn (off := 77) (tgt := 78) hx hb dX5_made_1 (by decide) (by decide) (by decide +kernel) (by decide) ?_
      refine lv_lload_n hx hb dX5_made_78 rfl (lv_at hl 1 rfl) ?_
      refine lv_l2i (v := (Int64.toInt32 x1)) hx hb dX5_made_79 rfl ?_
      refine lv_i2s (v := (Int16.toInt32 (Int32.toInt16 (Int64.toInt32 x1)))) hx hb dX5_made_80 rfl ?_
      refine lv_i2l (v := (Int32.toInt64 (Int16.toInt32 (Int32.toInt16 (Int64.toInt32 x1))))) hx hb dX5_made_81 rfl ?_
      have er := Option.some.inj hf
      exact rtJ hx hb hr hS dX5_made_82 er hlocks
    replace hf := oel c5 hf
    by_cases c6 : x0 = 4
    · replace hf := oif c6 hf
      refine cgI c6 ?_
      refine lv_tableIn (off := 82) (tgt := 83) hx hb dX5_made_1 (by decide) (by decide) (by decide +kernel) (by decide) ?_
      refine lv_lload_n hx hb dX5_made_83 rfl (lv_at hl 1 rfl) ?_
      refine lv_l2i (v := (Int64.toInt32 x1)) hx hb dX5_made_84 rfl ?_
      refine lv_i2l (v := (Int32.toInt64 (Int64.toInt32 x1))) hx hb dX5_made_85 rfl ?_
      have er := Option.some.inj hf
      exact rtJ hx hb hr hS dX5_made_86 er hlocks
    replace hf := oel c6 hf
    by_cases c7 : x0 = 5
    · replace hf := oif c7 hf
      refine cgI c7 ?_
      refine lv_tableIn (off := 96) (tgt := 97) hx hb dX5_made_1 (by decide) (by decide) (by decide +kernel) (by decide) ?_
      refine lv_lload_n hx hb dX5_made_97 rfl (lv_at hl 1 rfl) ?_
      have er := Option.some.inj hf
      exact rtJ hx hb hr hS dX5_made_98 er hlocks
    replace hf := oel c7 hf
    by_cases c8 : x0 = 6
    · replace hf := oif c8 hf
      refine cgI c8 ?_
      refine lv_tableIn (off := 86) (tgt := 87) hx hb dX5_made_1 (by decide) (by decide) (by decide +kernel) (by decide) ?_
      refine lv_lload_n hx hb dX5_made_87 rfl (lv_at hl 1 rfl) ?_
      refine lv_l2f hx hb dX5_made_88 ?_
      refine lv_f2l hx hb dX5_made_89 ?_
      have er := Option.some.inj hf
      exact rtJ hx hb hr hS dX5_made_90 er hlocks
    replace hf := oel c8 hf
    by_cases c9 : x0 = 7
    · replace hf := oif c9 hf
      refine cgI c9 ?_
      refine lv_tableIn (off := 90) (tgt := 91) hx hb dX5_made_1 (by decide) (by decide) (by decide +kernel) (by decide) ?_
      refine lv_lload_n hx hb dX5_made_91 rfl (lv_at hl 1 rfl) ?_
      refine lv_l2d hx hb dX5_made_92 ?_
      refine lv_d2l hx hb dX5_made_93 ?_
      have er := Option.some.inj hf
      exact rtJ hx hb hr hS dX5_made_94 er hlocks
    replace hf := oel c9 hf
    by_cases c10 : x0 = 8
    · replace hf := oif c10 hf
      refine cgI c10 ?_
      refine lv_tableIn (off := 96) (tgt := 97) hx hb dX5_made_1 (by decide) (by decide) (by decide +kernel) (by decide) ?_
      refine lv_lload_n hx hb dX5_made_97 rfl (lv_at hl 1 rfl) ?_
      have er := Option.some.inj hf
      exact rtJ hx hb hr hS dX5_made_98 er hlocks
    replace hf := oel c10 hf
    by_cases c11 : x0 = 9
    · replace hf := oif c11 hf
      refine cgI c11 ?_
      refine lv_tableIn (off := 94) (tgt := 95) hx hb dX5_made_1 (by decide) (by decide) (by decide +kernel) (by decide) ?_
      refine lv_lconst (v := 0) hx hb dX5_made_95 (by decide) ?_
      have er := Option.some.inj hf
      exact rtJ hx hb hr hS dX5_made_96 er hlocks
    replace hf := oel c11 hf
    refine lv_tableOut (tgt := 97) hx hb dX5_made_1 (by have a0 := lv_neT c1 (a := 0) (by decide); have a1 := lv_neT c3 (a := 1) (by decide); have a2 := lv_neT c4 (a := 2) (by decide); have a3 := lv_neT c5 (a := 3) (by decide); have a4 := lv_neT c6 (a := 4) (by decide); have a5 := lv_neT c7 (a := 5) (by decide); have a6 := lv_neT c8 (a := 6) (by decide); have a7 := lv_neT c9 (a := 7) (by decide); have a8 := lv_neT c10 (a := 8) (by decide); have a9 := lv_neT c11 (a := 9) (by decide); omega) (by decide) ?_
    refine lv_lload_n hx hb dX5_made_97 rfl (lv_at hl 1 rfl) ?_
    have er := Option.some.inj hf
    exact rtJ hx hb hr hS dX5_made_98 er hlocks
  exact go s.heap [] hP hS
noncomputable def f_X0_canRead (b_kinds : Nat → Int32) (x1 : Int32) (x2 : Int32) : Option (Int32) := (f_X0_kindOf b_kinds x1).bind (fun z1 => if x2 = 8 then (if 11 < z1 then (some (0)) else (some (1))) else (if 7 < z1 then (some (0)) else ((f_X5_fits z1 x2).bind (fun z4 => if z4 = 0 then (some (0)) else (some (1))))))
set_option maxHeartbeats 4000000 in
set_option maxRecDepth 100000 in
theorem c_X0_canRead (l : Launch) (D : va_G) (cI cJ cZ cQ : ClassId) (bs sz : Nat) (b : Nat → Nat) (b_keyCount : Int32) (b_sheetSet : Int32) (b_handSort : Int32) (b_handNumber : Int64) (b_kinds : Nat → Int32) (x1 : Int32) (x2 : Int32) (zr : Int32) (hf : f_X0_canRead b_kinds x1 x2 = some zr) : Met l yX0_canRead wsX0_canRead { frames := 1, cells := 0, slots := 0, locals := 21 } (va_Pc [.ref (b 0), .int x1, .int x2] (Pr D cI cJ cZ cQ bs sz [oX0 b b_keyCount b_sheetSet b_handSort b_handNumber, aI cI (b 1) 6 b_kinds])) (QrZ zr) 0 0 no := by
  refine stM (cc := cX0_canRead) (maxL := 4) (ret := (some .boolean)) (by decide +kernel) rfl (Nat.le_of_ble_eq_true rfl) ?_
  intro p e s m args below meth c C0 hr hlocks hname hsz hP hDb hE ls hl
  have hAb : ∀ q, no q → bs ≤ q := fun _ h => h.elim
  obtain ⟨hx, hb, hml, hown, hts⟩ := id C0
  have hown : s.vm.findClass RX0 = some m.cls := hown
  obtain ⟨hK, hNW, -, tw, hZ, hT⟩ := id hE
  have hl : lv_has ls 4 [(0, .ref (b 0)), (1, .int x1), (2, .int x2)] := hl
  have hS : va_S no s.heap s.heap [] := va_S.rf
  have gn83 := hNW (.methodLinkNest RX0 83 yX5_fits RX5) (by decide +kernel)
  have giRX5 := hts (.initialized RX5) (by decide +kernel)
  have gsX5_fits := hts (.static yX5_fits) (by decide +kernel)
  unfold f_X0_canRead at hf
  have go : ∀ (H : Heap) (locs : List Loc), va_P D vwCl [oX0 b b_keyCount b_sheetSet b_handSort b_handNumber, aI cI (b 1) 6 b_kinds] H → va_S no s.heap H locs → W p l e { frames := 1, cells := 0, slots := 0, locals := 21 } s m args below meth c H locs 0 0 (MQ below (QrZ zr) args s 0 0 no) (F0 m 0 ls []) := by
    intro H locs hP hS
    refine lv_aload_n hx hb dX0_canRead_0 rfl (lv_at hl 0 rfl) ?_
    refine lv_iload_n hx hb dX0_canRead_1 rfl (lv_at hl 1 rfl) ?_
    obtain ⟨z1, hz1, hf⟩ := obd hf
    refine kI (runV (As := [.int x1]) (rest := []) C0 hE hAb hP (hDb.addr rfl) hS [0, 1] (wc := [oX0 b b_keyCount b_sheetSet b_handSort b_handNumber, aI cI (b 1) 6 b_kinds]) (by decide) rfl 0 rfl rfl (c_X0_kindOf l D cI cJ cZ cQ bs H.size b b_keyCount b_sheetSet b_handSort b_handNumber b_kinds x1 z1 hz1) (cwV 1 hts gX0_canRead_X0_kindOf rfl rfl rfl (by decide +kernel) ⟨Nat.le_of_ble_eq_true rfl, Nat.le_of_ble_eq_true rfl⟩) rfl hl.1 rfl (Nat.le_of_ble_eq_true rfl) dX0_canRead_2 ⟨Nat.le_of_ble_eq_true rfl, Nat.le_of_ble_eq_true rfl⟩) hS hP (fun H locs hP hS => ?_)
    refine lv_istore_n (lv' := [(3, .int z1), (0, .ref (b 0)), (1, .int x1), (2, .int x2)]) hx hb dX0_canRead_5 rfl hl (by decide) rfl (fun ls hl => ?_)
    refine lv_iload_n hx hb dX0_canRead_6 rfl (lv_at hl 3 rfl) ?_
    refine lv_bipush (v := 8) hx hb dX0_canRead_7 (by decide) ?_
    refine lv_icmp_ne (tgt := 24) hx hb dX0_canRead_9 (by decide) (fun c2 => ?_) (fun c2 => ?_)
    · replace hf := oel c2 hf
      refine lv_iload_n hx hb dX0_canRead_24 rfl (lv_at hl 0 rfl) ?_
      refine lv_bipush (v := 7) hx hb dX0_canRead_25 (by decide) ?_
      refine lv_icmp_gt (tgt := 42) hx hb dX0_canRead_27 (by decide) (fun c3 => ?_) (fun c3 => ?_)
      · replace hf := oif c3 hf
        refine lv_iconst (v := 0) hx hb dX0_canRead_42 (by decide) ?_
        have er := Option.some.inj hf
        exact rtZ hx hb hr hS dX0_canRead_43 er (by decide) hlocks
      · replace hf := oel c3 hf
        refine lv_iload_n hx hb dX0_canRead_30 rfl (lv_at hl 0 rfl) ?_
        refine lv_iload_n hx hb dX0_canRead_31 rfl (lv_at hl 3 rfl) ?_
        obtain ⟨z4, hz4, hf⟩ := obd hf
        refine kZ (runSN (As := [.int z1, .int x2]) (rest := []) C0 hE hAb hP (hDb.addr rfl) hS [] (wc := []) (by decide) rfl (c_X5_fits l D cI cJ cZ cQ bs H.size z1 x2 z4 hz4) (va_cnB 2 hts ggX0_canRead_X5_fits rfl rfl rfl gn83 giRX5 (by decide +kernel) ⟨Nat.le_of_ble_eq_true rfl, Nat.le_of_ble_eq_true rfl⟩) gsX5_fits rfl hl.1 rfl (Nat.le_of_ble_eq_true rfl) dX0_canRead_32 ⟨Nat.le_of_ble_eq_true rfl, Nat.le_of_ble_eq_true rfl⟩) hS hP (fun bz4 H locs hP hS => ?_)
        refine lv_if_eq (tgt := 42) hx hb dX0_canRead_35 (by decide) (fun c5 => ?_) (fun c5 => ?_)
        · replace hf := oif c5 hf
          refine lv_iconst (v := 0) hx hb dX0_canRead_42 (by decide) ?_
          have er := Option.some.inj hf
          exact rtZ hx hb hr hS dX0_canRead_43 er (by decide) hlocks
        · replace hf := oel c5 hf
          refine lv_iconst (v := 1) hx hb dX0_canRead_38 (by decide) ?_
          refine lv_goto (tgt := 43) hx hb dX0_canRead_39 (by decide) ?_
          have er := Option.some.inj hf
          exact rtZ hx hb hr hS dX0_canRead_43 er (by decide) hlocks
    · replace hf := oif c2 hf
      refine lv_iload_n hx hb dX0_canRead_12 rfl (lv_at hl 0 rfl) ?_
      refine lv_bipush (v := 11) hx hb dX0_canRead_13 (by decide) ?_
      refine lv_icmp_gt (tgt := 22) hx hb dX0_canRead_15 (by decide) (fun c6 => ?_) (fun c6 => ?_)
      · replace hf := oif c6 hf
        refine lv_iconst (v := 0) hx hb dX0_canRead_22 (by decide) ?_
        have er := Option.some.inj hf
        exact rtZ hx hb hr hS dX0_canRead_23 er (by decide) hlocks
      · replace hf := oel c6 hf
        refine lv_iconst (v := 1) hx hb dX0_canRead_18 (by decide) ?_
        refine lv_goto (tgt := 23) hx hb dX0_canRead_19 (by decide) ?_
        have er := Option.some.inj hf
        exact rtZ hx hb hr hS dX0_canRead_23 er (by decide) hlocks
  exact go s.heap [] hP hS
