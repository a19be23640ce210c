noncomputable def f_J6_compare_7cf53 (x0 : Int32) (x1 : Int32) : Option (Int32) := if x1 ≤ x0 then (if x0 = x1 then (some (0)) else (some (1))) else (some ((-1)))
set_option maxHeartbeats 4000000 in
set_option maxRecDepth 100000 in
theorem c_J6_compare_7cf53 (l : Launch) (D : va_G) (cI cJ cZ cQ : ClassId) (bs sz : Nat) (x0 : Int32) (x1 : Int32) (zr : Int32) (hf : f_J6_compare_7cf53 x0 x1 = some zr) : Met l yJ6_compare_7cf53 wsJ6_compare_7cf53 { frames := 0, cells := 0, slots := 0, locals := 0 } (va_Pc [.int x0, .int x1] (Pr D cI cJ cZ cQ bs sz [])) (QrI zr) 0 0 no := by
  refine stM (cc := cJ6_compare_7cf53) (maxL := 2) (ret := (some .int)) (by decide +kernel) rfl (Nat.le_of_ble_eq_true rfl) ?_
  intro p e s m args below meth c C0 hr hlocks hname hsz hP hDb hE ls hl
  have hAb : ∀ q, no q → bs ≤ q := fun _ h => h.elim
  obtain ⟨hx, hb, hml, hown, hts⟩ := id C0
  have hown : s.vm.findClass RJ6 = some m.cls := hown
  obtain ⟨hK, hNW, -, tw, hZ, hT⟩ := id hE
  have hl : lv_has ls 2 [(0, .int x0), (1, .int x1)] := hl
  have hS : va_S no s.heap s.heap [] := va_S.rf
  unfold f_J6_compare_7cf53 at hf
  have go : ∀ (H : Heap) (locs : List Loc), va_P D vwCl [] H → va_S no s.heap H locs → W p l e { frames := 0, cells := 0, slots := 0, locals := 0 } s m args below meth c H locs 0 0 (MQ below (QrI zr) args s 0 0 no) (F0 m 0 ls []) := by
    intro H locs hP hS
    refine lv_iload_n hx hb dJ6_compare_7cf53_0 rfl (lv_at hl 0 rfl) ?_
    refine lv_iload_n hx hb dJ6_compare_7cf53_1 rfl (lv_at hl 1 rfl) ?_
    refine lv_icmp_ge (tgt := 9) hx hb dJ6_compare_7cf53_2 (by decide) (fun c1 => ?_) (fun c1 => ?_)
    · replace hf := oif c1 hf
      refine lv_iload_n hx hb dJ6_compare_7cf53_9 rfl (lv_at hl 0 rfl) ?_
      refine lv_iload_n hx hb dJ6_compare_7cf53_10 rfl (lv_at hl 1 rfl) ?_
      refine lv_icmp_ne (tgt := 18) hx hb dJ6_compare_7cf53_11 (by decide) (fun c2 => ?_) (fun c2 => ?_)
      · replace hf := oel c2 hf
        refine lv_iconst (v := 1) hx hb dJ6_compare_7cf53_18 (by decide) ?_
        have er := Option.some.inj hf
        exact rtI hx hb hr hS dJ6_compare_7cf53_19 er hlocks
      · replace hf := oif c2 hf
        refine lv_iconst (v := 0) hx hb dJ6_compare_7cf53_14 (by decide) ?_
        refine lv_goto (tgt := 19) hx hb dJ6_compare_7cf53_15 (by decide) ?_
        have er := Option.some.inj hf
        exact rtI hx hb hr hS dJ6_compare_7cf53_19 er hlocks
    · replace hf := oel c1 hf
      refine lv_iconst (v := (-1)) hx hb dJ6_compare_7cf53_5 (by decide) ?_
      refine lv_goto (tgt := 19) hx hb dJ6_compare_7cf53_6 (by decide) ?_
      have er := Option.some.inj hf
      exact rtI hx hb hr hS dJ6_compare_7cf53_19 er hlocks
  exact go s.heap [] hP hS
noncomputable def f_J13_compare_74951 (x0 : Int64) (x2 : Int64) : Option (Int32) := if 0 ≤ (lg_cmp x0 x2) then (if (lg_cmp x0 x2) = 0 then (some (0)) else (some (1))) else (some ((-1)))
set_option maxHeartbeats 4000000 in
set_option maxRecDepth 100000 in
theorem c_J13_compare_74951 (l : Launch) (D : va_G) (cI cJ cZ cQ : ClassId) (bs sz : Nat) (x0 : Int64) (x2 : Int64) (zr : Int32) (hf : f_J13_compare_74951 x0 x2 = some zr) : Met l yJ13_compare_74951 wsJ13_compare_74951 { frames := 0, cells := 0, slots := 0, locals := 0 } (va_Pc [.long x0, .long x2] (Pr D cI cJ cZ cQ bs sz [])) (QrI zr) 0 0 no := by
  refine stM (cc := cJ13_compare_74951) (maxL := 4) (ret := (some .int)) (by decide +kernel) rfl (Nat.le_of_ble_eq_true rfl) ?_
  intro p e s m args below meth c C0 hr hlocks hname hsz hP hDb hE ls hl
  have hAb : ∀ q, no q → bs ≤ q := fun _ h => h.elim
  obtain ⟨hx, hb, hml, hown, hts⟩ := id C0
  have hown : s.vm.findClass RJ13 = some m.cls := hown
  obtain ⟨hK, hNW, -, tw, hZ, hT⟩ := id hE
  have hl : lv_has ls 4 [(0, .long x0), (2, .long x2)] := hl
  have hS : va_S no s.heap s.heap [] := va_S.rf
  unfold f_J13_compare_74951 at hf
  have go : ∀ (H : Heap) (locs : List Loc), va_P D vwCl [] H → va_S no s.heap H locs → W p l e { frames := 0, cells := 0, slots := 0, locals := 0 } s m args below meth c H locs 0 0 (MQ below (QrI zr) args s 0 0 no) (F0 m 0 ls []) := by
    intro H locs hP hS
    refine lv_lload_n hx hb dJ13_compare_74951_0 rfl (lv_at hl 0 rfl) ?_
    refine lv_lload_n hx hb dJ13_compare_74951_1 rfl (lv_at hl 1 rfl) ?_
    refine W.lcmp hx hb dJ13_compare_74951_2 ?_
    refine lv_if_ge (tgt := 10) hx hb dJ13_compare_74951_3 (by decide) (fun c1 => ?_) (fun c1 => ?_)
    · replace hf := oif c1 hf
      refine lv_lload_n hx hb dJ13_compare_74951_10 rfl (lv_at hl 0 rfl) ?_
      refine lv_lload_n hx hb dJ13_compare_74951_11 rfl (lv_at hl 1 rfl) ?_
      refine W.lcmp hx hb dJ13_compare_74951_12 ?_
      refine lv_if_ne (tgt := 20) hx hb dJ13_compare_74951_13 (by decide) (fun c2 => ?_) (fun c2 => ?_)
      · replace hf := oel c2 hf
        refine lv_iconst (v := 1) hx hb dJ13_compare_74951_20 (by decide) ?_
        have er := Option.some.inj hf
        exact rtI hx hb hr hS dJ13_compare_74951_21 er hlocks
      · replace hf := oif c2 hf
        refine lv_iconst (v := 0) hx hb dJ13_compare_74951_16 (by decide) ?_
        refine lv_goto (tgt := 21) hx hb dJ13_compare_74951_17 (by decide) ?_
        have er := Option.some.inj hf
        exact rtI hx hb hr hS dJ13_compare_74951_21 er hlocks
    · replace hf := oel c1 hf
      refine lv_iconst (v := (-1)) hx hb dJ13_compare_74951_6 (by decide) ?_
      refine lv_goto (tgt := 21) hx hb dJ13_compare_74951_7 (by decide) ?_
      have er := Option.some.inj hf
      exact rtI hx hb hr hS dJ13_compare_74951_21 er hlocks
  exact go s.heap [] hP hS
noncomputable def f_X0_compareValues (b_weights : Nat → Int32) (x1 : Int32) (x2 : Int64) (x4 : Int32) (x5 : Int64) : Option (Int32) := if x1 = x4 then (if x1 = 8 then ((f_X0_heft b_weights x2).bind (fun z4 => (f_X0_heft b_weights x5).bind (fun z5 => (f_J6_compare_7cf53 z4 z5).bind (fun z6 => some (z6))))) else ((f_J13_compare_74951 x2 x5).bind (fun z3 => some (z3)))) else (if x1 = 9 then (some ((-1))) else (if x4 = 9 then (some (1)) else ((f_J6_compare_7cf53 x1 x4).bind (fun z9 => some (z9)))))
set_option maxHeartbeats 4000000 in
set_option maxRecDepth 100000 in
theorem c_X0_compareValues (l : Launch) (D : va_G) (cI cJ cZ cQ : ClassId) (bs sz : Nat) (b : Nat → Nat) (b_keyCount : Int32) (b_sheetSet : Int32) (b_handSort : Int32) (b_handNumber : Int64) (b_weights : Nat → Int32) (x1 : Int32) (x2 : Int64) (x4 : Int32) (x5 : Int64) (zr : Int32) (hf : f_X0_compareValues b_weights x1 x2 x4 x5 = some zr) : Met l yX0_compareValues wsX0_compareValues { frames := 1, cells := 0, slots := 0, locals := 23 } (va_Pc [.ref (b 0), .int x1, .long x2, .int x4, .long x5] (Pr D cI cJ cZ cQ bs sz [oX0 b b_keyCount b_sheetSet b_handSort b_handNumber, aI cI (b 5) 8 b_weights])) (QrI zr) 0 0 no := by
  refine stM (cc := cX0_compareValues) (maxL := 7) (ret := (some .int)) (by decide +kernel) rfl (Nat.le_of_ble_eq_true rfl) ?_
  intro p e s m args below meth c C0 hr hlocks hname hsz hP hDb hE ls hl
  have hAb : ∀ q, no q → bs ≤ q := fun _ h => h.elim
  obtain ⟨hx, hb, hml, hown, hts⟩ := id C0
  have hown : s.vm.findClass RX0 = some m.cls := hown
  obtain ⟨hK, hNW, -, tw, hZ, hT⟩ := id hE
  have hl : lv_has ls 7 [(0, .ref (b 0)), (1, .int x1), (2, .long x2), (4, .int x4), (5, .long x5)] := hl
  have hS : va_S no s.heap s.heap [] := va_S.rf
  unfold f_X0_compareValues at hf
  have go : ∀ (H : Heap) (locs : List Loc), va_P D vwCl [oX0 b b_keyCount b_sheetSet b_handSort b_handNumber, aI cI (b 5) 8 b_weights] H → va_S no s.heap H locs → W p l e { frames := 1, cells := 0, slots := 0, locals := 23 } s m args below meth c H locs 0 0 (MQ below (QrI zr) args s 0 0 no) (F0 m 0 ls []) := by
    intro H locs hP hS
    refine lv_iload_n hx hb dX0_compareValues_0 rfl (lv_at hl 1 rfl) ?_
    refine lv_iload hx hb dX0_compareValues_1 (lv_at hl 3 rfl) ?_
    refine lv_icmp_eq (tgt := 32) hx hb dX0_compareValues_3 (by decide) (fun c1 => ?_) (fun c1 => ?_)
    · replace hf := oif c1 hf
      refine lv_iload_n hx hb dX0_compareValues_32 rfl (lv_at hl 1 rfl) ?_
      refine lv_bipush (v := 8) hx hb dX0_compareValues_33 (by decide) ?_
      refine lv_icmp_ne (tgt := 53) hx hb dX0_compareValues_35 (by decide) (fun c2 => ?_) (fun c2 => ?_)
      · replace hf := oel c2 hf
        refine lv_lload_n hx hb dX0_compareValues_53 rfl (lv_at hl 2 rfl) ?_
        refine lv_lload hx hb dX0_compareValues_54 (lv_at hl 4 rfl) ?_
        obtain ⟨z3, hz3, hf⟩ := obd hf
        refine kI (runS (As := [.long x2, .long x5]) (rest := []) C0 hE hAb hP (hDb.addr rfl) hS [] (wc := []) (by decide) rfl (c_J13_compare_74951 l D cI cJ cZ cQ bs H.size x2 x5 z3 hz3) (va_cwS 2 hts gX0_compareValues_J13_compare_74951 rfl rfl rfl (by decide +kernel) ⟨Nat.le_of_ble_eq_true rfl, Nat.le_of_ble_eq_true rfl⟩) rfl hl.1 rfl (Nat.le_of_ble_eq_true rfl) dX0_compareValues_56 ⟨Nat.le_of_ble_eq_true rfl, Nat.le_of_ble_eq_true rfl⟩) hS hP (fun H locs hP hS => ?_)
        have er := Option.some.inj hf
        exact rtI hx hb hr hS dX0_compareValues_59 er hlocks
      · replace hf := oif c2 hf
        refine lv_aload_n hx hb dX0_compareValues_38 rfl (lv_at hl 0 rfl) ?_
        refine lv_lload_n hx hb dX0_compareValues_39 rfl (lv_at hl 2 rfl) ?_
        obtain ⟨z4, hz4, hf⟩ := obd hf
        refine kI (runV (As := [.long x2]) (rest := []) C0 hE hAb hP (hDb.addr rfl) hS [0, 1] (wc := [oX0 b b_keyCount b_sheetSet b_handSort b_handNumber, aI cI (b 5) 8 b_weights]) (by decide) rfl 0 rfl rfl (c_X0_heft l D cI cJ cZ cQ bs H.size b b_keyCount b_sheetSet b_handSort b_handNumber b_weights x2 z4 hz4) (cwV 1 hts gX0_compareValues_X0_heft rfl rfl rfl (by decide +kernel) ⟨Nat.le_of_ble_eq_true rfl, Nat.le_of_ble_eq_true rfl⟩) rfl hl.1 rfl (Nat.le_of_ble_eq_true rfl) dX0_compareValues_40 ⟨Nat.le_of_ble_eq_true rfl, Nat.le_of_ble_eq_true rfl⟩) hS hP (fun H locs hP hS => ?_)
        refine lv_aload_n hx hb dX0_compareValues_43 rfl (lv_at hl 0 rfl) ?_
        refine lv_lload hx hb dX0_compareValues_44 (lv_at hl 4 rfl) ?_
        obtain ⟨z5, hz5, hf⟩ := obd hf
        refine kI (runV (As := [.long x5]) (rest := [.int z4]) C0 hE hAb hP (hDb.addr rfl) hS [0, 1] (wc := [oX0 b b_keyCount b_sheetSet b_handSort b_handNumber, aI cI (b 5) 8 b_weights]) (by decide) rfl 0 rfl rfl (c_X0_heft l D cI cJ cZ cQ bs H.size b b_keyCount b_sheetSet b_handSort b_handNumber b_weights x5 z5 hz5) (cwV 1 hts gX0_compareValues_X0_heft rfl rfl rfl (by decide +kernel) ⟨Nat.le_of_ble_eq_true rfl, Nat.le_of_ble_eq_true rfl⟩) rfl hl.1 rfl (Nat.le_of_ble_eq_true rfl) dX0_compareValues_46 ⟨Nat.le_of_ble_eq_true rfl, Nat.le_of_ble_eq_true rfl⟩) hS hP (fun H locs hP hS => ?_)
        obtain ⟨z6, hz6, hf⟩ := obd hf
        refine kI (runS (As := [.int z4, .int z5]) (rest := []) C0 hE hAb hP (hDb.addr rfl) hS [] (wc := []) (by decide) rfl (c_J6_compare_7cf53 l D cI cJ cZ cQ bs H.size z4 z5 z6 hz6) (va_cwS 2 hts gX0_compareValues_J6_compare_7cf53 rfl rfl rfl (by decide +kernel) ⟨Nat.le_of_ble_eq_true rfl, Nat.le_of_ble_eq_true rfl⟩) rfl hl.1 rfl (Nat.le_of_ble_eq_true rfl) dX0_compareValues_49 ⟨Nat.le_of_ble_eq_true rfl, Nat.le_of_ble_eq_true rfl⟩) hS hP (fun H locs hP hS => ?_)
        have er := Option.some.inj hf
        exact rtI hx hb hr hS dX0_compareValues_52 er hlocks
    · replace hf := oel c1 hf
      refine lv_iload_n hx hb dX0_compareValues_6 rfl (lv_at hl 1 rfl) ?_
      refine lv_bipush (v := 9) hx hb dX0_compareValues_7 (by decide) ?_
      refine lv_icmp_ne (tgt := 14) hx hb dX0_compareValues_9 (by decide) (fun c7 => ?_) (fun c7 => ?_)
      · replace hf := oel c7 hf
        refine lv_iload hx hb dX0_compareValues_14 (lv_at hl 3 rfl) ?_
        refine lv_bipush (v := 9) hx hb dX0_compareValues_16 (by decide) ?_
        refine lv_icmp_ne (tgt := 25) hx hb dX0_compareValues_18 (by decide) (fun c8 => ?_) (fun c8 => ?_)
        · replace hf := oel c8 hf
          refine lv_iload_n hx hb dX0_compareValues_25 rfl (lv_at hl 1 rfl) ?_
          refine lv_iload hx hb dX0_compareValues_26 (lv_at hl 3 rfl) ?_
          obtain ⟨z9, hz9, hf⟩ := obd hf
          refine kI (runS (As := [.int x1, .int x4]) (rest := []) C0 hE hAb hP (hDb.addr rfl) hS [] (wc := []) (by decide) rfl (c_J6_compare_7cf53 l D cI cJ cZ cQ bs H.size x1 x4 z9 hz9) (va_cwS 2 hts gX0_compareValues_J6_compare_7cf53 rfl rfl rfl (by decide +kernel) ⟨Nat.le_of_ble_eq_true rfl, Nat.le_of_ble_eq_true rfl⟩) rfl hl.1 rfl (Nat.le_of_ble_eq_true rfl) dX0_compareValues_28 ⟨Nat.le_of_ble_eq_true rfl, Nat.le_of_ble_eq_true rfl⟩) hS hP (fun H locs hP hS => ?_)
          have er := Option.some.inj hf
          exact rtI hx hb hr hS dX0_compareValues_31 er hlocks
        · replace hf := oif c8 hf
          refine lv_iconst (v := 1) hx hb dX0_compareValues_21 (by decide) ?_
          refine lv_goto (tgt := 31) hx hb dX0_compareValues_22 (by decide) ?_
          have er := Option.some.inj hf
          exact rtI hx hb hr hS dX0_compareValues_31 er hlocks
      · replace hf := oif c7 hf
        refine lv_iconst (v := (-1)) hx hb dX0_compareValues_12 (by decide) ?_
        have er := Option.some.inj hf
        exact rtI hx hb hr hS dX0_compareValues_13 er hlocks
  exact go s.heap [] hP hS
noncomputable def f_X0_compareCells (b_sorts : Nat → Int32) (b_numbers : Nat → Int64) (b_weights : Nat → Int32) (x1 : Int32) (x2 : Int32) (x3 : Int32) (x4 : Int32) : Option (Int32) := if x2 = 8 then ((f_X0_sortAt b_sorts x1 x3).bind (fun z7 => (f_X0_numberAt b_numbers x1 x3).bind (fun z8 => (f_X0_sortAt b_sorts x1 x4).bind (fun z9 => (f_X0_numberAt b_numbers x1 x4).bind (fun z10 => (f_X0_compareValues b_weights z7 z8 z9 z10).bind (fun z11 => some (z11))))))) else ((f_X0_numberAt b_numbers x1 x3).bind (fun z2 => (f_X5_made x2 z2).bind (fun z3 => (f_X0_numberAt b_numbers x1 x4).bind (fun z4 => (f_X5_made x2 z4).bind (fun z5 => (f_J13_compare_74951 z3 z5).bind (fun z6 => some (z6)))))))
set_option maxHeartbeats 4000000 in
set_option maxRecDepth 100000 in
theorem c_X0_compareCells (l : Launch) (D : va_G) (cI cJ cZ cQ : ClassId) (bs sz : Nat) (b : Nat → Nat) (b_keyCount : Int32) (b_sheetSet : Int32) (b_handSort : Int32) (b_handNumber : Int64) (b_sorts : Nat → Int32) (b_numbers : Nat → Int64) (b_weights : Nat → Int32) (x1 : Int32) (x2 : Int32) (x3 : Int32) (x4 : Int32) (zr : Int32) (hf : f_X0_compareCells b_sorts b_numbers b_weights x1 x2 x3 x4 = some zr) : Met l yX0_compareCells wsX0_compareCells { frames := 2, cells := 0, slots := 0, locals := 49 } (va_Pc [.ref (b 0), .int x1, .int x2, .int x3, .int x4] (Pr D cI cJ cZ cQ bs sz [oX0 b b_keyCount b_sheetSet b_handSort b_handNumber, aI cI (b 3) 72 b_sorts, aJ cJ (b 4) 72 b_numbers, aI cI (b 5) 8 b_weights])) (QrI zr) 0 0 no := by
  refine stM (cc := cX0_compareCells) (maxL := 5) (ret := (some .int)) (by decide +kernel) rfl (Nat.le_of_ble_eq_true rfl) ?_
  intro p e s m args below meth c C0 hr hlocks hname hsz hP hDb hE ls hl
  have hAb : ∀ q, no q → bs ≤ q := fun _ h => h.elim
  obtain ⟨hx, hb, hml, hown, hts⟩ := id C0
  have hown : s.vm.findClass RX0 = some m.cls := hown
  obtain ⟨hK, hNW, -, tw, hZ, hT⟩ := id hE
  have hl : lv_has ls 5 [(0, .ref (b 0)), (1, .int x1), (2, .int x2), (3, .int x3), (4, .int x4)] := hl
  have hS : va_S no s.heap s.heap [] := va_S.rf
  have gn99 := hNW (.methodLinkNest RX0 99 yX5_made RX5) (by decide +kernel)
  have giRX5 := hts (.initialized RX5) (by decide +kernel)
  have gsX5_made := hts (.static yX5_made) (by decide +kernel)
  unfold f_X0_compareCells at hf
  have go : ∀ (H : Heap) (locs : List Loc), va_P D vwCl [oX0 b b_keyCount b_sheetSet b_handSort b_handNumber, aI cI (b 3) 72 b_sorts, aJ cJ (b 4) 72 b_numbers, aI cI (b 5) 8 b_weights] H → va_S no s.heap H locs → W p l e { frames := 2, cells := 0, slots := 0, locals := 49 } s m args below meth c H locs 0 0 (MQ below (QrI zr) args s 0 0 no) (F0 m 0 ls []) := by
    intro H locs hP hS
    refine lv_iload_n hx hb dX0_compareCells_0 rfl (lv_at hl 2 rfl) ?_
    refine lv_bipush (v := 8) hx hb dX0_compareCells_1 (by decide) ?_
    refine lv_icmp_ne (tgt := 37) hx hb dX0_compareCells_3 (by decide) (fun c1 => ?_) (fun c1 => ?_)
    · replace hf := oel c1 hf
      refine lv_iload_n hx hb dX0_compareCells_37 rfl (lv_at hl 2 rfl) ?_
      refine lv_aload_n hx hb dX0_compareCells_38 rfl (lv_at hl 0 rfl) ?_
      refine lv_iload_n hx hb dX0_compareCells_39 rfl (lv_at hl 1 rfl) ?_
      refine lv_iload_n hx hb dX0_compareCells_40 rfl (lv_at hl 3 rfl) ?_
      obtain ⟨z2, hz2, hf⟩ := obd hf
      refine kJ (runV (As := [.int x1, .int x3]) (rest := [.int x2]) C0 hE hAb hP (hDb.addr rfl) hS [0, 2] (wc := [oX0 b b_keyCount b_sheetSet b_handSort b_handNumber, aJ cJ (b 4) 72 b_numbers]) (by decide) rfl 0 rfl rfl (c_X0_numberAt l D cI cJ cZ cQ bs H.size b b_keyCount b_sheetSet b_handSort b_handNumber b_numbers x1 x3 z2 hz2) (cwV 2 hts gX0_compareCells_X0_numberAt rfl rfl rfl (by decide +kernel) ⟨Nat.le_of_ble_eq_true rfl, Nat.le_of_ble_eq_true rfl⟩) rfl hl.1 rfl (Nat.le_of_ble_eq_true rfl) dX0_compareCells_41 ⟨Nat.le_of_ble_eq_true rfl, Nat.le_of_ble_eq_true rfl⟩) hS hP (fun H locs hP hS => ?_)
      obtain ⟨z3, hz3, hf⟩ := obd hf
      refine kJ (runSN (As := [.int x2, .long z2]) (rest := []) C0 hE hAb hP (hDb.addr rfl) hS [] (wc := []) (by decide) rfl (c_X5_made l D cI cJ cZ cQ bs H.size x2 z2 z3 hz3) (va_cnB 2 hts ggX0_compareCells_X5_made rfl rfl rfl gn99 giRX5 (by decide +kernel) ⟨Nat.le_of_ble_eq_true rfl, Nat.le_of_ble_eq_true rfl⟩) gsX5_made rfl hl.1 rfl (Nat.le_of_ble_eq_true rfl) dX0_compareCells_44 ⟨Nat.le_of_ble_eq_true rfl, Nat.le_of_ble_eq_true rfl⟩) hS hP (fun H locs hP hS => ?_)
      refine lv_iload_n hx hb dX0_compareCells_47 rfl (lv_at hl 2 rfl) ?_
      refine lv_aload_n hx hb dX0_compareCells_48 rfl (lv_at hl 0 rfl) ?_
      refine lv_iload_n hx hb dX0_compareCells_49 rfl (lv_at hl 1 rfl) ?_
      refine lv_iload hx hb dX0_compareCells_50 (lv_at hl 4 rfl) ?_
      obtain ⟨z4, hz4, hf⟩ := obd hf
      refine kJ (runV (As := [.int x1, .int x4]) (rest := [.int x2, .long z3]) C0 hE hAb hP (hDb.addr rfl) hS [0, 2] (wc := [oX0 b b_keyCount b_sheetSet b_handSort b_handNumber, aJ cJ (b 4) 72 b_numbers]) (by decide) rfl 0 rfl rfl (c_X0_numberAt l D cI cJ cZ cQ bs H.size b b_keyCount b_sheetSet b_handSort b_handNumber b_numbers x1 x4 z4 hz4) (cwV 2 hts gX0_compareCells_X0_numberAt rfl rfl rfl (by decide +kernel) ⟨Nat.le_of_ble_eq_true rfl, Nat.le_of_ble_eq_true rfl⟩) rfl hl.1 rfl (Nat.le_of_ble_eq_true rfl) dX0_compareCells_52 ⟨Nat.le_of_ble_eq_true rfl, Nat.le_of_ble_eq_true rfl⟩) hS hP (fun H locs hP hS => ?_)
      obtain ⟨z5, hz5, hf⟩ := obd hf
      refine kJ (runSN (As := [.int x2, .long z4]) (rest := [.long z3]) C0 hE hAb hP (hDb.addr rfl) hS [] (wc := []) (by decide) rfl (c_X5_made l D cI cJ cZ cQ bs H.size x2 z4 z5 hz5) (va_cnB 2 hts ggX0_compareCells_X5_made rfl rfl rfl gn99 giRX5 (by decide +kernel) ⟨Nat.le_of_ble_eq_true rfl, Nat.le_of_ble_eq_true rfl⟩) gsX5_made rfl hl.1 rfl (Nat.le_of_ble_eq_true rfl) dX0_compareCells_55 ⟨Nat.le_of_ble_eq_true rfl, Nat.le_of_ble_eq_true rfl⟩) hS hP (fun H locs hP hS => ?_)
      obtain ⟨z6, hz6, hf⟩ := obd hf
      refine kI (runS (As := [.long z3, .long z5]) (rest := []) C0 hE hAb hP (hDb.addr rfl) hS [] (wc := []) (by decide) rfl (c_J13_compare_74951 l D cI cJ cZ cQ bs H.size z3 z5 z6 hz6) (va_cwS 2 hts gX0_compareCells_J13_compare_74951 rfl rfl rfl (by decide +kernel) ⟨Nat.le_of_ble_eq_true rfl, Nat.le_of_ble_eq_true rfl⟩) rfl hl.1 rfl (Nat.le_of_ble_eq_true rfl) dX0_compareCells_58 ⟨Nat.le_of_ble_eq_true rfl, Nat.le_of_ble_eq_true rfl⟩) hS hP (fun H locs hP hS => ?_)
      have er := Option.some.inj hf
      exact rtI hx hb hr hS dX0_compareCells_61 er hlocks
    · replace hf := oif c1 hf
      refine lv_aload_n hx hb dX0_compareCells_6 rfl (lv_at hl 0 rfl) ?_
      refine lv_aload_n hx hb dX0_compareCells_7 rfl (lv_at hl 0 rfl) ?_
      refine lv_iload_n hx hb dX0_compareCells_8 rfl (lv_at hl 1 rfl) ?_
      refine lv_iload_n hx hb dX0_compareCells_9 rfl (lv_at hl 3 rfl) ?_
      obtain ⟨z7, hz7, hf⟩ := obd hf
      refine kI (runV (As := [.int x1, .int x3]) (rest := [.ref (b 0)]) C0 hE hAb hP (hDb.addr rfl) hS [0, 1] (wc := [oX0 b b_keyCount b_sheetSet b_handSort b_handNumber, aI cI (b 3) 72 b_sorts]) (by decide) rfl 0 rfl rfl (c_X0_sortAt l D cI cJ cZ cQ bs H.size b b_keyCount b_sheetSet b_handSort b_handNumber b_sorts x1 x3 z7 hz7) (cwV 2 hts gX0_compareCells_X0_sortAt rfl rfl rfl (by decide +kernel) ⟨Nat.le_of_ble_eq_true rfl, Nat.le_of_ble_eq_true rfl⟩) rfl hl.1 rfl (Nat.le_of_ble_eq_true rfl) dX0_compareCells_10 ⟨Nat.le_of_ble_eq_true rfl, Nat.le_of_ble_eq_true rfl⟩) hS hP (fun H locs hP hS => ?_)
      refine lv_aload_n hx hb dX0_compareCells_13 rfl (lv_at hl 0 rfl) ?_
      refine lv_iload_n hx hb dX0_compareCells_14 rfl (lv_at hl 1 rfl) ?_
      refine lv_iload_n hx hb dX0_compareCells_15 rfl (lv_at hl 3 rfl) ?_
      obtain ⟨z8, hz8, hf⟩ := obd hf
      refine kJ (runV (As := [.int x1, .int x3]) (rest := [.int z7, .ref (b 0)]) C0 hE hAb hP (hDb.addr rfl) hS [0, 2] (wc := [oX0 b b_keyCount b_sheetSet b_handSort b_handNumber, aJ cJ (b 4) 72 b_numbers]) (by decide) rfl 0 rfl rfl (c_X0_numberAt l D cI cJ cZ cQ bs H.size b b_keyCount b_sheetSet b_handSort b_handNumber b_numbers x1 x3 z8 hz8) (cwV 2 hts gX0_compareCells_X0_numberAt rfl rfl rfl (by decide +kernel) ⟨Nat.le_of_ble_eq_true rfl, Nat.le_of_ble_eq_true rfl⟩) rfl hl.1 rfl (Nat.le_of_ble_eq_true rfl) dX0_compareCells_16 ⟨Nat.le_of_ble_eq_true rfl, Nat.le_of_ble_eq_true rfl⟩) hS hP (fun H locs hP hS => ?_)
      refine lv_aload_n hx hb dX0_compareCells_19 rfl (lv_at hl 0 rfl) ?_
      refine lv_iload_n hx hb dX0_compareCells_20 rfl (lv_at hl 1 rfl) ?_
      refine lv_iload hx hb dX0_compareCells_21 (lv_at hl 4 rfl) ?_
      obtain ⟨z9, hz9, hf⟩ := obd hf
      refine kI (runV (As := [.int x1, .int x4]) (rest := [.long z8, .int z7, .ref (b 0)]) C0 hE hAb hP (hDb.addr rfl) hS [0, 1] (wc := [oX0 b b_keyCount b_sheetSet b_handSort b_handNumber, aI cI (b 3) 72 b_sorts]) (by decide) rfl 0 rfl rfl (c_X0_sortAt l D cI cJ cZ cQ bs H.size b b_keyCount b_sheetSet b_handSort b_handNumber b_sorts x1 x4 z9 hz9) (cwV 2 hts gX0_compareCells_X0_sortAt rfl rfl rfl (by decide +kernel) ⟨Nat.le_of_ble_eq_true rfl, Nat.le_of_ble_eq_true rfl⟩) rfl hl.1 rfl (Nat.le_of_ble_eq_true rfl) dX0_compareCells_23 ⟨Nat.le_of_ble_eq_true rfl, Nat.le_of_ble_eq_true rfl⟩) hS hP (fun H locs hP hS => ?_)
      refine lv_aload_n hx hb dX0_compareCells_26 rfl (lv_at hl 0 rfl) ?_
      refine lv_iload_n hx hb dX0_compareCells_27 rfl (lv_at hl 1 rfl) ?_
      refine lv_iload hx hb dX0_compareCells_28 (lv_at hl 4 rfl) ?_
      obtain ⟨z10, hz10, hf⟩ := obd hf
      refine kJ (runV (As := [.int x1, .int x4]) (rest := [.int z9, .long z8, .int z7, .ref (b 0)]) C0 hE hAb hP (hDb.addr rfl) hS [0, 2] (wc := [oX0 b b_keyCount b_sheetSet b_handSort b_handNumber, aJ cJ (b 4) 72 b_numbers]) (by decide) rfl 0 rfl rfl (c_X0_numberAt l D cI cJ cZ cQ bs H.size b b_keyCount b_sheetSet b_handSort b_handNumber b_numbers x1 x4 z10 hz10) (cwV 2 hts gX0_compareCells_X0_numberAt rfl rfl rfl (by decide +kernel) ⟨Nat.le_of_ble_eq_true rfl, Nat.le_of_ble_eq_true rfl⟩) rfl hl.1 rfl (Nat.le_of_ble_eq_true rfl) dX0_compareCells_30 ⟨Nat.le_of_ble_eq_true rfl, Nat.le_of_ble_eq_true rfl⟩) hS hP (fun H locs hP hS => ?_)
      obtain ⟨z11, hz11, hf⟩ := obd hf
      refine kI (runV (As := [.int z7, .long z8, .int z9, .long z10]) (rest := []) C0 hE hAb hP (hDb.addr rfl) hS [0, 3] (wc := [oX0 b b_keyCount b_sheetSet b_handSort b_handNumber, aI cI (b 5) 8 b_weights]) (by decide) rfl 0 rfl rfl (c_X0_compareValues l D cI cJ cZ cQ bs H.size b b_keyCount b_sheetSet b_handSort b_handNumber b_weights z7 z8 z9 z10 z11 hz11) (cwV 4 hts gX0_compareCells_X0_compareValues rfl rfl rfl (by decide +kernel) ⟨Nat.le_of_ble_eq_true rfl, Nat.le_of_ble_eq_true rfl⟩) rfl hl.1 rfl (Nat.le_of_ble_eq_true rfl) dX0_compareCells_33 ⟨Nat.le_of_ble_eq_true rfl, Nat.le_of_ble_eq_true rfl⟩) hS hP (fun H locs hP hS => ?_)
      have er := Option.some.inj hf
      exact rtI hx hb hr hS dX0_compareCells_36 er hlocks
  exact go s.heap [] hP hS
noncomputable def L_X0_comparePlaces_3 (b_sorts : Nat → Int32) (b_numbers : Nat → Int64) (b_weights : Nat → Int32) (b_keySlots : Nat → Int32) (b_keyBys : Nat → Int32) (b_keyWays : Nat → Int32) (b_keyCount : Int32) (v1 : Int32) (v2 : Int32) (v3 : Int32) : Nat → Int32 → Option ((Unit) ⊕ (Int32))
  | 0, _ => none
  | n + 1, v4 => if b_keyCount ≤ v4 then (some (.inl (()))) else (if ((v3 >>> (v4 &&& 31)) &&& 1) = 1 then ((f_X0_keySlot b_keySlots v4).bind (fun z4 => (f_X0_keyBy b_keyBys v4).bind (fun z5 => (f_X0_compareCells b_sorts b_numbers b_weights z4 z5 v1 v2).bind (fun z6 => if z6 = 0 then ((some (v4 + 1 : Int32)).bind (fun y8 => L_X0_comparePlaces_3 b_sorts b_numbers b_weights b_keySlots b_keyBys b_keyWays b_keyCount v1 v2 v3 n y8)) else ((f_X0_keyWay b_keyWays v4).bind (fun z9 => if z9 = 0 then (some (.inr (z6))) else (some (.inr ((-z6)))))))))) else ((some (v4 + 1 : Int32)).bind (fun y3 => L_X0_comparePlaces_3 b_sorts b_numbers b_weights b_keySlots b_keyBys b_keyWays b_keyCount v1 v2 v3 n y3)))
noncomputable def f_X0_comparePlaces (b_sorts : Nat → Int32) (b_numbers : Nat → Int64) (b_weights : Nat → Int32) (b_keySlots : Nat → Int32) (b_keyBys : Nat → Int32) (b_keyWays : Nat → Int32) (b_keyCount : Int32) (x1 : Int32) (x2 : Int32) (x3 : Int32) : Option (Int32) := (L_X0_comparePlaces_3 b_sorts b_numbers b_weights b_keySlots b_keyBys b_keyWays b_keyCount x1 x2 x3 4000 0).bind (fun z11 => Sum.elim (fun e12 => some (0)) (fun r9 => some (r9)) z11)
set_option maxHeartbeats 4000000 in
set_option maxRecDepth 100000 in
theorem c_X0_comparePlaces (l : Launch) (D : va_G) (cI cJ cZ cQ : ClassId) (bs sz : Nat) (b : Nat → Nat) (b_keyCount : Int32) (b_sheetSet : Int32) (b_handSort : Int32) (b_handNumber : Int64) (b_sorts : Nat → Int32) (b_numbers : Nat → Int64) (b_weights : Nat → Int32) (b_keySlots : Nat → Int32) (b_keyBys : Nat → Int32) (b_keyWays : Nat → Int32) (x1 : Int32) (x2 : Int32) (x3 : Int32) (zr : Int32) (hf : f_X0_comparePlaces b_sorts b_numbers b_weights b_keySlots b_keyBys b_keyWays b_keyCount x1 x2 x3 = some zr) : Met l yX0_comparePlaces wsX0_comparePlaces { frames := 3, cells := 0, slots := 0, locals := 73 } (va_Pc [.ref (b 0), .int x1, .int x2, .int x3] (Pr D cI cJ cZ cQ bs sz [oX0 b b_keyCount b_sheetSet b_handSort b_handNumber, aI cI (b 3) 72 b_sorts, aJ cJ (b 4) 72 b_numbers, aI cI (b 5) 8 b_weights, aI cI (b 6) 4 b_keySlots, aI cI (b 7) 4 b_keyBys, aI cI (b 8) 4 b_keyWays])) (QrI zr) 0 0 no := by
  refine stM (cc := cX0_comparePlaces) (maxL := 6) (ret := (some .int)) (by decide +kernel) rfl (Nat.le_of_ble_eq_true rfl) ?_
  intro p e s m args below meth c C0 hr hlocks hname hsz hP hDb hE ls hl
  have hAb : ∀ q, no q → bs ≤ q := fun _ h => h.elim
  obtain ⟨hx, hb, hml, hown, hts⟩ := id C0
  have hown : s.vm.findClass RX0 = some m.cls := hown
  obtain ⟨hK, hNW, -, tw, hZ, hT⟩ := id hE
  have hl : lv_has ls 6 [(0, .ref (b 0)), (1, .int x1), (2, .int x2), (3, .int x3)] := hl
  have hS : va_S no s.heap s.heap [] := va_S.rf
  have hI_X0 := (show ∀ w ∈ wsX00, w ∈ wsX0_comparePlaces by decide +kernel)
  have gf47 := hts (.fieldLink RX0 47 "RowRanks$Bench" "keyCount" "I") (by decide +kernel)
  have W3 : ∀ (n : Nat) (v1 : Int32) (v2 : Int32) (v3 : Int32) (v4 : Int32) (H : Heap) (locs : List Loc) (ls : Array Slot) (z : (Unit) ⊕ (Int32)), va_P D vwCl [oX0 b b_keyCount b_sheetSet b_handSort b_handNumber, aI cI (b 3) 72 b_sorts, aJ cJ (b 4) 72 b_numbers, aI cI (b 5) 8 b_weights, aI cI (b 6) 4 b_keySlots, aI cI (b 7) 4 b_keyBys, aI cI (b 8) 4 b_keyWays] H → va_S no s.heap H locs → lv_has ls 6 [(0, .ref (b 0)), (1, .int v1), (2, .int v2), (3, .int v3), (4, .int v4)] → L_X0_comparePlaces_3 b_sorts b_numbers b_weights b_keySlots b_keyBys b_keyWays b_keyCount v1 v2 v3 n v4 = some z → (∀ e9, z = Sum.inl e9 → ∀ (H : Heap) (locs : List Loc) (ls : Array Slot), va_P D vwCl [oX0 b b_keyCount b_sheetSet b_handSort b_handNumber, aI cI (b 3) 72 b_sorts, aJ cJ (b 4) 72 b_numbers, aI cI (b 5) 8 b_weights, aI cI (b 6) 4 b_keySlots, aI cI (b 7) 4 b_keyBys, aI cI (b 8) 4 b_keyWays] H → va_S no s.heap H locs → lv_has ls 6 [] → W p l e { frames := 3, cells := 0, slots := 0, locals := 73 } s m args below meth c H locs 0 0 (MQ below (QrI zr) args s 0 0 no) (F0 m 71 ls [])) → (∀ r9, z = Sum.inr r9 → r9 = zr) → W p l e { frames := 3, cells := 0, slots := 0, locals := 73 } s m args below meth c H locs 0 0 (MQ below (QrI zr) args s 0 0 no) (F0 m 3 ls []) := by
    intro n
    induction n with
    | zero =>
      intro v1 v2 v3 v4 H locs ls z hP hS hl hf
      exact absurd (show (none : Option ((Unit) ⊕ (Int32))) = some z from hf) (fun h => by cases h)
    | succ n ih =>
      intro v1 v2 v3 v4 H locs ls z hP hS hl hf K K2
      rw [L_X0_comparePlaces_3] at hf
      refine lv_iload hx hb dX0_comparePlaces_3 (lv_at hl 4 rfl) ?_
      refine lv_aload_n hx hb dX0_comparePlaces_5 rfl (lv_at hl 0 rfl) ?_
      refine va_get (D := D) (ci := 0) (v := .int b_keyCount) (C := RX0) (T := TX0) (N := 12) hx hb hts hI_X0 hown hK hP 0 rfl rfl 8 (by decide) gf47 (fun _ h9 => h9) rfl dX0_comparePlaces_6 ?_
      refine lv_icmp_ge (tgt := 71) hx hb dX0_comparePlaces_9 (by decide) (fun c1 => ?_) (fun c1 => ?_)
      · replace hf := oif c1 hf
        exact K _ (Option.some.inj hf).symm H locs ls hP hS (lv_sub hl [] rfl)
      · replace hf := oel c1 hf
        refine lv_iload_n hx hb dX0_comparePlaces_12 rfl (lv_at hl 3 rfl) ?_
        refine lv_iload hx hb dX0_comparePlaces_13 (lv_at hl 4 rfl) ?_
        refine lv_ishr hx hb dX0_comparePlaces_15 ?_
        refine lv_iconst (v := 1) hx hb dX0_comparePlaces_16 (by decide) ?_
        refine lv_iand hx hb dX0_comparePlaces_17 ?_
        refine lv_iconst (v := 1) hx hb dX0_comparePlaces_18 (by decide) ?_
        refine lv_icmp_ne (tgt := 65) hx hb dX0_comparePlaces_19 (by decide) (fun c2 => ?_) (fun c2 => ?_)
        · replace hf := oel c2 hf
          obtain ⟨y3, ey3⟩ : ∃ y : Int32, y = v4 + 1 := ⟨_, rfl⟩
          replace hf := onm ey3 hf
          refine lv_iinc (v := y3) (lv' := [(4, .int y3), (0, .ref (b 0)), (1, .int v1), (2, .int v2), (3, .int v3)]) hx hb dX0_comparePlaces_65 hl (k := 4) rfl (by rw [ey3]; rfl) (by decide) rfl (fun ls hl => ?_)
          refine lv_goto (tgt := 3) hx hb dX0_comparePlaces_68 (by decide) ?_
          exact ih v1 v2 v3 y3 H locs ls z hP hS (lv_sub hl [1, 2, 3, 4, 0] rfl) hf K K2
        · replace hf := oif c2 hf
          refine lv_aload_n hx hb dX0_comparePlaces_22 rfl (lv_at hl 0 rfl) ?_
          refine lv_aload_n hx hb dX0_comparePlaces_23 rfl (lv_at hl 0 rfl) ?_
          refine lv_iload hx hb dX0_comparePlaces_24 (lv_at hl 4 rfl) ?_
          obtain ⟨z4, hz4, hf⟩ := obd hf
          refine kI (runV (As := [.int v4]) (rest := [.ref (b 0)]) C0 hE hAb hP (hDb.addr rfl) hS [0, 4] (wc := [oX0 b b_keyCount b_sheetSet b_handSort b_handNumber, aI cI (b 6) 4 b_keySlots]) (by decide) rfl 0 rfl rfl (c_X0_keySlot l D cI cJ cZ cQ bs H.size b b_keyCount b_sheetSet b_handSort b_handNumber b_keySlots v4 z4 hz4) (cwV 1 hts gX0_comparePlaces_X0_keySlot rfl rfl rfl (by decide +kernel) ⟨Nat.le_of_ble_eq_true rfl, Nat.le_of_ble_eq_true rfl⟩) rfl hl.1 rfl (Nat.le_of_ble_eq_true rfl) dX0_comparePlaces_26 ⟨Nat.le_of_ble_eq_true rfl, Nat.le_of_ble_eq_true rfl⟩) hS hP (fun H locs hP hS => ?_)
          refine lv_aload_n hx hb dX0_comparePlaces_29 rfl (lv_at hl 0 rfl) ?_
          refine lv_iload hx hb dX0_comparePlaces_30 (lv_at hl 4 rfl) ?_
          obtain ⟨z5, hz5, hf⟩ := obd hf
          refine kI (runV (As := [.int v4]) (rest := [.int z4, .ref (b 0)]) C0 hE hAb hP (hDb.addr rfl) hS [0, 5] (wc := [oX0 b b_keyCount b_sheetSet b_handSort b_handNumber, aI cI (b 7) 4 b_keyBys]) (by decide) rfl 0 rfl rfl (c_X0_keyBy l D cI cJ cZ cQ bs H.size b b_keyCount b_sheetSet b_handSort b_handNumber b_keyBys v4 z5 hz5) (cwV 1 hts gX0_comparePlaces_X0_keyBy rfl rfl rfl (by decide +kernel) ⟨Nat.le_of_ble_eq_true rfl, Nat.le_of_ble_eq_true rfl⟩) rfl hl.1 rfl (Nat.le_of_ble_eq_true rfl) dX0_comparePlaces_32 ⟨Nat.le_of_ble_eq_true rfl, Nat.le_of_ble_eq_true rfl⟩) hS hP (fun H locs hP hS => ?_)
          refine lv_iload_n hx hb dX0_comparePlaces_35 rfl (lv_at hl 1 rfl) ?_
          refine lv_iload_n hx hb dX0_comparePlaces_36 rfl (lv_at hl 2 rfl) ?_
          obtain ⟨z6, hz6, hf⟩ := obd hf
          refine kI (runV (As := [.int z4, .int z5, .int v1, .int v2]) (rest := []) C0 hE hAb hP (hDb.addr rfl) hS [0, 1, 2, 3] (wc := [oX0 b b_keyCount b_sheetSet b_handSort b_handNumber, aI cI (b 3) 72 b_sorts, aJ cJ (b 4) 72 b_numbers, aI cI (b 5) 8 b_weights]) (by decide) rfl 0 rfl rfl (c_X0_compareCells l D cI cJ cZ cQ bs H.size b b_keyCount b_sheetSet b_handSort b_handNumber b_sorts b_numbers b_weights z4 z5 v1 v2 z6 hz6) (cwV 4 hts gX0_comparePlaces_X0_compareCells rfl rfl rfl (by decide +kernel) ⟨Nat.le_of_ble_eq_true rfl, Nat.le_of_ble_eq_true rfl⟩) rfl hl.1 rfl (Nat.le_of_ble_eq_true rfl) dX0_comparePlaces_37 ⟨Nat.le_of_ble_eq_true rfl, Nat.le_of_ble_eq_true rfl⟩) hS hP (fun H locs hP hS => ?_)
          refine lv_istore (lv' := [(5, .int z6), (0, .ref (b 0)), (1, .int v1), (2, .int v2), (3, .int v3), (4, .int v4)]) hx hb dX0_comparePlaces_40 hl (by decide) rfl (fun ls hl => ?_)
          refine lv_iload hx hb dX0_comparePlaces_42 (lv_at hl 0 rfl) ?_
          refine lv_if_eq (tgt := 65) hx hb dX0_comparePlaces_44 (by decide) (fun c7 => ?_) (fun c7 => ?_)
          · replace hf := oif c7 hf
            obtain ⟨y8, ey8⟩ : ∃ y : Int32, y = v4 + 1 := ⟨_, rfl⟩
            replace hf := onm ey8 hf
            refine lv_iinc (v := y8) (lv' := [(4, .int y8), (5, .int z6), (0, .ref (b 0)), (1, .int v1), (2, .int v2), (3, .int v3)]) hx hb dX0_comparePlaces_65 hl (k := 5) rfl (by rw [ey8]; rfl) (by decide) rfl (fun ls hl => ?_)
            refine lv_goto (tgt := 3) hx hb dX0_comparePlaces_68 (by decide) ?_
            exact ih v1 v2 v3 y8 H locs ls z hP hS (lv_sub hl [2, 3, 4, 5, 0] rfl) hf K K2
          · replace hf := oel c7 hf
            refine lv_aload_n hx hb dX0_comparePlaces_47 rfl (lv_at hl 1 rfl) ?_
            refine lv_iload hx hb dX0_comparePlaces_48 (lv_at hl 5 rfl) ?_
            obtain ⟨z9, hz9, hf⟩ := obd hf
            refine kI (runV (As := [.int v4]) (rest := []) C0 hE hAb hP (hDb.addr rfl) hS [0, 6] (wc := [oX0 b b_keyCount b_sheetSet b_handSort b_handNumber, aI cI (b 8) 4 b_keyWays]) (by decide) rfl 0 rfl rfl (c_X0_keyWay l D cI cJ cZ cQ bs H.size b b_keyCount b_sheetSet b_handSort b_handNumber b_keyWays v4 z9 hz9) (cwV 1 hts gX0_comparePlaces_X0_keyWay rfl rfl rfl (by decide +kernel) ⟨Nat.le_of_ble_eq_true rfl, Nat.le_of_ble_eq_true rfl⟩) rfl hl.1 rfl (Nat.le_of_ble_eq_true rfl) dX0_comparePlaces_50 ⟨Nat.le_of_ble_eq_true rfl, Nat.le_of_ble_eq_true rfl⟩) hS hP (fun H locs hP hS => ?_)
            refine lv_if_ne (tgt := 61) hx hb dX0_comparePlaces_53 (by decide) (fun c10 => ?_) (fun c10 => ?_)
            · replace hf := oel c10 hf
              refine lv_iload hx hb dX0_comparePlaces_61 (lv_at hl 0 rfl) ?_
              refine lv_ineg hx hb dX0_comparePlaces_63 ?_
              have er := K2 _ (Option.some.inj hf).symm
              exact rtI hx hb hr hS dX0_comparePlaces_64 er hlocks
            · replace hf := oif c10 hf
              refine lv_iload hx hb dX0_comparePlaces_56 (lv_at hl 0 rfl) ?_
              refine lv_goto (tgt := 64) hx hb dX0_comparePlaces_58 (by decide) ?_
              have er := K2 _ (Option.some.inj hf).symm
              exact rtI hx hb hr hS dX0_comparePlaces_64 er hlocks
  unfold f_X0_comparePlaces at hf
  have go : ∀ (H : Heap) (locs : List Loc), va_P D vwCl [oX0 b b_keyCount b_sheetSet b_handSort b_handNumber, aI cI (b 3) 72 b_sorts, aJ cJ (b 4) 72 b_numbers, aI cI (b 5) 8 b_weights, aI cI (b 6) 4 b_keySlots, aI cI (b 7) 4 b_keyBys, aI cI (b 8) 4 b_keyWays] H → va_S no s.heap H locs → W p l e { frames := 3, cells := 0, slots := 0, locals := 73 } s m args below meth c H locs 0 0 (MQ below (QrI zr) args s 0 0 no) (F0 m 0 ls []) := by
    intro H locs hP hS
    refine lv_iconst (v := 0) hx hb dX0_comparePlaces_0 (by decide) ?_
    refine lv_istore (lv' := [(4, .int 0), (0, .ref (b 0)), (1, .int x1), (2, .int x2), (3, .int x3)]) hx hb dX0_comparePlaces_1 hl (by decide) rfl (fun ls hl => ?_)
    obtain ⟨z11, hz11, hf⟩ := obd hf
    refine W3 4000 x1 x2 x3 0 H locs ls z11 hP hS (lv_sub hl [1, 2, 3, 4, 0] rfl) hz11 (fun e12 ee H locs ls hP hS hl => ?_) (fun r9 er => by subst er; exact Option.some.inj hf)
    subst ee
    replace hf := osl hf
    refine lv_iconst (v := 0) hx hb dX0_comparePlaces_71 (by decide) ?_
    have er := Option.some.inj hf
    exact rtI hx hb hr hS dX0_comparePlaces_72 er hlocks
  exact go s.heap [] hP hS
noncomputable def f_X0_compareWithHand (b_sorts : Nat → Int32) (b_numbers : Nat → Int64) (b_weights : Nat → Int32) (b_handSort : Int32) (b_handNumber : Int64) (x1 : Int32) (x2 : Int32) (x3 : Int32) : Option (Int32) := if x3 = 8 then ((f_X0_sortAt b_sorts x1 x2).bind (fun z6 => (f_X0_numberAt b_numbers x1 x2).bind (fun z7 => (f_X0_compareValues b_weights z6 z7 b_handSort b_handNumber).bind (fun z8 => some (z8))))) else ((f_X0_numberAt b_numbers x1 x2).bind (fun z2 => (f_X5_made x3 z2).bind (fun z3 => (f_X5_made x3 b_handNumber).bind (fun z4 => (f_J13_compare_74951 z3 z4).bind (fun z5 => some (z5))))))
set_option maxHeartbeats 4000000 in
set_option maxRecDepth 100000 in
theorem c_X0_compareWithHand (l : Launch) (D : va_G) (cI cJ cZ cQ : ClassId) (bs sz : Nat) (b : Nat → Nat) (b_keyCount : Int32) (b_sheetSet : Int32) (b_handSort : Int32) (b_handNumber : Int64) (b_sorts : Nat → Int32) (b_numbers : Nat → Int64) (b_weights : Nat → Int32) (x1 : Int32) (x2 : Int32) (x3 : Int32) (zr : Int32) (hf : f_X0_compareWithHand b_sorts b_numbers b_weights b_handSort b_handNumber x1 x2 x3 = some zr) : Met l yX0_compareWithHand wsX0_compareWithHand { frames := 2, cells := 0, slots := 0, locals := 49 } (va_Pc [.ref (b 0), .int x1, .int x2, .int x3] (Pr D cI cJ cZ cQ bs sz [oX0 b b_keyCount b_sheetSet b_handSort b_handNumber, aI cI (b 3) 72 b_sorts, aJ cJ (b 4) 72 b_numbers, aI cI (b 5) 8 b_weights])) (QrI zr) 0 0 no := by
  refine stM (cc := cX0_compareWithHand) (maxL := 4) (ret := (some .int)) (by decide +kernel) rfl (Nat.le_of_ble_eq_true rfl) ?_
  intro p e s m args below meth c C0 hr hlocks hname hsz hP hDb hE ls hl
  have hAb : ∀ q, no q → bs ≤ q := fun _ h => h.elim
  obtain ⟨hx, hb, hml, hown, hts⟩ := id C0
  have hown : s.vm.findClass RX0 = some m.cls := hown
  obtain ⟨hK, hNW, -, tw, hZ, hT⟩ := id hE
  have hl : lv_has ls 4 [(0, .ref (b 0)), (1, .int x1), (2, .int x2), (3, .int x3)] := hl
  have hS : va_S no s.heap s.heap [] := va_S.rf
  have gn99 := hNW (.methodLinkNest RX0 99 yX5_made RX5) (by decide +kernel)
  have giRX5 := hts (.initialized RX5) (by decide +kernel)
  have gsX5_made := hts (.static yX5_made) (by decide +kernel)
  have hI_X0 := (show ∀ w ∈ wsX00, w ∈ wsX0_compareWithHand by decide +kernel)
  have gf53 := hts (.fieldLink RX0 53 "RowRanks$Bench" "handNumber" "J") (by decide +kernel)
  have gf37 := hts (.fieldLink RX0 37 "RowRanks$Bench" "handSort" "I") (by decide +kernel)
  unfold f_X0_compareWithHand at hf
  have go : ∀ (H : Heap) (locs : List Loc), va_P D vwCl [oX0 b b_keyCount b_sheetSet b_handSort b_handNumber, aI cI (b 3) 72 b_sorts, aJ cJ (b 4) 72 b_numbers, aI cI (b 5) 8 b_weights] H → va_S no s.heap H locs → W p l e { frames := 2, cells := 0, slots := 0, locals := 49 } s m args below meth c H locs 0 0 (MQ below (QrI zr) args s 0 0 no) (F0 m 0 ls []) := by
    intro H locs hP hS
    refine lv_iload_n hx hb dX0_compareWithHand_0 rfl (lv_at hl 3 rfl) ?_
    refine lv_bipush (v := 8) hx hb dX0_compareWithHand_1 (by decide) ?_
    refine lv_icmp_ne (tgt := 31) hx hb dX0_compareWithHand_3 (by decide) (fun c1 => ?_) (fun c1 => ?_)
    · replace hf := oel c1 hf
      refine lv_iload_n hx hb dX0_compareWithHand_31 rfl (lv_at hl 3 rfl) ?_
      refine lv_aload_n hx hb dX0_compareWithHand_32 rfl (lv_at hl 0 rfl) ?_
      refine lv_iload_n hx hb dX0_compareWithHand_33 rfl (lv_at hl 1 rfl) ?_
      refine lv_iload_n hx hb dX0_compareWithHand_34 rfl (lv_at hl 2 rfl) ?_
      obtain ⟨z2, hz2, hf⟩ := obd hf
      refine kJ (runV (As := [.int x1, .int x2]) (rest := [.int x3]) C0 hE hAb hP (hDb.addr rfl) hS [0, 2] (wc := [oX0 b b_keyCount b_sheetSet b_handSort b_handNumber, aJ cJ (b 4) 72 b_numbers]) (by decide) rfl 0 rfl rfl (c_X0_numberAt l D cI cJ cZ cQ bs H.size b b_keyCount b_sheetSet b_handSort b_handNumber b_numbers x1 x2 z2 hz2) (cwV 2 hts gX0_compareWithHand_X0_numberAt rfl rfl rfl (by decide +kernel) ⟨Nat.le_of_ble_eq_true rfl, Nat.le_of_ble_eq_true rfl⟩) rfl hl.1 rfl (Nat.le_of_ble_eq_true rfl) dX0_compareWithHand_35 ⟨Nat.le_of_ble_eq_true rfl, Nat.le_of_ble_eq_true rfl⟩) hS hP (fun H locs hP hS => ?_)
      obtain ⟨z3, hz3, hf⟩ := obd hf
      refine kJ (runSN (As := [.int x3, .long z2]) (rest := []) C0 hE hAb hP (hDb.addr rfl) hS [] (wc := []) (by decide) rfl (c_X5_made l D cI cJ cZ cQ bs H.size x3 z2 z3 hz3) (va_cnB 2 hts ggX0_compareWithHand_X5_made rfl rfl rfl gn99 giRX5 (by decide +kernel) ⟨Nat.le_of_ble_eq_true rfl, Nat.le_of_ble_eq_true rfl⟩) gsX5_made rfl hl.1 rfl (Nat.le_of_ble_eq_true rfl) dX0_compareWithHand_38 ⟨Nat.le_of_ble_eq_true rfl, Nat.le_of_ble_eq_true rfl⟩) hS hP (fun H locs hP hS => ?_)
      refine lv_iload_n hx hb dX0_compareWithHand_41 rfl (lv_at hl 3 rfl) ?_
      refine lv_aload_n hx hb dX0_compareWithHand_42 rfl (lv_at hl 0 rfl) ?_
      refine va_get (D := D) (ci := 0) (v := .long b_handNumber) (C := RX0) (T := TX0) (N := 12) hx hb hts hI_X0 hown hK hP 0 rfl rfl 11 (by decide) gf53 (fun _ h9 => h9) rfl dX0_compareWithHand_43 ?_
      obtain ⟨z4, hz4, hf⟩ := obd hf
      refine kJ (runSN (As := [.int x3, .long b_handNumber]) (rest := [.long z3]) C0 hE hAb hP (hDb.addr rfl) hS [] (wc := []) (by decide) rfl (c_X5_made l D cI cJ cZ cQ bs H.size x3 b_handNumber z4 hz4) (va_cnB 2 hts ggX0_compareWithHand_X5_made rfl rfl rfl gn99 giRX5 (by decide +kernel) ⟨Nat.le_of_ble_eq_true rfl, Nat.le_of_ble_eq_true rfl⟩) gsX5_made rfl hl.1 rfl (Nat.le_of_ble_eq_true rfl) dX0_compareWithHand_46 ⟨Nat.le_of_ble_eq_true rfl, Nat.le_of_ble_eq_true rfl⟩) hS hP (fun H locs hP hS => ?_)
      obtain ⟨z5, hz5, hf⟩ := obd hf
      refine kI (runS (As := [.long z3, .long z4]) (rest := []) C0 hE hAb hP (hDb.addr rfl) hS [] (wc := []) (by decide) rfl (c_J13_compare_74951 l D cI cJ cZ cQ bs H.size z3 z4 z5 hz5) (va_cwS 2 hts gX0_compareWithHand_J13_compare_74951 rfl rfl rfl (by decide +kernel) ⟨Nat.le_of_ble_eq_true rfl, Nat.le_of_ble_eq_true rfl⟩) rfl hl.1 rfl (Nat.le_of_ble_eq_true rfl) dX0_compareWithHand_49 ⟨Nat.le_of_ble_eq_true rfl, Nat.le_of_ble_eq_true rfl⟩) hS hP (fun H locs hP hS => ?_)
      have er := Option.some.inj hf
      exact rtI hx hb hr hS dX0_compareWithHand_52 er hlocks
    · replace hf := oif c1 hf
      refine lv_aload_n hx hb dX0_compareWithHand_6 rfl (lv_at hl 0 rfl) ?_
      refine lv_aload_n hx hb dX0_compareWithHand_7 rfl (lv_at hl 0 rfl) ?_
      refine lv_iload_n hx hb dX0_compareWithHand_8 rfl (lv_at hl 1 rfl) ?_
      refine lv_iload_n hx hb dX0_compareWithHand_9 rfl (lv_at hl 2 rfl) ?_
      obtain ⟨z6, hz6, hf⟩ := obd hf
      refine kI (runV (As := [.int x1, .int x2]) (rest := [.ref (b 0)]) C0 hE hAb hP (hDb.addr rfl) hS [0, 1] (wc := [oX0 b b_keyCount b_sheetSet b_handSort b_handNumber, aI cI (b 3) 72 b_sorts]) (by decide) rfl 0 rfl rfl (c_X0_sortAt l D cI cJ cZ cQ bs H.size b b_keyCount b_sheetSet b_handSort b_handNumber b_sorts x1 x2 z6 hz6) (cwV 2 hts gX0_compareWithHand_X0_sortAt rfl rfl rfl (by decide +kernel) ⟨Nat.le_of_ble_eq_true rfl, Nat.le_of_ble_eq_true rfl⟩) rfl hl.1 rfl (Nat.le_of_ble_eq_true rfl) dX0_compareWithHand_10 ⟨Nat.le_of_ble_eq_true rfl, Nat.le_of_ble_eq_true rfl⟩) hS hP (fun H locs hP hS => ?_)
      refine lv_aload_n hx hb dX0_compareWithHand_13 rfl (lv_at hl 0 rfl) ?_
      refine lv_iload_n hx hb dX0_compareWithHand_14 rfl (lv_at hl 1 rfl) ?_
      refine lv_iload_n hx hb dX0_compareWithHand_15 rfl (lv_at hl 2 rfl) ?_
      obtain ⟨z7, hz7, hf⟩ := obd hf
      refine kJ (runV (As := [.int x1, .int x2]) (rest := [.int z6, .ref (b 0)]) C0 hE hAb hP (hDb.addr rfl) hS [0, 2] (wc := [oX0 b b_keyCount b_sheetSet b_handSort b_handNumber, aJ cJ (b 4) 72 b_numbers]) (by decide) rfl 0 rfl rfl (c_X0_numberAt l D cI cJ cZ cQ bs H.size b b_keyCount b_sheetSet b_handSort b_handNumber b_numbers x1 x2 z7 hz7) (cwV 2 hts gX0_compareWithHand_X0_numberAt rfl rfl rfl (by decide +kernel) ⟨Nat.le_of_ble_eq_true rfl, Nat.le_of_ble_eq_true rfl⟩) rfl hl.1 rfl (Nat.le_of_ble_eq_true rfl) dX0_compareWithHand_16 ⟨Nat.le_of_ble_eq_true rfl, Nat.le_of_ble_eq_true rfl⟩) hS hP (fun H locs hP hS => ?_)
      refine lv_aload_n hx hb dX0_compareWithHand_19 rfl (lv_at hl 0 rfl) ?_
      refine va_get (D := D) (ci := 0) (v := .int b_handSort) (C := RX0) (T := TX0) (N := 12) hx hb hts hI_X0 hown hK hP 0 rfl rfl 10 (by decide) gf37 (fun _ h9 => h9) rfl dX0_compareWithHand_20 ?_
      refine lv_aload_n hx hb dX0_compareWithHand_23 rfl (lv_at hl 0 rfl) ?_
      refine va_get (D := D) (ci := 0) (v := .long b_handNumber) (C := RX0) (T := TX0) (N := 12) hx hb hts hI_X0 hown hK hP 0 rfl rfl 11 (by decide) gf53 (fun _ h9 => h9) rfl dX0_compareWithHand_24 ?_
      obtain ⟨z8, hz8, hf⟩ := obd hf
      refine kI (runV (As := [.int z6, .long z7, .int b_handSort, .long b_handNumber]) (rest := []) C0 hE hAb hP (hDb.addr rfl) hS [0, 3] (wc := [oX0 b b_keyCount b_sheetSet b_handSort b_handNumber, aI cI (b 5) 8 b_weights]) (by decide) rfl 0 rfl rfl (c_X0_compareValues l D cI cJ cZ cQ bs H.size b b_keyCount b_sheetSet b_handSort b_handNumber b_weights z6 z7 b_handSort b_handNumber z8 hz8) (cwV 4 hts gX0_compareWithHand_X0_compareValues rfl rfl rfl (by decide +kernel) ⟨Nat.le_of_ble_eq_true rfl, Nat.le_of_ble_eq_true rfl⟩) rfl hl.1 rfl (Nat.le_of_ble_eq_true rfl) dX0_compareWithHand_27 ⟨Nat.le_of_ble_eq_true rfl, Nat.le_of_ble_eq_true rfl⟩) hS hP (fun H locs hP hS => ?_)
      have er := Option.some.inj hf
      exact rtI hx hb hr hS dX0_compareWithHand_30 er hlocks
  exact go s.heap [] hP hS
noncomputable def f_X5_relation (x0 : Int32) : Option (Int32) := if x0 = 0 then (some (1)) else (if 0 ≤ x0 then (some (2)) else (some (0)))
set_option maxHeartbeats 4000000 in
set_option maxRecDepth 100000 in
theorem c_X5_relation (l : Launch) (D : va_G) (cI cJ cZ cQ : ClassId) (bs sz : Nat) (x0 : Int32) (zr : Int32) (hf : f_X5_relation x0 = some zr) : Met l yX5_relation wsX5_relation { frames := 0, cells := 0, slots := 0, locals := 0 } (va_Pc [.int x0] (Pr D cI cJ cZ cQ bs sz [])) (QrI zr) 0 0 no := by
  refine stM (cc := cX5_relation) (maxL := 1) (ret := (some .int)) (by decide +kernel) rfl (Nat.le_of_ble_eq_true rfl) ?_
  intro p e s m args below meth c C0 hr hlocks hname hsz hP hDb hE ls hl
  have hAb : ∀ q, no q → bs ≤ q := fun _ h => h.elim
  obtain ⟨hx, hb, hml, hown, hts⟩ := id C0
  have hown : s.vm.findClass RX5 = some m.cls := hown
  obtain ⟨hK, hNW, -, tw, hZ, hT⟩ := id hE
  have hl : lv_has ls 1 [(0, .int x0)] := hl
  have hS : va_S no s.heap s.heap [] := va_S.rf
  unfold f_X5_relation at hf
  have go : ∀ (H : Heap) (locs : List Loc), va_P D vwCl [] H → va_S no s.heap H locs → W p l e { frames := 0, cells := 0, slots := 0, locals := 0 } s m args below meth c H locs 0 0 (MQ below (QrI zr) args s 0 0 no) (F0 m 0 ls []) := by
    intro H locs hP hS
    refine lv_iload_n hx hb dX5_relation_0 rfl (lv_at hl 0 rfl) ?_
    refine lv_if_ne (tgt := 6) hx hb dX5_relation_1 (by decide) (fun c1 => ?_) (fun c1 => ?_)
    · replace hf := oel c1 hf
      refine lv_iload_n hx hb dX5_relation_6 rfl (lv_at hl 0 rfl) ?_
      refine lv_if_ge (tgt := 14) hx hb dX5_relation_7 (by decide) (fun c2 => ?_) (fun c2 => ?_)
      · replace hf := oif c2 hf
        refine lv_iconst (v := 2) hx hb dX5_relation_14 (by decide) ?_
        have er := Option.some.inj hf
        exact rtI hx hb hr hS dX5_relation_15 er hlocks
      · replace hf := oel c2 hf
        refine lv_iconst (v := 0) hx hb dX5_relation_10 (by decide) ?_
        refine lv_goto (tgt := 15) hx hb dX5_relation_11 (by decide) ?_
        have er := Option.some.inj hf
        exact rtI hx hb hr hS dX5_relation_15 er hlocks
    · replace hf := oif c1 hf
      refine lv_iconst (v := 1) hx hb dX5_relation_4 (by decide) ?_
      have er := Option.some.inj hf
      exact rtI hx hb hr hS dX5_relation_5 er hlocks
  exact go s.heap [] hP hS
noncomputable def L_X0_cellsAgainstHand_6 (b_sizes : Nat → Int32) (b_sorts : Nat → Int32) (b_numbers : Nat → Int64) (b_weights : Nat → Int32) (b_handSort : Int32) (b_handNumber : Int64) (v1 : Int32) (v2 : Int32) (v3 : Int32) : Nat → Int32 → Int32 → Option (Int32)
  | 0, _, _ => none
  | n + 1, v4, v5 => (f_X0_sizeOf b_sizes v1).bind (fun z1 => if z1 ≤ v5 then (some (v4)) else ((f_X0_compareWithHand b_sorts b_numbers b_weights b_handSort b_handNumber v1 v5 v2).bind (fun z3 => (f_X5_relation z3).bind (fun z4 => if z4 = v3 then ((some (v4 + 1 : Int32)).bind (fun y7 => (some (v5 + 1 : Int32)).bind (fun y8 => L_X0_cellsAgainstHand_6 b_sizes b_sorts b_numbers b_weights b_handSort b_handNumber v1 v2 v3 n y7 y8))) else ((some (v5 + 1 : Int32)).bind (fun y6 => L_X0_cellsAgainstHand_6 b_sizes b_sorts b_numbers b_weights b_handSort b_handNumber v1 v2 v3 n v4 y6))))))
noncomputable def f_X0_cellsAgainstHand (b_sizes : Nat → Int32) (b_sorts : Nat → Int32) (b_numbers : Nat → Int64) (b_weights : Nat → Int32) (b_handSort : Int32) (b_handNumber : Int64) (x1 : Int32) (x2 : Int32) (x3 : Int32) : Option (Int32) := (L_X0_cellsAgainstHand_6 b_sizes b_sorts b_numbers b_weights b_handSort b_handNumber x1 x2 x3 4000 0 0).bind (fun z9 => some (z9))
set_option maxHeartbeats 4000000 in
set_option maxRecDepth 100000 in
theorem c_X0_cellsAgainstHand (l : Launch) (D : va_G) (cI cJ cZ cQ : ClassId) (bs sz : Nat) (b : Nat → Nat) (b_keyCount : Int32) (b_sheetSet : Int32) (b_handSort : Int32) (b_handNumber : Int64) (b_sizes : Nat → Int32) (b_sorts : Nat → Int32) (b_numbers : Nat → Int64) (b_weights : Nat → Int32) (x1 : Int32) (x2 : Int32) (x3 : Int32) (zr : Int32) (hf : f_X0_cellsAgainstHand b_sizes b_sorts b_numbers b_weights b_handSort b_handNumber x1 x2 x3 = some zr) : Met l yX0_cellsAgainstHand wsX0_cellsAgainstHand { frames := 3, cells := 0, slots := 0, locals := 72 } (va_Pc [.ref (b 0), .int x1, .int x2, .int x3] (Pr D cI cJ cZ cQ bs sz [oX0 b b_keyCount b_sheetSet b_handSort b_handNumber, aI cI (b 2) 6 b_sizes, aI cI (b 3) 72 b_sorts, aJ cJ (b 4) 72 b_numbers, aI cI (b 5) 8 b_weights])) (QrI zr) 0 0 no := by
  refine stM (cc := cX0_cellsAgainstHand) (maxL := 6) (ret := (some .int)) (by decide +kernel) rfl (Nat.le_of_ble_eq_true rfl) ?_
  intro p e s m args below meth c C0 hr hlocks hname hsz hP hDb hE ls hl
  have hAb : ∀ q, no q → bs ≤ q := fun _ h => h.elim
  obtain ⟨hx, hb, hml, hown, hts⟩ := id C0
  have hown : s.vm.findClass RX0 = some m.cls := hown
  obtain ⟨hK, hNW, -, tw, hZ, hT⟩ := id hE
  have hl : lv_has ls 6 [(0, .ref (b 0)), (1, .int x1), (2, .int x2), (3, .int x3)] := hl
  have hS : va_S no s.heap s.heap [] := va_S.rf
  have gn165 := hNW (.methodLinkNest RX0 165 yX5_relation RX5) (by decide +kernel)
  have giRX5 := hts (.initialized RX5) (by decide +kernel)
  have gsX5_relation := hts (.static yX5_relation) (by decide +kernel)
  have W6 : ∀ (n : Nat) (v1 : Int32) (v2 : Int32) (v3 : Int32) (v4 : Int32) (v5 : Int32) (H : Heap) (locs : List Loc) (ls : Array Slot) (z : Int32), va_P D vwCl [oX0 b b_keyCount b_sheetSet b_handSort b_handNumber, aI cI (b 2) 6 b_sizes, aI cI (b 3) 72 b_sorts, aJ cJ (b 4) 72 b_numbers, aI cI (b 5) 8 b_weights] H → va_S no s.heap H locs → lv_has ls 6 [(0, .ref (b 0)), (1, .int v1), (2, .int v2), (3, .int v3), (4, .int v4), (5, .int v5)] → L_X0_cellsAgainstHand_6 b_sizes b_sorts b_numbers b_weights b_handSort b_handNumber v1 v2 v3 n v4 v5 = some z → (∀ (H : Heap) (locs : List Loc) (ls : Array Slot), va_P D vwCl [oX0 b b_keyCount b_sheetSet b_handSort b_handNumber, aI cI (b 2) 6 b_sizes, aI cI (b 3) 72 b_sorts, aJ cJ (b 4) 72 b_numbers, aI cI (b 5) 8 b_weights] H → va_S no s.heap H locs → lv_has ls 6 [(4, .int z)] → W p l e { frames := 3, cells := 0, slots := 0, locals := 72 } s m args below meth c H locs 0 0 (MQ below (QrI zr) args s 0 0 no) (F0 m 40 ls [])) → W p l e { frames := 3, cells := 0, slots := 0, locals := 72 } s m args below meth c H locs 0 0 (MQ below (QrI zr) args s 0 0 no) (F0 m 6 ls []) := by
    intro n
    induction n with
    | zero =>
      intro v1 v2 v3 v4 v5 H locs ls z hP hS hl hf
      exact absurd (show (none : Option (Int32)) = some z from hf) (fun h => by cases h)
    | succ n ih =>
      intro v1 v2 v3 v4 v5 H locs ls z hP hS hl hf K
      rw [L_X0_cellsAgainstHand_6] at hf
      refine lv_iload hx hb dX0_cellsAgainstHand_6 (lv_at hl 5 rfl) ?_
      refine lv_aload_n hx hb dX0_cellsAgainstHand_8 rfl (lv_at hl 0 rfl) ?_
      refine lv_iload_n hx hb dX0_cellsAgainstHand_9 rfl (lv_at hl 1 rfl) ?_
      obtain ⟨z1, hz1, hf⟩ := obd hf
      refine kI (runV (As := [.int v1]) (rest := [.int v5]) C0 hE hAb hP (hDb.addr rfl) hS [0, 1] (wc := [oX0 b b_keyCount b_sheetSet b_handSort b_handNumber, aI cI (b 2) 6 b_sizes]) (by decide) rfl 0 rfl rfl (c_X0_sizeOf l D cI cJ cZ cQ bs H.size b b_keyCount b_sheetSet b_handSort b_handNumber b_sizes v1 z1 hz1) (cwV 1 hts gX0_cellsAgainstHand_X0_sizeOf rfl rfl rfl (by decide +kernel) ⟨Nat.le_of_ble_eq_true rfl, Nat.le_of_ble_eq_true rfl⟩) rfl hl.1 rfl (Nat.le_of_ble_eq_true rfl) dX0_cellsAgainstHand_10 ⟨Nat.le_of_ble_eq_true rfl, Nat.le_of_ble_eq_true rfl⟩) hS hP (fun H locs hP hS => ?_)
      refine lv_icmp_ge (tgt := 40) hx hb dX0_cellsAgainstHand_13 (by decide) (fun c2 => ?_) (fun c2 => ?_)
      · replace hf := oif c2 hf
        have hf := Option.some.inj hf
        subst hf
        exact K H locs ls hP hS (lv_sub hl [4] rfl)
      · replace hf := oel c2 hf
        refine lv_aload_n hx hb dX0_cellsAgainstHand_16 rfl (lv_at hl 0 rfl) ?_
        refine lv_iload_n hx hb dX0_cellsAgainstHand_17 rfl (lv_at hl 1 rfl) ?_
        refine lv_iload hx hb dX0_cellsAgainstHand_18 (lv_at hl 5 rfl) ?_
        refine lv_iload_n hx hb dX0_cellsAgainstHand_20 rfl (lv_at hl 2 rfl) ?_
        obtain ⟨z3, hz3, hf⟩ := obd hf
        refine kI (runV (As := [.int v1, .int v5, .int v2]) (rest := []) C0 hE hAb hP (hDb.addr rfl) hS [0, 2, 3, 4] (wc := [oX0 b b_keyCount b_sheetSet b_handSort b_handNumber, aI cI (b 3) 72 b_sorts, aJ cJ (b 4) 72 b_numbers, aI cI (b 5) 8 b_weights]) (by decide) rfl 0 rfl rfl (c_X0_compareWithHand l D cI cJ cZ cQ bs H.size b b_keyCount b_sheetSet b_handSort b_handNumber b_sorts b_numbers b_weights v1 v5 v2 z3 hz3) (cwV 3 hts gX0_cellsAgainstHand_X0_compareWithHand rfl rfl rfl (by decide +kernel) ⟨Nat.le_of_ble_eq_true rfl, Nat.le_of_ble_eq_true rfl⟩) rfl hl.1 rfl (Nat.le_of_ble_eq_true rfl) dX0_cellsAgainstHand_21 ⟨Nat.le_of_ble_eq_true rfl, Nat.le_of_ble_eq_true rfl⟩) hS hP (fun H locs hP hS => ?_)
        obtain ⟨z4, hz4, hf⟩ := obd hf
        refine kI (runSN (As := [.int z3]) (rest := []) C0 hE hAb hP (hDb.addr rfl) hS [] (wc := []) (by decide) rfl (c_X5_relation l D cI cJ cZ cQ bs H.size z3 z4 hz4) (va_cnB 1 hts ggX0_cellsAgainstHand_X5_relation rfl rfl rfl gn165 giRX5 (by decide +kernel) ⟨Nat.le_of_ble_eq_true rfl, Nat.le_of_ble_eq_true rfl⟩) gsX5_relation rfl hl.1 rfl (Nat.le_of_ble_eq_true rfl) dX0_cellsAgainstHand_24 ⟨Nat.le_of_ble_eq_true rfl, Nat.le_of_ble_eq_true rfl⟩) hS hP (fun H locs hP hS => ?_)
        refine lv_iload_n hx hb dX0_cellsAgainstHand_27 rfl (lv_at hl 3 rfl) ?_
        refine lv_icmp_ne (tgt := 34) hx hb dX0_cellsAgainstHand_28 (by decide) (fun c5 => ?_) (fun c5 => ?_)
        · replace hf := oel c5 hf
          obtain ⟨y6, ey6⟩ : ∃ y : Int32, y = v5 + 1 := ⟨_, rfl⟩
          replace hf := onm ey6 hf
          refine lv_iinc (v := y6) (lv' := [(5, .int y6), (0, .ref (b 0)), (1, .int v1), (2, .int v2), (3, .int v3), (4, .int v4)]) hx hb dX0_cellsAgainstHand_34 hl (k := 5) rfl (by rw [ey6]; rfl) (by decide) rfl (fun ls hl => ?_)
          refine lv_goto (tgt := 6) hx hb dX0_cellsAgainstHand_37 (by decide) ?_
          exact ih v1 v2 v3 v4 y6 H locs ls z hP hS (lv_sub hl [1, 2, 3, 4, 5, 0] rfl) hf K
        · replace hf := oif c5 hf
          obtain ⟨y7, ey7⟩ : ∃ y : Int32, y = v4 + 1 := ⟨_, rfl⟩
          replace hf := onm ey7 hf
          refine lv_iinc (v := y7) (lv' := [(4, .int y7), (0, .ref (b 0)), (1, .int v1), (2, .int v2), (3, .int v3), (5, .int v5)]) hx hb dX0_cellsAgainstHand_31 hl (k := 4) rfl (by rw [ey7]; rfl) (by decide) rfl (fun ls hl => ?_)
          obtain ⟨y8, ey8⟩ : ∃ y : Int32, y = v5 + 1 := ⟨_, rfl⟩
          replace hf := onm ey8 hf
          refine lv_iinc (v := y8) (lv' := [(5, .int y8), (4, .int y7), (0, .ref (b 0)), (1, .int v1), (2, .int v2), (3, .int v3)]) hx hb dX0_cellsAgainstHand_34 hl (k := 5) rfl (by rw [ey8]; rfl) (by decide) rfl (fun ls hl => ?_)
          refine lv_goto (tgt := 6) hx hb dX0_cellsAgainstHand_37 (by decide) ?_
          exact ih v1 v2 v3 y7 y8 H locs ls z hP hS (lv_sub hl [2, 3, 4, 5, 1, 0] rfl) hf K
  unfold f_X0_cellsAgainstHand at hf
  have go : ∀ (H : Heap) (locs : List Loc), va_P D vwCl [oX0 b b_keyCount b_sheetSet b_handSort b_handNumber, aI cI (b 2) 6 b_sizes, aI cI (b 3) 72 b_sorts, aJ cJ (b 4) 72 b_numbers, aI cI (b 5) 8 b_weights] H → va_S no s.heap H locs → W p l e { frames := 3, cells := 0, slots := 0, locals := 72 } s m args below meth c H locs 0 0 (MQ below (QrI zr) args s 0 0 no) (F0 m 0 ls []) := by
    intro H locs hP hS
    refine lv_iconst (v := 0) hx hb dX0_cellsAgainstHand_0 (by decide) ?_
    refine lv_istore (lv' := [(4, .int 0), (0, .ref (b 0)), (1, .int x1), (2, .int x2), (3, .int x3)]) hx hb dX0_cellsAgainstHand_1 hl (by decide) rfl (fun ls hl => ?_)
    refine lv_iconst (v := 0) hx hb dX0_cellsAgainstHand_3 (by decide) ?_
    refine lv_istore (lv' := [(5, .int 0), (4, .int 0), (0, .ref (b 0)), (1, .int x1), (2, .int x2), (3, .int x3)]) hx hb dX0_cellsAgainstHand_4 hl (by decide) rfl (fun ls hl => ?_)
    obtain ⟨z9, hz9, hf⟩ := obd hf
    refine W6 4000 x1 x2 x3 0 0 H locs ls z9 hP hS (lv_sub hl [2, 3, 4, 5, 1, 0] rfl) hz9 (fun H locs ls hP hS hl => ?_)
    refine lv_iload hx hb dX0_cellsAgainstHand_40 (lv_at hl 0 rfl) ?_
    have er := Option.some.inj hf
    exact rtI hx hb hr hS dX0_cellsAgainstHand_42 er hlocks
  exact go s.heap [] hP hS
noncomputable def L_X0_explains_23 (b_sizes : Nat → Int32) (b_sorts : Nat → Int32) (b_numbers : Nat → Int64) (b_weights : Nat → Int32) (v1 : Int32) (v2 : Int32) (v3 : Int32) : Nat → Int32 → Option ((Unit) ⊕ (Int32))
  | 0, _ => none
  | n + 1, v4 => (f_X0_sizeOf b_sizes v1).bind (fun z5 => if z5 ≤ v4 then (some (.inl (()))) else ((f_X0_compareCells b_sorts b_numbers b_weights v1 v2 v4 (v4 - 1)).bind (fun z7 => if v3 = 0 then (if 0 ≤ z7 then ((some (v4 + 1 : Int32)).bind (fun y12 => L_X0_explains_23 b_sizes b_sorts b_numbers b_weights v1 v2 v3 n y12)) else (some (.inr (0)))) else (if z7 ≤ 0 then ((some (v4 + 1 : Int32)).bind (fun y10 => L_X0_explains_23 b_sizes b_sorts b_numbers b_weights v1 v2 v3 n y10)) else (some (.inr (0)))))))
noncomputable def f_X0_explains (b_kinds : Nat → Int32) (b_sizes : Nat → Int32) (b_sorts : Nat → Int32) (b_numbers : Nat → Int64) (b_weights : Nat → Int32) (x1 : Int32) (x2 : Int32) (x3 : Int32) : Option (Int32) := (f_X0_sizeOf b_sizes x1).bind (fun z1 => if z1 < 2 then (some (0)) else ((f_X0_canRead b_kinds x1 x2).bind (fun z3 => if z3 = 0 then (some (0)) else ((L_X0_explains_23 b_sizes b_sorts b_numbers b_weights x1 x2 x3 4000 1).bind (fun z13 => Sum.elim (fun e14 => some (1)) (fun r9 => some (r9)) z13)))))
set_option maxHeartbeats 4000000 in
set_option maxRecDepth 100000 in
theorem c_X0_explains (l : Launch) (D : va_G) (cI cJ cZ cQ : ClassId) (bs sz : Nat) (b : Nat → Nat) (b_keyCount : Int32) (b_sheetSet : Int32) (b_handSort : Int32) (b_handNumber : Int64) (b_kinds : Nat → Int32) (b_sizes : Nat → Int32) (b_sorts : Nat → Int32) (b_numbers : Nat → Int64) (b_weights : Nat → Int32) (x1 : Int32) (x2 : Int32) (x3 : Int32) (zr : Int32) (hf : f_X0_explains b_kinds b_sizes b_sorts b_numbers b_weights x1 x2 x3 = some zr) : Met l yX0_explains wsX0_explains { frames := 3, cells := 0, slots := 0, locals := 73 } (va_Pc [.ref (b 0), .int x1, .int x2, .int x3] (Pr D cI cJ cZ cQ bs sz [oX0 b b_keyCount b_sheetSet b_handSort b_handNumber, aI cI (b 1) 6 b_kinds, aI cI (b 2) 6 b_sizes, aI cI (b 3) 72 b_sorts, aJ cJ (b 4) 72 b_numbers, aI cI (b 5) 8 b_weights])) (QrZ zr) 0 0 no := by
  refine stM (cc := cX0_explains) (maxL := 6) (ret := (some .boolean)) (by decide +kernel) rfl (Nat.le_of_ble_eq_true rfl) ?_
  intro p e s m args below meth c C0 hr hlocks hname hsz hP hDb hE ls hl
  have hAb : ∀ q, no q → bs ≤ q := fun _ h => h.elim
  obtain ⟨hx, hb, hml, hown, hts⟩ := id C0
  have hown : s.vm.findClass RX0 = some m.cls := hown
  obtain ⟨hK, hNW, -, tw, hZ, hT⟩ := id hE
  have hl : lv_has ls 6 [(0, .ref (b 0)), (1, .int x1), (2, .int x2), (3, .int x3)] := hl
  have hS : va_S no s.heap s.heap [] := va_S.rf
  have W23 : ∀ (n : Nat) (v1 : Int32) (v2 : Int32) (v3 : Int32) (v4 : Int32) (H : Heap) (locs : List Loc) (ls : Array Slot) (z : (Unit) ⊕ (Int32)), va_P D vwCl [oX0 b b_keyCount b_sheetSet b_handSort b_handNumber, aI cI (b 1) 6 b_kinds, aI cI (b 2) 6 b_sizes, aI cI (b 3) 72 b_sorts, aJ cJ (b 4) 72 b_numbers, aI cI (b 5) 8 b_weights] H → va_S no s.heap H locs → lv_has ls 6 [(0, .ref (b 0)), (1, .int v1), (2, .int v2), (3, .int v3), (4, .int v4)] → L_X0_explains_23 b_sizes b_sorts b_numbers b_weights v1 v2 v3 n v4 = some z → (∀ e9, z = Sum.inl e9 → ∀ (H : Heap) (locs : List Loc) (ls : Array Slot), va_P D vwCl [oX0 b b_keyCount b_sheetSet b_handSort b_handNumber, aI cI (b 1) 6 b_kinds, aI cI (b 2) 6 b_sizes, aI cI (b 3) 72 b_sorts, aJ cJ (b 4) 72 b_numbers, aI cI (b 5) 8 b_weights] H → va_S no s.heap H locs → lv_has ls 6 [] → W p l e { frames := 3, cells := 0, slots := 0, locals := 73 } s m args below meth c H locs 0 0 (MQ below (QrZ zr) args s 0 0 no) (F0 m 72 ls [])) → (∀ r9, z = Sum.inr r9 → r9 = zr) → W p l e { frames := 3, cells := 0, slots := 0, locals := 73 } s m args below meth c H locs 0 0 (MQ below (QrZ zr) args s 0 0 no) (F0 m 23 ls []) := by
    intro n
    induction n with
    | zero =>
      intro v1 v2 v3 v4 H locs ls z hP hS hl hf
      exact absurd (show (none : Option ((Unit) ⊕ (Int32))) = some z from hf) (fun h => by cases h)
    | succ n ih =>
      intro v1 v2 v3 v4 H locs ls z hP hS hl hf K K2
      rw [L_X0_explains_23] at hf
      refine lv_iload hx hb dX0_explains_23 (lv_at hl 4 rfl) ?_
      refine lv_aload_n hx hb dX0_explains_25 rfl (lv_at hl 0 rfl) ?_
      refine lv_iload_n hx hb dX0_explains_26 rfl (lv_at hl 1 rfl) ?_
      obtain ⟨z5, hz5, hf⟩ := obd hf
      refine kI (runV (As := [.int v1]) (rest := [.int v4]) C0 hE hAb hP (hDb.addr rfl) hS [0, 2] (wc := [oX0 b b_keyCount b_sheetSet b_handSort b_handNumber, aI cI (b 2) 6 b_sizes]) (by decide) rfl 0 rfl rfl (c_X0_sizeOf l D cI cJ cZ cQ bs H.size b b_keyCount b_sheetSet b_handSort b_handNumber b_sizes v1 z5 hz5) (cwV 1 hts gX0_explains_X0_sizeOf rfl rfl rfl (by decide +kernel) ⟨Nat.le_of_ble_eq_true rfl, Nat.le_of_ble_eq_true rfl⟩) rfl hl.1 rfl (Nat.le_of_ble_eq_true rfl) dX0_explains_27 ⟨Nat.le_of_ble_eq_true rfl, Nat.le_of_ble_eq_true rfl⟩) hS hP (fun H locs hP hS => ?_)
      refine lv_icmp_ge (tgt := 72) hx hb dX0_explains_30 (by decide) (fun c6 => ?_) (fun c6 => ?_)
      · replace hf := oif c6 hf
        exact K _ (Option.some.inj hf).symm H locs ls hP hS (lv_sub hl [] rfl)
      · replace hf := oel c6 hf
        refine lv_aload_n hx hb dX0_explains_33 rfl (lv_at hl 0 rfl) ?_
        refine lv_iload_n hx hb dX0_explains_34 rfl (lv_at hl 1 rfl) ?_
        refine lv_iload_n hx hb dX0_explains_35 rfl (lv_at hl 2 rfl) ?_
        refine lv_iload hx hb dX0_explains_36 (lv_at hl 4 rfl) ?_
        refine lv_iload hx hb dX0_explains_38 (lv_at hl 4 rfl) ?_
        refine lv_iconst (v := 1) hx hb dX0_explains_40 (by decide) ?_
        refine lv_isub hx hb dX0_explains_41 ?_
        obtain ⟨z7, hz7, hf⟩ := obd hf
        refine kI (runV (As := [.int v1, .int v2, .int v4, .int (v4 - 1)]) (rest := []) C0 hE hAb hP (hDb.addr rfl) hS [0, 3, 4, 5] (wc := [oX0 b b_keyCount b_sheetSet b_handSort b_handNumber, aI cI (b 3) 72 b_sorts, aJ cJ (b 4) 72 b_numbers, aI cI (b 5) 8 b_weights]) (by decide) rfl 0 rfl rfl (c_X0_compareCells l D cI cJ cZ cQ bs H.size b b_keyCount b_sheetSet b_handSort b_handNumber b_sorts b_numbers b_weights v1 v2 v4 (v4 - 1) z7 hz7) (cwV 4 hts gX0_explains_X0_compareCells rfl rfl rfl (by decide +kernel) ⟨Nat.le_of_ble_eq_true rfl, Nat.le_of_ble_eq_true rfl⟩) rfl hl.1 rfl (Nat.le_of_ble_eq_true rfl) dX0_explains_42 ⟨Nat.le_of_ble_eq_true rfl, Nat.le_of_ble_eq_true rfl⟩) hS hP (fun H locs hP hS => ?_)
        refine lv_istore (lv' := [(5, .int z7), (0, .ref (b 0)), (1, .int v1), (2, .int v2), (3, .int v3), (4, .int v4)]) hx hb dX0_explains_45 hl (by decide) rfl (fun ls hl => ?_)
        refine lv_iload_n hx hb dX0_explains_47 rfl (lv_at hl 4 rfl) ?_
        refine lv_if_ne (tgt := 59) hx hb dX0_explains_48 (by decide) (fun c8 => ?_) (fun c8 => ?_)
        · replace hf := oel c8 hf
          refine lv_iload hx hb dX0_explains_59 (lv_at hl 0 rfl) ?_
          refine lv_if_le (tgt := 66) hx hb dX0_explains_61 (by decide) (fun c9 => ?_) (fun c9 => ?_)
          · replace hf := oif c9 hf
            obtain ⟨y10, ey10⟩ : ∃ y : Int32, y = v4 + 1 := ⟨_, rfl⟩
            replace hf := onm ey10 hf
            refine lv_iinc (v := y10) (lv' := [(4, .int y10), (5, .int z7), (0, .ref (b 0)), (1, .int v1), (2, .int v2), (3, .int v3)]) hx hb dX0_explains_66 hl (k := 5) rfl (by rw [ey10]; rfl) (by decide) rfl (fun ls hl => ?_)
            refine lv_goto (tgt := 23) hx hb dX0_explains_69 (by decide) ?_
            exact ih v1 v2 v3 y10 H locs ls z hP hS (lv_sub hl [2, 3, 4, 5, 0] rfl) hf K K2
          · replace hf := oel c9 hf
            refine lv_iconst (v := 0) hx hb dX0_explains_64 (by decide) ?_
            have er := K2 _ (Option.some.inj hf).symm
            exact rtZ hx hb hr hS dX0_explains_65 er (by decide) hlocks
        · replace hf := oif c8 hf
          refine lv_iload hx hb dX0_explains_51 (lv_at hl 0 rfl) ?_
          refine lv_if_ge (tgt := 66) hx hb dX0_explains_53 (by decide) (fun c11 => ?_) (fun c11 => ?_)
          · replace hf := oif c11 hf
            obtain ⟨y12, ey12⟩ : ∃ y : Int32, y = v4 + 1 := ⟨_, rfl⟩
            replace hf := onm ey12 hf
            refine lv_iinc (v := y12) (lv' := [(4, .int y12), (5, .int z7), (0, .ref (b 0)), (1, .int v1), (2, .int v2), (3, .int v3)]) hx hb dX0_explains_66 hl (k := 5) rfl (by rw [ey12]; rfl) (by decide) rfl (fun ls hl => ?_)
            refine lv_goto (tgt := 23) hx hb dX0_explains_69 (by decide) ?_
            exact ih v1 v2 v3 y12 H locs ls z hP hS (lv_sub hl [2, 3, 4, 5, 0] rfl) hf K K2
          · replace hf := oel c11 hf
            refine lv_goto (tgt := 64) hx hb dX0_explains_56 (by decide) ?_
            refine lv_iconst (v := 0) hx hb dX0_explains_64 (by decide) ?_
            have er := K2 _ (Option.some.inj hf).symm
            exact rtZ hx hb hr hS dX0_explains_65 er (by decide) hlocks
  unfold f_X0_explains at hf
  have go : ∀ (H : Heap) (locs : List Loc), va_P D vwCl [oX0 b b_keyCount b_sheetSet b_handSort b_handNumber, aI cI (b 1) 6 b_kinds, aI cI (b 2) 6 b_sizes, aI cI (b 3) 72 b_sorts, aJ cJ (b 4) 72 b_numbers, aI cI (b 5) 8 b_weights] H → va_S no s.heap H locs → W p l e { frames := 3, cells := 0, slots := 0, locals := 73 } s m args below meth c H locs 0 0 (MQ below (QrZ zr) args s 0 0 no) (F0 m 0 ls []) := by
    intro H locs hP hS
    refine lv_aload_n hx hb dX0_explains_0 rfl (lv_at hl 0 rfl) ?_
    refine lv_iload_n hx hb dX0_explains_1 rfl (lv_at hl 1 rfl) ?_
    obtain ⟨z1, hz1, hf⟩ := obd hf
    refine kI (runV (As := [.int x1]) (rest := []) C0 hE hAb hP (hDb.addr rfl) hS [0, 2] (wc := [oX0 b b_keyCount b_sheetSet b_handSort b_handNumber, aI cI (b 2) 6 b_sizes]) (by decide) rfl 0 rfl rfl (c_X0_sizeOf l D cI cJ cZ cQ bs H.size b b_keyCount b_sheetSet b_handSort b_handNumber b_sizes x1 z1 hz1) (cwV 1 hts gX0_explains_X0_sizeOf rfl rfl rfl (by decide +kernel) ⟨Nat.le_of_ble_eq_true rfl, Nat.le_of_ble_eq_true rfl⟩) rfl hl.1 rfl (Nat.le_of_ble_eq_true rfl) dX0_explains_2 ⟨Nat.le_of_ble_eq_true rfl, Nat.le_of_ble_eq_true rfl⟩) hS hP (fun H locs hP hS => ?_)
    refine lv_iconst (v := 2) hx hb dX0_explains_5 (by decide) ?_
    refine lv_icmp_lt (tgt := 18) hx hb dX0_explains_6 (by decide) (fun c2 => ?_) (fun c2 => ?_)
    · replace hf := oif c2 hf
      refine lv_iconst (v := 0) hx hb dX0_explains_18 (by decide) ?_
      have er := Option.some.inj hf
      exact rtZ hx hb hr hS dX0_explains_19 er (by decide) hlocks
    · replace hf := oel c2 hf
      refine lv_aload_n hx hb dX0_explains_9 rfl (lv_at hl 0 rfl) ?_
      refine lv_iload_n hx hb dX0_explains_10 rfl (lv_at hl 1 rfl) ?_
      refine lv_iload_n hx hb dX0_explains_11 rfl (lv_at hl 2 rfl) ?_
      obtain ⟨z3, hz3, hf⟩ := obd hf
      refine kZ (runV (As := [.int x1, .int x2]) (rest := []) C0 hE hAb hP (hDb.addr rfl) hS [0, 1] (wc := [oX0 b b_keyCount b_sheetSet b_handSort b_handNumber, aI cI (b 1) 6 b_kinds]) (by decide) rfl 0 rfl rfl (c_X0_canRead l D cI cJ cZ cQ bs H.size b b_keyCount b_sheetSet b_handSort b_handNumber b_kinds x1 x2 z3 hz3) (cwV 2 hts gX0_explains_X0_canRead rfl rfl rfl (by decide +kernel) ⟨Nat.le_of_ble_eq_true rfl, Nat.le_of_ble_eq_true rfl⟩) rfl hl.1 rfl (Nat.le_of_ble_eq_true rfl) dX0_explains_12 ⟨Nat.le_of_ble_eq_true rfl, Nat.le_of_ble_eq_true rfl⟩) hS hP (fun bz3 H locs hP hS => ?_)
      refine lv_if_ne (tgt := 20) hx hb dX0_explains_15 (by decide) (fun c4 => ?_) (fun c4 => ?_)
      · replace hf := oel c4 hf
        refine lv_iconst (v := 1) hx hb dX0_explains_20 (by decide) ?_
        refine lv_istore (lv' := [(4, .int 1), (0, .ref (b 0)), (1, .int x1), (2, .int x2), (3, .int x3)]) hx hb dX0_explains_21 hl (by decide) rfl (fun ls hl => ?_)
        obtain ⟨z13, hz13, hf⟩ := obd hf
        refine W23 4000 x1 x2 x3 1 H locs ls z13 hP hS (lv_sub hl [1, 2, 3, 4, 0] rfl) hz13 (fun e14 ee H locs ls hP hS hl => ?_) (fun r9 er => by subst er; exact Option.some.inj hf)
        subst ee
        replace hf := osl hf
        refine lv_iconst (v := 1) hx hb dX0_explains_72 (by decide) ?_
        have er := Option.some.inj hf
        exact rtZ hx hb hr hS dX0_explains_73 er (by decide) hlocks
      · replace hf := oif c4 hf
        refine lv_iconst (v := 0) hx hb dX0_explains_18 (by decide) ?_
        have er := Option.some.inj hf
        exact rtZ hx hb hr hS dX0_explains_19 er (by decide) hlocks
  exact go s.heap [] hP hS
noncomputable def L_X0_explanation_18 (b_kinds : Nat → Int32) (b_sizes : Nat → Int32) (b_sorts : Nat → Int32) (b_numbers : Nat → Int64) (b_weights : Nat → Int32) (v1 : Int32) (v2 : Int32) : Nat → Int32 → Option ((Unit) ⊕ (Int32))
  | 0, _ => none
  | n + 1, v3 => if 1 < v3 then (some (.inl (()))) else ((f_X0_explains b_kinds b_sizes b_sorts b_numbers b_weights v1 v2 v3).bind (fun z4 => if z4 = 0 then ((some (v3 + 1 : Int32)).bind (fun y6 => L_X0_explanation_18 b_kinds b_sizes b_sorts b_numbers b_weights v1 v2 n y6)) else (some (.inr ((((18 * v1) + (2 * v2)) + v3))))))
noncomputable def L_X0_explanation_10 (b_kinds : Nat → Int32) (b_sizes : Nat → Int32) (b_sorts : Nat → Int32) (b_numbers : Nat → Int64) (b_weights : Nat → Int32) (v1 : Int32) : Nat → Int32 → Option ((Unit) ⊕ (Int32))
  | 0, _ => none
  | n + 1, v2 => if 8 < v2 then (some (.inl (()))) else ((L_X0_explanation_18 b_kinds b_sizes b_sorts b_numbers b_weights v1 v2 4000 0).bind (fun z7 => Sum.elim (fun e8 => (some (v2 + 1 : Int32)).bind (fun y9 => L_X0_explanation_10 b_kinds b_sizes b_sorts b_numbers b_weights v1 n y9)) (fun r9 => some (.inr r9)) z7))
noncomputable def L_X0_explanation_2 (b_kinds : Nat → Int32) (b_sizes : Nat → Int32) (b_sorts : Nat → Int32) (b_numbers : Nat → Int64) (b_weights : Nat → Int32) : Nat → Int32 → Option ((Unit) ⊕ (Int32))
  | 0, _ => none
  | n + 1, v1 => if 6 ≤ v1 then (some (.inl (()))) else ((L_X0_explanation_10 b_kinds b_sizes b_sorts b_numbers b_weights v1 4000 0).bind (fun z10 => Sum.elim (fun e11 => (some (v1 + 1 : Int32)).bind (fun y12 => L_X0_explanation_2 b_kinds b_sizes b_sorts b_numbers b_weights n y12)) (fun r9 => some (.inr r9)) z10))
noncomputable def f_X0_explanation (b_kinds : Nat → Int32) (b_sizes : Nat → Int32) (b_sorts : Nat → Int32) (b_numbers : Nat → Int64) (b_weights : Nat → Int32) : Option (Int32) := (L_X0_explanation_2 b_kinds b_sizes b_sorts b_numbers b_weights 4000 0).bind (fun z13 => Sum.elim (fun e14 => some ((-1))) (fun r9 => some (r9)) z13)
set_option maxHeartbeats 4000000 in
set_option maxRecDepth 100000 in
theorem c_X0_explanation (l : Launch) (D : va_G) (cI cJ cZ cQ : ClassId) (bs sz : Nat) (b : Nat → Nat) (b_keyCount : Int32) (b_sheetSet : Int32) (b_handSort : Int32) (b_handNumber : Int64) (b_kinds : Nat → Int32) (b_sizes : Nat → Int32) (b_sorts : Nat → Int32) (b_numbers : Nat → Int64) (b_weights : Nat → Int32) (zr : Int32) (hf : f_X0_explanation b_kinds b_sizes b_sorts b_numbers b_weights = some zr) : Met l yX0_explanation wsX0_explanation { frames := 4, cells := 0, slots := 0, locals := 98 } (va_Pc [.ref (b 0)] (Pr D cI cJ cZ cQ bs sz [oX0 b b_keyCount b_sheetSet b_handSort b_handNumber, aI cI (b 1) 6 b_kinds, aI cI (b 2) 6 b_sizes, aI cI (b 3) 72 b_sorts, aJ cJ (b 4) 72 b_numbers, aI cI (b 5) 8 b_weights])) (QrI zr) 0 0 no := by
  refine stM (cc := cX0_explanation) (maxL := 4) (ret := (some .int)) (by decide +kernel) rfl (Nat.le_of_ble_eq_true rfl) ?_
  intro p e s m args below meth c C0 hr hlocks hname hsz hP hDb hE ls hl
  have hAb : ∀ q, no q → bs ≤ q := fun _ h => h.elim
  obtain ⟨hx, hb, hml, hown, hts⟩ := id C0
  have hown : s.vm.findClass RX0 = some m.cls := hown
  obtain ⟨hK, hNW, -, tw, hZ, hT⟩ := id hE
  have hl : lv_has ls 4 [(0, .ref (b 0))] := hl
  have hS : va_S no s.heap s.heap [] := va_S.rf
  have W18 : ∀ (n : Nat) (v1 : Int32) (v2 : Int32) (v3 : Int32) (H : Heap) (locs : List Loc) (ls : Array Slot) (z : (Unit) ⊕ (Int32)), va_P D vwCl [oX0 b b_keyCount b_sheetSet b_handSort b_handNumber, aI cI (b 1) 6 b_kinds, aI cI (b 2) 6 b_sizes, aI cI (b 3) 72 b_sorts, aJ cJ (b 4) 72 b_numbers, aI cI (b 5) 8 b_weights] H → va_S no s.heap H locs → lv_has ls 4 [(0, .ref (b 0)), (1, .int v1), (2, .int v2), (3, .int v3)] → L_X0_explanation_18 b_kinds b_sizes b_sorts b_numbers b_weights v1 v2 n v3 = some z → (∀ e9, z = Sum.inl e9 → ∀ (H : Heap) (locs : List Loc) (ls : Array Slot), va_P D vwCl [oX0 b b_keyCount b_sheetSet b_handSort b_handNumber, aI cI (b 1) 6 b_kinds, aI cI (b 2) 6 b_sizes, aI cI (b 3) 72 b_sorts, aJ cJ (b 4) 72 b_numbers, aI cI (b 5) 8 b_weights] H → va_S no s.heap H locs → lv_has ls 4 [(0, .ref (b 0)), (1, .int v1), (2, .int v2)] → W p l e { frames := 4, cells := 0, slots := 0, locals := 98 } s m args below meth c H locs 0 0 (MQ below (QrI zr) args s 0 0 no) (F0 m 50 ls [])) → (∀ r9, z = Sum.inr r9 → r9 = zr) → W p l e { frames := 4, cells := 0, slots := 0, locals := 98 } s m args below meth c H locs 0 0 (MQ below (QrI zr) args s 0 0 no) (F0 m 18 ls []) := by
    intro n
    induction n with
    | zero =>
      intro v1 v2 v3 H locs ls z hP hS hl hf
      exact absurd (show (none : Option ((Unit) ⊕ (Int32))) = some z from hf) (fun h => by cases h)
    | succ n ih =>
      intro v1 v2 v3 H locs ls z hP hS hl hf K K2
      rw [L_X0_explanation_18] at hf
      refine lv_iload_n hx hb dX0_explanation_18 rfl (lv_at hl 3 rfl) ?_
      refine lv_iconst (v := 1) hx hb dX0_explanation_19 (by decide) ?_
      refine lv_icmp_gt (tgt := 50) hx hb dX0_explanation_20 (by decide) (fun c3 => ?_) (fun c3 => ?_)
      · replace hf := oif c3 hf
        exact K _ (Option.some.inj hf).symm H locs ls hP hS (lv_sub hl [0, 1, 2] rfl)
      · replace hf := oel c3 hf
        refine lv_aload_n hx hb dX0_explanation_23 rfl (lv_at hl 0 rfl) ?_
        refine lv_iload_n hx hb dX0_explanation_24 rfl (lv_at hl 1 rfl) ?_
        refine lv_iload_n hx hb dX0_explanation_25 rfl (lv_at hl 2 rfl) ?_
        refine lv_iload_n hx hb dX0_explanation_26 rfl (lv_at hl 3 rfl) ?_
        obtain ⟨z4, hz4, hf⟩ := obd hf
        refine kZ (runV (As := [.int v1, .int v2, .int v3]) (rest := []) C0 hE hAb hP (hDb.addr rfl) hS [0, 1, 2, 3, 4, 5] (wc := [oX0 b b_keyCount b_sheetSet b_handSort b_handNumber, aI cI (b 1) 6 b_kinds, aI cI (b 2) 6 b_sizes, aI cI (b 3) 72 b_sorts, aJ cJ (b 4) 72 b_numbers, aI cI (b 5) 8 b_weights]) (by decide) rfl 0 rfl rfl (c_X0_explains l D cI cJ cZ cQ bs H.size b b_keyCount b_sheetSet b_handSort b_handNumber b_kinds b_sizes b_sorts b_numbers b_weights v1 v2 v3 z4 hz4) (cwV 3 hts gX0_explanation_X0_explains rfl rfl rfl (by decide +kernel) ⟨Nat.le_of_ble_eq_true rfl, Nat.le_of_ble_eq_true rfl⟩) rfl hl.1 rfl (Nat.le_of_ble_eq_true rfl) dX0_explanation_27 ⟨Nat.le_of_ble_eq_true rfl, Nat.le_of_ble_eq_true rfl⟩) hS hP (fun bz4 H locs hP hS => ?_)
        refine lv_if_eq (tgt := 44) hx hb dX0_explanation_30 (by decide) (fun c5 => ?_) (fun c5 => ?_)
        · replace hf := oif c5 hf
          obtain ⟨y6, ey6⟩ : ∃ y : Int32, y = v3 + 1 := ⟨_, rfl⟩
          replace hf := onm ey6 hf
          refine lv_iinc (v := y6) (lv' := [(3, .int y6), (0, .ref (b 0)), (1, .int v1), (2, .int v2)]) hx hb dX0_explanation_44 hl (k := 3) rfl (by rw [ey6]; rfl) (by decide) rfl (fun ls hl => ?_)
          refine lv_goto (tgt := 18) hx hb dX0_explanation_47 (by decide) ?_
          exact ih v1 v2 y6 H locs ls z hP hS (lv_sub hl [1, 2, 3, 0] rfl) hf K K2
        · replace hf := oel c5 hf
          refine lv_bipush (v := 18) hx hb dX0_explanation_33 (by decide) ?_
          refine lv_iload_n hx hb dX0_explanation_35 rfl (lv_at hl 1 rfl) ?_
          refine lv_imul hx hb dX0_explanation_36 ?_
          refine lv_iconst (v := 2) hx hb dX0_explanation_37 (by decide) ?_
          refine lv_iload_n hx hb dX0_explanation_38 rfl (lv_at hl 2 rfl) ?_
          refine lv_imul hx hb dX0_explanation_39 ?_
          refine lv_iadd hx hb dX0_explanation_40 ?_
          refine lv_iload_n hx hb dX0_explanation_41 rfl (lv_at hl 3 rfl) ?_
          refine lv_iadd hx hb dX0_explanation_42 ?_
          have er := K2 _ (Option.some.inj hf).symm
          exact rtI hx hb hr hS dX0_explanation_43 er hlocks
  have W10 : ∀ (n : Nat) (v1 : Int32) (v2 : Int32) (H : Heap) (locs : List Loc) (ls : Array Slot) (z : (Unit) ⊕ (Int32)), va_P D vwCl [oX0 b b_keyCount b_sheetSet b_handSort b_handNumber, aI cI (b 1) 6 b_kinds, aI cI (b 2) 6 b_sizes, aI cI (b 3) 72 b_sorts, aJ cJ (b 4) 72 b_numbers, aI cI (b 5) 8 b_weights] H → va_S no s.heap H locs → lv_has ls 4 [(0, .ref (b 0)), (1, .int v1), (2, .int v2)] → L_X0_explanation_10 b_kinds b_sizes b_sorts b_numbers b_weights v1 n v2 = some z → (∀ e9, z = Sum.inl e9 → ∀ (H : Heap) (locs : List Loc) (ls : Array Slot), va_P D vwCl [oX0 b b_keyCount b_sheetSet b_handSort b_handNumber, aI cI (b 1) 6 b_kinds, aI cI (b 2) 6 b_sizes, aI cI (b 3) 72 b_sorts, aJ cJ (b 4) 72 b_numbers, aI cI (b 5) 8 b_weights] H → va_S no s.heap H locs → lv_has ls 4 [(0, .ref (b 0)), (1, .int v1)] → W p l e { frames := 4, cells := 0, slots := 0, locals := 98 } s m args below meth c H locs 0 0 (MQ below (QrI zr) args s 0 0 no) (F0 m 56 ls [])) → (∀ r9, z = Sum.inr r9 → r9 = zr) → W p l e { frames := 4, cells := 0, slots := 0, locals := 98 } s m args below meth c H locs 0 0 (MQ below (QrI zr) args s 0 0 no) (F0 m 10 ls []) := by
    intro n
    induction n with
    | zero =>
      intro v1 v2 H locs ls z hP hS hl hf
      exact absurd (show (none : Option ((Unit) ⊕ (Int32))) = some z from hf) (fun h => by cases h)
    | succ n ih =>
      intro v1 v2 H locs ls z hP hS hl hf K K2
      rw [L_X0_explanation_10] at hf
      refine lv_iload_n hx hb dX0_explanation_10 rfl (lv_at hl 2 rfl) ?_
      refine lv_bipush (v := 8) hx hb dX0_explanation_11 (by decide) ?_
      refine lv_icmp_gt (tgt := 56) hx hb dX0_explanation_13 (by decide) (fun c2 => ?_) (fun c2 => ?_)
      · replace hf := oif c2 hf
        exact K _ (Option.some.inj hf).symm H locs ls hP hS (lv_sub hl [0, 1] rfl)
      · replace hf := oel c2 hf
        refine lv_iconst (v := 0) hx hb dX0_explanation_16 (by decide) ?_
        refine lv_istore_n (lv' := [(3, .int 0), (0, .ref (b 0)), (1, .int v1), (2, .int v2)]) hx hb dX0_explanation_17 rfl hl (by decide) rfl (fun ls hl => ?_)
        obtain ⟨z7, hz7, hf⟩ := obd hf
        refine W18 4000 v1 v2 0 H locs ls z7 hP hS (lv_sub hl [1, 2, 3, 0] rfl) hz7 (fun e8 ee H locs ls hP hS hl => ?_) (fun r9 er => by subst er; exact K2 _ (Option.some.inj hf).symm)
        subst ee
        replace hf := osl hf
        obtain ⟨y9, ey9⟩ : ∃ y : Int32, y = v2 + 1 := ⟨_, rfl⟩
        replace hf := onm ey9 hf
        refine lv_iinc (v := y9) (lv' := [(2, .int y9), (0, .ref (b 0)), (1, .int v1)]) hx hb dX0_explanation_50 hl (k := 2) rfl (by rw [ey9]; rfl) (by decide) rfl (fun ls hl => ?_)
        refine lv_goto (tgt := 10) hx hb dX0_explanation_53 (by decide) ?_
        exact ih v1 y9 H locs ls z hP hS (lv_sub hl [1, 2, 0] rfl) hf K K2
  have W2 : ∀ (n : Nat) (v1 : Int32) (H : Heap) (locs : List Loc) (ls : Array Slot) (z : (Unit) ⊕ (Int32)), va_P D vwCl [oX0 b b_keyCount b_sheetSet b_handSort b_handNumber, aI cI (b 1) 6 b_kinds, aI cI (b 2) 6 b_sizes, aI cI (b 3) 72 b_sorts, aJ cJ (b 4) 72 b_numbers, aI cI (b 5) 8 b_weights] H → va_S no s.heap H locs → lv_has ls 4 [(0, .ref (b 0)), (1, .int v1)] → L_X0_explanation_2 b_kinds b_sizes b_sorts b_numbers b_weights n v1 = some z → (∀ e9, z = Sum.inl e9 → ∀ (H : Heap) (locs : List Loc) (ls : Array Slot), va_P D vwCl [oX0 b b_keyCount b_sheetSet b_handSort b_handNumber, aI cI (b 1) 6 b_kinds, aI cI (b 2) 6 b_sizes, aI cI (b 3) 72 b_sorts, aJ cJ (b 4) 72 b_numbers, aI cI (b 5) 8 b_weights] H → va_S no s.heap H locs → lv_has ls 4 [] → W p l e { frames := 4, cells := 0, slots := 0, locals := 98 } s m args below meth c H locs 0 0 (MQ below (QrI zr) args s 0 0 no) (F0 m 62 ls [])) → (∀ r9, z = Sum.inr r9 → r9 = zr) → W p l e { frames := 4, cells := 0, slots := 0, locals := 98 } s m args below meth c H locs 0 0 (MQ below (QrI zr) args s 0 0 no) (F0 m 2 ls []) := by
    intro n
    induction n with
    | zero =>
      intro v1 H locs ls z hP hS hl hf
      exact absurd (show (none : Option ((Unit) ⊕ (Int32))) = some z from hf) (fun h => by cases h)
    | succ n ih =>
      intro v1 H locs ls z hP hS hl hf K K2
      rw [L_X0_explanation_2] at hf
      refine lv_iload_n hx hb dX0_explanation_2 rfl (lv_at hl 1 rfl) ?_
      refine lv_bipush (v := 6) hx hb dX0_explanation_3 (by decide) ?_
      refine lv_icmp_ge (tgt := 62) hx hb dX0_explanation_5 (by decide) (fun c1 => ?_) (fun c1 => ?_)
      · replace hf := oif c1 hf
        exact K _ (Option.some.inj hf).symm H locs ls hP hS (lv_sub hl [] rfl)
      · replace hf := oel c1 hf
        refine lv_iconst (v := 0) hx hb dX0_explanation_8 (by decide) ?_
        refine lv_istore_n (lv' := [(2, .int 0), (0, .ref (b 0)), (1, .int v1)]) hx hb dX0_explanation_9 rfl hl (by decide) rfl (fun ls hl => ?_)
        obtain ⟨z10, hz10, hf⟩ := obd hf
        refine W10 4000 v1 0 H locs ls z10 hP hS (lv_sub hl [1, 2, 0] rfl) hz10 (fun e11 ee H locs ls hP hS hl => ?_) (fun r9 er => by subst er; exact K2 _ (Option.some.inj hf).symm)
        subst ee
        replace hf := osl hf
        obtain ⟨y12, ey12⟩ : ∃ y : Int32, y = v1 + 1 := ⟨_, rfl⟩
        replace hf := onm ey12 hf
        refine lv_iinc (v := y12) (lv' := [(1, .int y12), (0, .ref (b 0))]) hx hb dX0_explanation_56 hl (k := 1) rfl (by rw [ey12]; rfl) (by decide) rfl (fun ls hl => ?_)
        refine lv_goto (tgt := 2) hx hb dX0_explanation_59 (by decide) ?_
        exact ih y12 H locs ls z hP hS (lv_sub hl [1, 0] rfl) hf K K2
  unfold f_X0_explanation at hf
  have go : ∀ (H : Heap) (locs : List Loc), va_P D vwCl [oX0 b b_keyCount b_sheetSet b_handSort b_handNumber, aI cI (b 1) 6 b_kinds, aI cI (b 2) 6 b_sizes, aI cI (b 3) 72 b_sorts, aJ cJ (b 4) 72 b_numbers, aI cI (b 5) 8 b_weights] H → va_S no s.heap H locs → W p l e { frames := 4, cells := 0, slots := 0, locals := 98 } s m args below meth c H locs 0 0 (MQ below (QrI zr) args s 0 0 no) (F0 m 0 ls []) := by
    intro H locs hP hS
    refine lv_iconst (v := 0) hx hb dX0_explanation_0 (by decide) ?_
    refine lv_istore_n (lv' := [(1, .int 0), (0, .ref (b 0))]) hx hb dX0_explanation_1 rfl hl (by decide) rfl (fun ls hl => ?_)
    obtain ⟨z13, hz13, hf⟩ := obd hf
    refine W2 4000 0 H locs ls z13 hP hS (lv_sub hl [1, 0] rfl) hz13 (fun e14 ee H locs ls hP hS hl => ?_) (fun r9 er => by subst er; exact Option.some.inj hf)
    subst ee
    replace hf := osl hf
    refine lv_iconst (v := (-1)) hx hb dX0_explanation_62 (by decide) ?_
    have er := Option.some.inj hf
    exact rtI hx hb hr hS dX0_explanation_63 er hlocks
  exact go s.heap [] hP hS
