noncomputable def f_X6_rank (w_w : Nat → Int64) (x1 : Int32) (x2 : Int32) : Option (Int32) := (f_X6_isPlace w_w x1).bind (fun z1 => if z1 = 0 then (some ((-1000000001))) else ((f_X6_places w_w).bind (fun z3 => if x2 = 0 then ((f_X6_lessThan w_w x1 z3).bind (fun z5 => some (z5))) else (if x2 = 1 then ((f_X6_unlikeLess w_w x1 z3).bind (fun z7 => some (z7))) else (if x2 = 2 then ((f_X6_position w_w 15 x1 z3).bind (fun z9 => some (z9))) else (if x2 = 3 then ((f_X6_alikeTo w_w x1 z3).bind (fun z11 => some (z11))) else (if x2 = 4 then ((f_X6_placeAt w_w x1 z3).bind (fun z13 => some (z13))) else (some ((-1000000002))))))))))
set_option maxHeartbeats 4000000 in
set_option maxRecDepth 100000 in
theorem c_X6_rank (l : Launch) (D : va_G) (cI cJ cZ cQ : ClassId) (bs sz : Nat) (w : Nat → Nat) (w_undos : Int32) (w_seed : Int32) (w_entries : Int32) (w_w : Nat → Int64) (x1 : Int32) (x2 : Int32) (zr : Int32) (hf : f_X6_rank w_w x1 x2 = some zr) : Met l yX6_rank wsX6_rank { frames := 7, cells := 0, slots := 0, locals := 179 } (va_Pc [.ref (w 0), .int x1, .int x2] (Pr D cI cJ cZ cQ bs sz [oX6 w w_undos w_seed w_entries, aJ cJ (w 1) 3420 w_w])) (QrI zr) 0 0 no := by
  refine stM (cc := cX6_rank) (maxL := 4) (ret := (some .int)) (by decide +kernel) rfl (Nat.le_of_ble_eq_true rfl) ?_
  intro p e s m args below meth c C0 hr hlocks hname hsz hP hDb hE ls hl
  have hAb : ∀ q, no q → bs ≤ q := fun _ h => h.elim
  obtain ⟨hx, hb, hml, hown, hts⟩ := id C0
  have hown : s.vm.findClass RX6 = some m.cls := hown
  obtain ⟨hK, hNW, -, tw, hZ, hT⟩ := id hE
  have hl : lv_has ls 4 [(0, .ref (w 0)), (1, .int x1), (2, .int x2)] := hl
  have hS : va_S no s.heap s.heap [] := va_S.rf
  have gk192 := hts (.constant RX6 192 (-1000000002)) (by decide +kernel)
  have gk198 := hts (.constant RX6 198 (-1000000001)) (by decide +kernel)
  unfold f_X6_rank at hf
  have go : ∀ (H : Heap) (locs : List Loc), va_P D vwCl [oX6 w w_undos w_seed w_entries, aJ cJ (w 1) 3420 w_w] H → va_S no s.heap H locs → W p l e { frames := 7, cells := 0, slots := 0, locals := 179 } s m args below meth c H locs 0 0 (MQ below (QrI zr) args s 0 0 no) (F0 m 0 ls []) := by
    intro H locs hP hS
    refine lv_aload_n hx hb dX6_rank_0 rfl (lv_at hl 0 rfl) ?_
    refine lv_iload_n hx hb dX6_rank_1 rfl (lv_at hl 1 rfl) ?_
    obtain ⟨z1, hz1, hf⟩ := obd hf
    refine kZ (runV (As := [.int x1]) (rest := []) C0 hE hAb hP (hDb.addr rfl) hS [0, 1] (wc := [oX6 w w_undos w_seed w_entries, aJ cJ (w 1) 3420 w_w]) (by decide) rfl 0 rfl rfl (c_X6_isPlace l D cI cJ cZ cQ bs H.size w w_undos w_seed w_entries w_w x1 z1 hz1) (cwV 1 hts gX6_rank_X6_isPlace rfl rfl rfl (by decide +kernel) ⟨Nat.le_of_ble_eq_true rfl, Nat.le_of_ble_eq_true rfl⟩) rfl hl.1 rfl (Nat.le_of_ble_eq_true rfl) dX6_rank_2 ⟨Nat.le_of_ble_eq_true rfl, Nat.le_of_ble_eq_true rfl⟩) hS hP (fun bz1 H locs hP hS => ?_)
    refine lv_if_ne (tgt := 11) hx hb dX6_rank_5 (by decide) (fun c2 => ?_) (fun c2 => ?_)
    · replace hf := oel c2 hf
      refine lv_aload_n hx hb dX6_rank_11 rfl (lv_at hl 0 rfl) ?_
      obtain ⟨z3, hz3, hf⟩ := obd hf
      refine kI (runV (As := []) (rest := []) C0 hE hAb hP (hDb.addr rfl) hS [0, 1] (wc := [oX6 w w_undos w_seed w_entries, aJ cJ (w 1) 3420 w_w]) (by decide) rfl 0 rfl rfl (c_X6_places l D cI cJ cZ cQ bs H.size w w_undos w_seed w_entries w_w z3 hz3) (cwV 0 hts gX6_rank_X6_places rfl rfl rfl (by decide +kernel) ⟨Nat.le_of_ble_eq_true rfl, Nat.le_of_ble_eq_true rfl⟩) rfl hl.1 rfl (Nat.le_of_ble_eq_true rfl) dX6_rank_12 ⟨Nat.le_of_ble_eq_true rfl, Nat.le_of_ble_eq_true rfl⟩) hS hP (fun H locs hP hS => ?_)
      refine lv_istore_n (lv' := [(3, .int z3), (0, .ref (w 0)), (1, .int x1), (2, .int x2)]) hx hb dX6_rank_15 rfl hl (by decide) rfl (fun ls hl => ?_)
      refine lv_iload_n hx hb dX6_rank_16 rfl (lv_at hl 3 rfl) ?_
      by_cases c4 : x2 = 0
      · replace hf := oif c4 hf
        refine cgI c4 ?_
        refine lv_tableIn (off := 35) (tgt := 52) hx hb dX6_rank_17 (by decide) (by decide) (by decide +kernel) (by decide) ?_
        refine lv_aload_n hx hb dX6_rank_52 rfl (lv_at hl 1 rfl) ?_
        refine lv_iload_n hx hb dX6_rank_53 rfl (lv_at hl 2 rfl) ?_
        refine lv_iload_n hx hb dX6_rank_54 rfl (lv_at hl 0 rfl) ?_
        obtain ⟨z5, hz5, hf⟩ := obd hf
        refine kI (runV (As := [.int x1, .int z3]) (rest := []) C0 hE hAb hP (hDb.addr rfl) hS [0, 1] (wc := [oX6 w w_undos w_seed w_entries, aJ cJ (w 1) 3420 w_w]) (by decide) rfl 0 rfl rfl (c_X6_lessThan l D cI cJ cZ cQ bs H.size w w_undos w_seed w_entries w_w x1 z3 z5 hz5) (cwV 2 hts gX6_rank_X6_lessThan rfl rfl rfl (by decide +kernel) ⟨Nat.le_of_ble_eq_true rfl, Nat.le_of_ble_eq_true rfl⟩) rfl hl.1 rfl (Nat.le_of_ble_eq_true rfl) dX6_rank_55 ⟨Nat.le_of_ble_eq_true rfl, Nat.le_of_ble_eq_true rfl⟩) hS hP (fun H locs hP hS => ?_)
        have er := Option.some.inj hf
        exact rtI hx hb hr hS dX6_rank_58 er hlocks
      replace hf := oel c4 hf
      by_cases c6 : x2 = 1
      · replace hf := oif c6 hf
        refine cgI c6 ?_
        refine lv_tableIn (off := 42) (tgt := 59) hx hb dX6_rank_17 (by decide) (by decide) (by decide +kernel) (by decide) ?_
        refine lv_aload_n hx hb dX6_rank_59 rfl (lv_at hl 1 rfl) ?_
        refine lv_iload_n hx hb dX6_rank_60 rfl (lv_at hl 2 rfl) ?_
        refine lv_iload_n hx hb dX6_rank_61 rfl (lv_at hl 0 rfl) ?_
        obtain ⟨z7, hz7, hf⟩ := obd hf
        refine kI (runV (As := [.int x1, .int z3]) (rest := []) C0 hE hAb hP (hDb.addr rfl) hS [0, 1] (wc := [oX6 w w_undos w_seed w_entries, aJ cJ (w 1) 3420 w_w]) (by decide) rfl 0 rfl rfl (c_X6_unlikeLess l D cI cJ cZ cQ bs H.size w w_undos w_seed w_entries w_w x1 z3 z7 hz7) (cwV 2 hts gX6_rank_X6_unlikeLess rfl rfl rfl (by decide +kernel) ⟨Nat.le_of_ble_eq_true rfl, Nat.le_of_ble_eq_true rfl⟩) rfl hl.1 rfl (Nat.le_of_ble_eq_true rfl) dX6_rank_62 ⟨Nat.le_of_ble_eq_true rfl, Nat.le_of_ble_eq_true rfl⟩) hS hP (fun H locs hP hS => ?_)
        have er := Option.some.inj hf
        exact rtI hx hb hr hS dX6_rank_65 er hlocks
      replace hf := oel c6 hf
      by_cases c8 : x2 = 2
      · replace hf := oif c8 hf
        refine cgI c8 ?_
        refine lv_tableIn (off := 49) (tgt := 66) hx hb dX6_rank_17 (by decide) (by decide) (by decide +kernel) (by decide) ?_
        refine lv_aload_n hx hb dX6_rank_66 rfl (lv_at hl 1 rfl) ?_
        refine lv_bipush (v := 15) hx hb dX6_rank_67 (by decide) ?_
        refine lv_iload_n hx hb dX6_rank_69 rfl (lv_at hl 2 rfl) ?_
        refine lv_iload_n hx hb dX6_rank_70 rfl (lv_at hl 0 rfl) ?_
        obtain ⟨z9, hz9, hf⟩ := obd hf
        refine kI (runV (As := [.int 15, .int x1, .int z3]) (rest := []) C0 hE hAb hP (hDb.addr rfl) hS [0, 1] (wc := [oX6 w w_undos w_seed w_entries, aJ cJ (w 1) 3420 w_w]) (by decide) rfl 0 rfl rfl (c_X6_position l D cI cJ cZ cQ bs H.size w w_undos w_seed w_entries w_w 15 x1 z3 z9 hz9) (cwV 3 hts gX6_rank_X6_position rfl rfl rfl (by decide +kernel) ⟨Nat.le_of_ble_eq_true rfl, Nat.le_of_ble_eq_true rfl⟩) rfl hl.1 rfl (Nat.le_of_ble_eq_true rfl) dX6_rank_71 ⟨Nat.le_of_ble_eq_true rfl, Nat.le_of_ble_eq_true rfl⟩) hS hP (fun H locs hP hS => ?_)
        have er := Option.some.inj hf
        exact rtI hx hb hr hS dX6_rank_74 er hlocks
      replace hf := oel c8 hf
      by_cases c10 : x2 = 3
      · replace hf := oif c10 hf
        refine cgI c10 ?_
        refine lv_tableIn (off := 58) (tgt := 75) hx hb dX6_rank_17 (by decide) (by decide) (by decide +kernel) (by decide) ?_
        refine lv_aload_n hx hb dX6_rank_75 rfl (lv_at hl 1 rfl) ?_
        refine lv_iload_n hx hb dX6_rank_76 rfl (lv_at hl 2 rfl) ?_
        refine lv_iload_n hx hb dX6_rank_77 rfl (lv_at hl 0 rfl) ?_
        obtain ⟨z11, hz11, hf⟩ := obd hf
        refine kI (runV (As := [.int x1, .int z3]) (rest := []) C0 hE hAb hP (hDb.addr rfl) hS [0, 1] (wc := [oX6 w w_undos w_seed w_entries, aJ cJ (w 1) 3420 w_w]) (by decide) rfl 0 rfl rfl (c_X6_alikeTo l D cI cJ cZ cQ bs H.size w w_undos w_seed w_entries w_w x1 z3 z11 hz11) (cwV 2 hts gX6_rank_X6_alikeTo rfl rfl rfl (by decide +kernel) ⟨Nat.le_of_ble_eq_true rfl, Nat.le_of_ble_eq_true rfl⟩) rfl hl.1 rfl (Nat.le_of_ble_eq_true rfl) dX6_rank_78 ⟨Nat.le_of_ble_eq_true rfl, Nat.le_of_ble_eq_true rfl⟩) hS hP (fun H locs hP hS => ?_)
        have er := Option.some.inj hf
        exact rtI hx hb hr hS dX6_rank_81 er hlocks
      replace hf := oel c10 hf
      by_cases c12 : x2 = 4
      · replace hf := oif c12 hf
        refine cgI c12 ?_
        refine lv_tableIn (off := 65) (tgt := 82) hx hb dX6_rank_17 (by decide) (by decide) (by decide +kernel) (by decide) ?_
        refine lv_aload_n hx hb dX6_rank_82 rfl (lv_at hl 1 rfl) ?_
        refine lv_iload_n hx hb dX6_rank_83 rfl (lv_at hl 2 rfl) ?_
        refine lv_iload_n hx hb dX6_rank_84 rfl (lv_at hl 0 rfl) ?_
        obtain ⟨z13, hz13, hf⟩ := obd hf
        refine kI (runV (As := [.int x1, .int z3]) (rest := []) C0 hE hAb hP (hDb.addr rfl) hS [0, 1] (wc := [oX6 w w_undos w_seed w_entries, aJ cJ (w 1) 3420 w_w]) (by decide) rfl 0 rfl rfl (c_X6_placeAt l D cI cJ cZ cQ bs H.size w w_undos w_seed w_entries w_w x1 z3 z13 hz13) (cwV 2 hts gX6_rank_X6_placeAt rfl rfl rfl (by decide +kernel) ⟨Nat.le_of_ble_eq_true rfl, Nat.le_of_ble_eq_true rfl⟩) rfl hl.1 rfl (Nat.le_of_ble_eq_true rfl) dX6_rank_85 ⟨Nat.le_of_ble_eq_true rfl, Nat.le_of_ble_eq_true rfl⟩) hS hP (fun H locs hP hS => ?_)
        have er := Option.some.inj hf
        exact rtI hx hb hr hS dX6_rank_88 er hlocks
      replace hf := oel c12 hf
      refine lv_tableOut (tgt := 89) hx hb dX6_rank_17 (by have a0 := lv_neT c4 (a := 0) (by decide); have a1 := lv_neT c6 (a := 1) (by decide); have a2 := lv_neT c8 (a := 2) (by decide); have a3 := lv_neT c10 (a := 3) (by decide); have a4 := lv_neT c12 (a := 4) (by decide); omega) (by decide) ?_
      refine lv_ldc hx hb hown gk192 dX6_rank_89 ?_
      have er := Option.some.inj hf
      exact rtI hx hb hr hS dX6_rank_91 er hlocks
    · replace hf := oif c2 hf
      refine lv_ldc hx hb hown gk198 dX6_rank_8 ?_
      have er := Option.some.inj hf
      exact rtI hx hb hr hS dX6_rank_10 er hlocks
  exact go s.heap [] hP hS
noncomputable def f_X6_compare (w_w : Nat → Int64) (x1 : Int32) (x2 : Int32) : Option (Int32) := (f_X6_isPlace w_w x1).bind (fun z1 => if z1 = 0 then (some ((-1000000001))) else ((f_X6_isPlace w_w x2).bind (fun z3 => if z3 = 0 then (some ((-1000000001))) else ((f_X6_by w_w 15 x1 x2).bind (fun z5 => some ((z5 + (1 : Int32))))))))
set_option maxHeartbeats 4000000 in
set_option maxRecDepth 100000 in
theorem c_X6_compare (l : Launch) (D : va_G) (cI cJ cZ cQ : ClassId) (bs sz : Nat) (w : Nat → Nat) (w_undos : Int32) (w_seed : Int32) (w_entries : Int32) (w_w : Nat → Int64) (x1 : Int32) (x2 : Int32) (zr : Int32) (hf : f_X6_compare w_w x1 x2 = some zr) : Met l yX6_compare wsX6_compare { frames := 5, cells := 0, slots := 0, locals := 130 } (va_Pc [.ref (w 0), .int x1, .int x2] (Pr D cI cJ cZ cQ bs sz [oX6 w w_undos w_seed w_entries, aJ cJ (w 1) 3420 w_w])) (QrI zr) 0 0 no := by
  refine stM (cc := cX6_compare) (maxL := 3) (ret := (some .int)) (by decide +kernel) rfl (Nat.le_of_ble_eq_true rfl) ?_
  intro p e s m args below meth c C0 hr hlocks hname hsz hP hDb hE ls hl
  have hAb : ∀ q, no q → bs ≤ q := fun _ h => h.elim
  obtain ⟨hx, hb, hml, hown, hts⟩ := id C0
  have hown : s.vm.findClass RX6 = some m.cls := hown
  obtain ⟨hK, hNW, -, tw, hZ, hT⟩ := id hE
  have hl : lv_has ls 3 [(0, .ref (w 0)), (1, .int x1), (2, .int x2)] := hl
  have hS : va_S no s.heap s.heap [] := va_S.rf
  have gk198 := hts (.constant RX6 198 (-1000000001)) (by decide +kernel)
  unfold f_X6_compare at hf
  have go : ∀ (H : Heap) (locs : List Loc), va_P D vwCl [oX6 w w_undos w_seed w_entries, aJ cJ (w 1) 3420 w_w] H → va_S no s.heap H locs → W p l e { frames := 5, cells := 0, slots := 0, locals := 130 } s m args below meth c H locs 0 0 (MQ below (QrI zr) args s 0 0 no) (F0 m 0 ls []) := by
    intro H locs hP hS
    refine lv_aload_n hx hb dX6_compare_0 rfl (lv_at hl 0 rfl) ?_
    refine lv_iload_n hx hb dX6_compare_1 rfl (lv_at hl 1 rfl) ?_
    obtain ⟨z1, hz1, hf⟩ := obd hf
    refine kZ (runV (As := [.int x1]) (rest := []) C0 hE hAb hP (hDb.addr rfl) hS [0, 1] (wc := [oX6 w w_undos w_seed w_entries, aJ cJ (w 1) 3420 w_w]) (by decide) rfl 0 rfl rfl (c_X6_isPlace l D cI cJ cZ cQ bs H.size w w_undos w_seed w_entries w_w x1 z1 hz1) (cwV 1 hts gX6_compare_X6_isPlace rfl rfl rfl (by decide +kernel) ⟨Nat.le_of_ble_eq_true rfl, Nat.le_of_ble_eq_true rfl⟩) rfl hl.1 rfl (Nat.le_of_ble_eq_true rfl) dX6_compare_2 ⟨Nat.le_of_ble_eq_true rfl, Nat.le_of_ble_eq_true rfl⟩) hS hP (fun bz1 H locs hP hS => ?_)
    refine lv_if_eq (tgt := 29) hx hb dX6_compare_5 (by decide) (fun c2 => ?_) (fun c2 => ?_)
    · replace hf := oif c2 hf
      refine lv_ldc hx hb hown gk198 dX6_compare_29 ?_
      have er := Option.some.inj hf
      exact rtI hx hb hr hS dX6_compare_31 er hlocks
    · replace hf := oel c2 hf
      refine lv_aload_n hx hb dX6_compare_8 rfl (lv_at hl 0 rfl) ?_
      refine lv_iload_n hx hb dX6_compare_9 rfl (lv_at hl 2 rfl) ?_
      obtain ⟨z3, hz3, hf⟩ := obd hf
      refine kZ (runV (As := [.int x2]) (rest := []) C0 hE hAb hP (hDb.addr rfl) hS [0, 1] (wc := [oX6 w w_undos w_seed w_entries, aJ cJ (w 1) 3420 w_w]) (by decide) rfl 0 rfl rfl (c_X6_isPlace l D cI cJ cZ cQ bs H.size w w_undos w_seed w_entries w_w x2 z3 hz3) (cwV 1 hts gX6_compare_X6_isPlace rfl rfl rfl (by decide +kernel) ⟨Nat.le_of_ble_eq_true rfl, Nat.le_of_ble_eq_true rfl⟩) rfl hl.1 rfl (Nat.le_of_ble_eq_true rfl) dX6_compare_10 ⟨Nat.le_of_ble_eq_true rfl, Nat.le_of_ble_eq_true rfl⟩) hS hP (fun bz3 H locs hP hS => ?_)
      refine lv_if_eq (tgt := 29) hx hb dX6_compare_13 (by decide) (fun c4 => ?_) (fun c4 => ?_)
      · replace hf := oif c4 hf
        refine lv_ldc hx hb hown gk198 dX6_compare_29 ?_
        have er := Option.some.inj hf
        exact rtI hx hb hr hS dX6_compare_31 er hlocks
      · replace hf := oel c4 hf
        refine lv_aload_n hx hb dX6_compare_16 rfl (lv_at hl 0 rfl) ?_
        refine lv_bipush (v := 15) hx hb dX6_compare_17 (by decide) ?_
        refine lv_iload_n hx hb dX6_compare_19 rfl (lv_at hl 1 rfl) ?_
        refine lv_iload_n hx hb dX6_compare_20 rfl (lv_at hl 2 rfl) ?_
        obtain ⟨z5, hz5, hf⟩ := obd hf
        refine kI (runV (As := [.int 15, .int x1, .int x2]) (rest := []) C0 hE hAb hP (hDb.addr rfl) hS [0, 1] (wc := [oX6 w w_undos w_seed w_entries, aJ cJ (w 1) 3420 w_w]) (by decide) rfl 0 rfl rfl (c_X6_by l D cI cJ cZ cQ bs H.size w w_undos w_seed w_entries w_w 15 x1 x2 z5 hz5) (cwV 3 hts gX6_compare_X6_by rfl rfl rfl (by decide +kernel) ⟨Nat.le_of_ble_eq_true rfl, Nat.le_of_ble_eq_true rfl⟩) rfl hl.1 rfl (Nat.le_of_ble_eq_true rfl) dX6_compare_21 ⟨Nat.le_of_ble_eq_true rfl, Nat.le_of_ble_eq_true rfl⟩) hS hP (fun H locs hP hS => ?_)
        refine lv_iconst (v := 1) hx hb dX6_compare_24 (by decide) ?_
        refine lv_iadd hx hb dX6_compare_25 ?_
        refine lv_goto (tgt := 31) hx hb dX6_compare_26 (by decide) ?_
        have er := Option.some.inj hf
        exact rtI hx hb hr hS dX6_compare_31 er hlocks
  exact go s.heap [] hP hS
noncomputable def L_X6_below_158 (w_w : Nat → Int64) (v1 : Int32) (v2 : Int32) (v3 : Int32) (v4 : Int32) (v6 : Int64) : Nat → Int32 → Int32 → Option (Int32)
  | 0, _, _ => none
  | n + 1, v8, v9 => (f_X6_many w_w v1).bind (fun z19 => if z19 ≤ v9 then (some (v8)) else ((f_X6_sortRead w_w v1 v9 v2).bind (fun z21 => (f_X6_numberRead w_w v1 v9 v2).bind (fun z22 => (f_X6_against w_w z21 z22 v4 v6).bind (fun z23 => if z23 = (v3 - (1 : Int32)) then ((some (v9 + 1 : Int32)).bind (fun y26 => L_X6_below_158 w_w v1 v2 v3 v4 v6 n (v8 + (1 : Int32)) y26)) else ((some (v9 + 1 : Int32)).bind (fun y25 => L_X6_below_158 w_w v1 v2 v3 v4 v6 n (v8 + (0 : Int32)) y25)))))))
noncomputable def f_X6_below (w_w : Nat → Int64) (x1 : Int32) (x2 : Int32) (x3 : Int32) : Option (Int32) := (f_X6_isSlot x1).bind (fun z1 => if z1 = 0 then (some ((-1000000001))) else ((f_X6_in (Int32.toInt64 x2) 0 8).bind (fun z3 => if z3 = 0 then (some ((-1000000002))) else ((f_X6_in (Int32.toInt64 x3) 0 1).bind (fun z5 => if z5 = 0 then (some ((-1000000002))) else ((some ((Int64.toInt32 (w_w (Int32.toNatClampNeg 170))) : Int32)).bind (fun y8 => if x2 = 8 then ((f_X6_isRow w_w x1).bind (fun z11 => if z11 = 0 then (some ((-1))) else ((f_X6_many w_w x1).bind (fun z13 => if z13 ≤ 0 then (if x2 = 8 then (if x2 = 8 then ((L_X6_below_158 w_w x1 x2 x3 y8 (w_w (Int32.toNatClampNeg 171)) 4000 0 0).bind (fun z32 => some (z32))) else ((L_X6_below_158 w_w x1 x2 x3 x2 (w_w (Int32.toNatClampNeg 171)) 4000 0 0).bind (fun z31 => some (z31)))) else ((f_X6_gone (w_w (Int32.toNatClampNeg 171)) x2).bind (fun z17 => if x2 = 8 then ((L_X6_below_158 w_w x1 x2 x3 y8 z17 4000 0 0).bind (fun z28 => some (z28))) else ((L_X6_below_158 w_w x1 x2 x3 x2 z17 4000 0 0).bind (fun z27 => some (z27)))))) else ((f_X6_reads w_w x1 x2).bind (fun z33 => if z33 = 0 then (some ((-1))) else (if x2 = 8 then (if x2 = 8 then ((L_X6_below_158 w_w x1 x2 x3 y8 (w_w (Int32.toNatClampNeg 171)) 4000 0 0).bind (fun z44 => some (z44))) else ((L_X6_below_158 w_w x1 x2 x3 x2 (w_w (Int32.toNatClampNeg 171)) 4000 0 0).bind (fun z43 => some (z43)))) else ((f_X6_gone (w_w (Int32.toNatClampNeg 171)) x2).bind (fun z37 => if x2 = 8 then ((L_X6_below_158 w_w x1 x2 x3 y8 z37 4000 0 0).bind (fun z40 => some (z40))) else ((L_X6_below_158 w_w x1 x2 x3 x2 z37 4000 0 0).bind (fun z39 => some (z39)))))))))))) else (if 7 < y8 then (some ((-1))) else ((f_X6_goes y8 x2).bind (fun z47 => if z47 = 0 then (some ((-1))) else ((f_X6_isRow w_w x1).bind (fun z51 => if z51 = 0 then (some ((-1))) else ((f_X6_many w_w x1).bind (fun z53 => if z53 ≤ 0 then (if x2 = 8 then (if x2 = 8 then ((L_X6_below_158 w_w x1 x2 x3 y8 (w_w (Int32.toNatClampNeg 171)) 4000 0 0).bind (fun z64 => some (z64))) else ((L_X6_below_158 w_w x1 x2 x3 x2 (w_w (Int32.toNatClampNeg 171)) 4000 0 0).bind (fun z63 => some (z63)))) else ((f_X6_gone (w_w (Int32.toNatClampNeg 171)) x2).bind (fun z57 => if x2 = 8 then ((L_X6_below_158 w_w x1 x2 x3 y8 z57 4000 0 0).bind (fun z60 => some (z60))) else ((L_X6_below_158 w_w x1 x2 x3 x2 z57 4000 0 0).bind (fun z59 => some (z59)))))) else ((f_X6_reads w_w x1 x2).bind (fun z65 => if z65 = 0 then (some ((-1))) else (if x2 = 8 then (if x2 = 8 then ((L_X6_below_158 w_w x1 x2 x3 y8 (w_w (Int32.toNatClampNeg 171)) 4000 0 0).bind (fun z76 => some (z76))) else ((L_X6_below_158 w_w x1 x2 x3 x2 (w_w (Int32.toNatClampNeg 171)) 4000 0 0).bind (fun z75 => some (z75)))) else ((f_X6_gone (w_w (Int32.toNatClampNeg 171)) x2).bind (fun z69 => if x2 = 8 then ((L_X6_below_158 w_w x1 x2 x3 y8 z69 4000 0 0).bind (fun z72 => some (z72))) else ((L_X6_below_158 w_w x1 x2 x3 x2 z69 4000 0 0).bind (fun z71 => some (z71))))))))))))))))))))))
set_option maxHeartbeats 4000000 in
set_option maxRecDepth 100000 in
theorem c_X6_below (l : Launch) (D : va_G) (cI cJ cZ cQ : ClassId) (bs sz : Nat) (w : Nat → Nat) (w_undos : Int32) (w_seed : Int32) (w_entries : Int32) (w_w : Nat → Int64) (x1 : Int32) (x2 : Int32) (x3 : Int32) (zr : Int32) (hf : f_X6_below w_w x1 x2 x3 = some zr) : Met l yX6_below wsX6_below { frames := 3, cells := 0, slots := 0, locals := 81 } (va_Pc [.ref (w 0), .int x1, .int x2, .int x3] (Pr D cI cJ cZ cQ bs sz [oX6 w w_undos w_seed w_entries, aJ cJ (w 1) 3420 w_w])) (QrI zr) 0 0 no := by
  refine stM (cc := cX6_below) (maxL := 10) (ret := (some .int)) (by decide +kernel) rfl (Nat.le_of_ble_eq_true rfl) ?_
  intro p e s m args below meth c C0 hr hlocks hname hsz hP hDb hE ls hl
  have hAb : ∀ q, no q → bs ≤ q := fun _ h => h.elim
  obtain ⟨hx, hb, hml, hown, hts⟩ := id C0
  have hown : s.vm.findClass RX6 = some m.cls := hown
  obtain ⟨hK, hNW, -, tw, hZ, hT⟩ := id hE
  have hl : lv_has ls 10 [(0, .ref (w 0)), (1, .int x1), (2, .int x2), (3, .int x3)] := hl
  have hS : va_S no s.heap s.heap [] := va_S.rf
  have gk227 := hts (.constantLong RX6 227 (8)) (by decide +kernel)
  have gk192 := hts (.constant RX6 192 (-1000000002)) (by decide +kernel)
  have hI_X6 := (show ∀ w ∈ wsX60, w ∈ wsX6_below by decide +kernel)
  have gf7 := hts (.fieldLink RX6 7 "RowRanksModel" "w" "[J") (by decide +kernel)
  have gk198 := hts (.constant RX6 198 (-1000000001)) (by decide +kernel)
  have W158 : ∀ (n : Nat) (v1 : Int32) (v2 : Int32) (v3 : Int32) (v4 : Int32) (v6 : Int64) (v8 : Int32) (v9 : Int32) (H : Heap) (locs : List Loc) (ls : Array Slot) (z : Int32), va_P D vwCl [oX6 w w_undos w_seed w_entries, aJ cJ (w 1) 3420 w_w] H → va_S no s.heap H locs → lv_has ls 10 [(0, .ref (w 0)), (1, .int v1), (2, .int v2), (3, .int v3), (4, .int v4), (6, .long v6), (8, .int v8), (9, .int v9)] → L_X6_below_158 w_w v1 v2 v3 v4 v6 n v8 v9 = some z → (∀ (H : Heap) (locs : List Loc) (ls : Array Slot), va_P D vwCl [oX6 w w_undos w_seed w_entries, aJ cJ (w 1) 3420 w_w] H → va_S no s.heap H locs → lv_has ls 10 [(8, .int z)] → W p l e { frames := 3, cells := 0, slots := 0, locals := 81 } s m args below meth c H locs 0 0 (MQ below (QrI zr) args s 0 0 no) (F0 m 214 ls [])) → W p l e { frames := 3, cells := 0, slots := 0, locals := 81 } s m args below meth c H locs 0 0 (MQ below (QrI zr) args s 0 0 no) (F0 m 158 ls []) := by
    intro n
    induction n with
    | zero =>
      intro v1 v2 v3 v4 v6 v8 v9 H locs ls z hP hS hl hf
      exact absurd (show (none : Option (Int32)) = some z from hf) (fun h => by cases h)
    | succ n ih =>
      intro v1 v2 v3 v4 v6 v8 v9 H locs ls z hP hS hl hf K
      rw [L_X6_below_158] at hf
      refine lv_iload hx hb dX6_below_158 (lv_at hl 7 rfl) ?_
      refine lv_aload_n hx hb dX6_below_160 rfl (lv_at hl 0 rfl) ?_
      refine lv_iload_n hx hb dX6_below_161 rfl (lv_at hl 1 rfl) ?_
      obtain ⟨z19, hz19, hf⟩ := obd hf
      refine kI (runV (As := [.int v1]) (rest := [.int v9]) C0 hE hAb hP (hDb.addr rfl) hS [0, 1] (wc := [oX6 w w_undos w_seed w_entries, aJ cJ (w 1) 3420 w_w]) (by decide) rfl 0 rfl rfl (c_X6_many l D cI cJ cZ cQ bs H.size w w_undos w_seed w_entries w_w v1 z19 hz19) (cwV 1 hts gX6_below_X6_many rfl rfl rfl (by decide +kernel) ⟨Nat.le_of_ble_eq_true rfl, Nat.le_of_ble_eq_true rfl⟩) rfl hl.1 rfl (Nat.le_of_ble_eq_true rfl) dX6_below_162 ⟨Nat.le_of_ble_eq_true rfl, Nat.le_of_ble_eq_true rfl⟩) hS hP (fun H locs hP hS => ?_)
      refine lv_icmp_ge (tgt := 214) hx hb dX6_below_165 (by decide) (fun c20 => ?_) (fun c20 => ?_)
      · replace hf := oif c20 hf
        have hf := Option.some.inj hf
        subst hf
        exact K H locs ls hP hS (lv_sub hl [6] rfl)
      · replace hf := oel c20 hf
        refine lv_iload hx hb dX6_below_168 (lv_at hl 6 rfl) ?_
        refine lv_aload_n hx hb dX6_below_170 rfl (lv_at hl 0 rfl) ?_
        refine lv_aload_n hx hb dX6_below_171 rfl (lv_at hl 0 rfl) ?_
        refine lv_iload_n hx hb dX6_below_172 rfl (lv_at hl 1 rfl) ?_
        refine lv_iload hx hb dX6_below_173 (lv_at hl 7 rfl) ?_
        refine lv_iload_n hx hb dX6_below_175 rfl (lv_at hl 2 rfl) ?_
        obtain ⟨z21, hz21, hf⟩ := obd hf
        refine kI (runV (As := [.int v1, .int v9, .int v2]) (rest := [.ref (w 0), .int v8]) C0 hE hAb hP (hDb.addr rfl) hS [0, 1] (wc := [oX6 w w_undos w_seed w_entries, aJ cJ (w 1) 3420 w_w]) (by decide) rfl 0 rfl rfl (c_X6_sortRead l D cI cJ cZ cQ bs H.size w w_undos w_seed w_entries w_w v1 v9 v2 z21 hz21) (cwV 3 hts gX6_below_X6_sortRead rfl rfl rfl (by decide +kernel) ⟨Nat.le_of_ble_eq_true rfl, Nat.le_of_ble_eq_true rfl⟩) rfl hl.1 rfl (Nat.le_of_ble_eq_true rfl) dX6_below_176 ⟨Nat.le_of_ble_eq_true rfl, Nat.le_of_ble_eq_true rfl⟩) hS hP (fun H locs hP hS => ?_)
        refine lv_aload_n hx hb dX6_below_179 rfl (lv_at hl 0 rfl) ?_
        refine lv_iload_n hx hb dX6_below_180 rfl (lv_at hl 1 rfl) ?_
        refine lv_iload hx hb dX6_below_181 (lv_at hl 7 rfl) ?_
        refine lv_iload_n hx hb dX6_below_183 rfl (lv_at hl 2 rfl) ?_
        obtain ⟨z22, hz22, hf⟩ := obd hf
        refine kJ (runV (As := [.int v1, .int v9, .int v2]) (rest := [.int z21, .ref (w 0), .int v8]) C0 hE hAb hP (hDb.addr rfl) hS [0, 1] (wc := [oX6 w w_undos w_seed w_entries, aJ cJ (w 1) 3420 w_w]) (by decide) rfl 0 rfl rfl (c_X6_numberRead l D cI cJ cZ cQ bs H.size w w_undos w_seed w_entries w_w v1 v9 v2 z22 hz22) (cwV 3 hts gX6_below_X6_numberRead rfl rfl rfl (by decide +kernel) ⟨Nat.le_of_ble_eq_true rfl, Nat.le_of_ble_eq_true rfl⟩) rfl hl.1 rfl (Nat.le_of_ble_eq_true rfl) dX6_below_184 ⟨Nat.le_of_ble_eq_true rfl, Nat.le_of_ble_eq_true rfl⟩) hS hP (fun H locs hP hS => ?_)
        refine lv_iload hx hb dX6_below_187 (lv_at hl 4 rfl) ?_
        refine lv_lload hx hb dX6_below_189 (lv_at hl 5 rfl) ?_
        obtain ⟨z23, hz23, hf⟩ := obd hf
        refine kI (runV (As := [.int z21, .long z22, .int v4, .long v6]) (rest := [.int v8]) C0 hE hAb hP (hDb.addr rfl) hS [0, 1] (wc := [oX6 w w_undos w_seed w_entries, aJ cJ (w 1) 3420 w_w]) (by decide) rfl 0 rfl rfl (c_X6_against l D cI cJ cZ cQ bs H.size w w_undos w_seed w_entries w_w z21 z22 v4 v6 z23 hz23) (cwV 4 hts gX6_below_X6_against rfl rfl rfl (by decide +kernel) ⟨Nat.le_of_ble_eq_true rfl, Nat.le_of_ble_eq_true rfl⟩) rfl hl.1 rfl (Nat.le_of_ble_eq_true rfl) dX6_below_191 ⟨Nat.le_of_ble_eq_true rfl, Nat.le_of_ble_eq_true rfl⟩) hS hP (fun H locs hP hS => ?_)
        refine lv_iload_n hx hb dX6_below_194 rfl (lv_at hl 3 rfl) ?_
        refine lv_iconst (v := 1) hx hb dX6_below_195 (by decide) ?_
        refine lv_isub hx hb dX6_below_196 ?_
        refine lv_icmp_ne (tgt := 204) hx hb dX6_below_197 (by decide) (fun c24 => ?_) (fun c24 => ?_)
        · replace hf := oel c24 hf
          refine lv_iconst (v := 0) hx hb dX6_below_204 (by decide) ?_
          refine lv_iadd hx hb dX6_below_205 ?_
          refine lv_istore (lv' := [(8, .int (v8 + (0 : Int32))), (0, .ref (w 0)), (1, .int v1), (2, .int v2), (3, .int v3), (4, .int v4), (6, .long v6), (9, .int v9)]) hx hb dX6_below_206 hl (by decide) rfl (fun ls hl => ?_)
          obtain ⟨y25, ey25⟩ : ∃ y : Int32, y = v9 + 1 := ⟨_, rfl⟩
          replace hf := onm ey25 hf
          refine lv_iinc (v := y25) (lv' := [(9, .int y25), (8, .int (v8 + (0 : Int32))), (0, .ref (w 0)), (1, .int v1), (2, .int v2), (3, .int v3), (4, .int v4), (6, .long v6)]) hx hb dX6_below_208 hl (k := 7) rfl (by rw [ey25]; rfl) (by decide) rfl (fun ls hl => ?_)
          refine lv_goto (tgt := 158) hx hb dX6_below_211 (by decide) ?_
          exact ih v1 v2 v3 v4 v6 (v8 + (0 : Int32)) y25 H locs ls z hP hS (lv_sub hl [2, 3, 4, 5, 6, 7, 1, 0] rfl) hf K
        · replace hf := oif c24 hf
          refine lv_iconst (v := 1) hx hb dX6_below_200 (by decide) ?_
          refine lv_goto (tgt := 205) hx hb dX6_below_201 (by decide) ?_
          refine lv_iadd hx hb dX6_below_205 ?_
          refine lv_istore (lv' := [(8, .int (v8 + (1 : Int32))), (0, .ref (w 0)), (1, .int v1), (2, .int v2), (3, .int v3), (4, .int v4), (6, .long v6), (9, .int v9)]) hx hb dX6_below_206 hl (by decide) rfl (fun ls hl => ?_)
          obtain ⟨y26, ey26⟩ : ∃ y : Int32, y = v9 + 1 := ⟨_, rfl⟩
          replace hf := onm ey26 hf
          refine lv_iinc (v := y26) (lv' := [(9, .int y26), (8, .int (v8 + (1 : Int32))), (0, .ref (w 0)), (1, .int v1), (2, .int v2), (3, .int v3), (4, .int v4), (6, .long v6)]) hx hb dX6_below_208 hl (k := 7) rfl (by rw [ey26]; rfl) (by decide) rfl (fun ls hl => ?_)
          refine lv_goto (tgt := 158) hx hb dX6_below_211 (by decide) ?_
          exact ih v1 v2 v3 v4 v6 (v8 + (1 : Int32)) y26 H locs ls z hP hS (lv_sub hl [2, 3, 4, 5, 6, 7, 1, 0] rfl) hf K
  unfold f_X6_below at hf
  have go : ∀ (H : Heap) (locs : List Loc), va_P D vwCl [oX6 w w_undos w_seed w_entries, aJ cJ (w 1) 3420 w_w] H → va_S no s.heap H locs → W p l e { frames := 3, cells := 0, slots := 0, locals := 81 } s m args below meth c H locs 0 0 (MQ below (QrI zr) args s 0 0 no) (F0 m 0 ls []) := by
    intro H locs hP hS
    refine lv_iload_n hx hb dX6_below_0 rfl (lv_at hl 1 rfl) ?_
    obtain ⟨z1, hz1, hf⟩ := obd hf
    refine kZ (runS (As := [.int x1]) (rest := []) C0 hE hAb hP (hDb.addr rfl) hS [] (wc := []) (by decide) rfl (c_X6_isSlot l D cI cJ cZ cQ bs H.size x1 z1 hz1) (va_cwS 1 hts gX6_below_X6_isSlot rfl rfl rfl (by decide +kernel) ⟨Nat.le_of_ble_eq_true rfl, Nat.le_of_ble_eq_true rfl⟩) rfl hl.1 rfl (Nat.le_of_ble_eq_true rfl) dX6_below_1 ⟨Nat.le_of_ble_eq_true rfl, Nat.le_of_ble_eq_true rfl⟩) hS hP (fun bz1 H locs hP hS => ?_)
    refine lv_if_ne (tgt := 10) hx hb dX6_below_4 (by decide) (fun c2 => ?_) (fun c2 => ?_)
    · replace hf := oel c2 hf
      refine lv_iload_n hx hb dX6_below_10 rfl (lv_at hl 2 rfl) ?_
      refine lv_i2l (v := (Int32.toInt64 x2)) hx hb dX6_below_11 rfl ?_
      refine lv_lconst (v := 0) hx hb dX6_below_12 (by decide) ?_
      refine lv_ldc2 hx hb hown gk227 dX6_below_13 ?_
      obtain ⟨z3, hz3, hf⟩ := obd hf
      refine kZ (runS (As := [.long (Int32.toInt64 x2), .long 0, .long 8]) (rest := []) C0 hE hAb hP (hDb.addr rfl) hS [] (wc := []) (by decide) rfl (c_X6_in l D cI cJ cZ cQ bs H.size (Int32.toInt64 x2) 0 8 z3 hz3) (va_cwS 3 hts gX6_below_X6_in rfl rfl rfl (by decide +kernel) ⟨Nat.le_of_ble_eq_true rfl, Nat.le_of_ble_eq_true rfl⟩) rfl hl.1 rfl (Nat.le_of_ble_eq_true rfl) dX6_below_16 ⟨Nat.le_of_ble_eq_true rfl, Nat.le_of_ble_eq_true rfl⟩) hS hP (fun bz3 H locs hP hS => ?_)
      refine lv_if_eq (tgt := 32) hx hb dX6_below_19 (by decide) (fun c4 => ?_) (fun c4 => ?_)
      · replace hf := oif c4 hf
        refine lv_ldc hx hb hown gk192 dX6_below_32 ?_
        have er := Option.some.inj hf
        exact rtI hx hb hr hS dX6_below_34 er hlocks
      · replace hf := oel c4 hf
        refine lv_iload_n hx hb dX6_below_22 rfl (lv_at hl 3 rfl) ?_
        refine lv_i2l (v := (Int32.toInt64 x3)) hx hb dX6_below_23 rfl ?_
        refine lv_lconst (v := 0) hx hb dX6_below_24 (by decide) ?_
        refine lv_lconst (v := 1) hx hb dX6_below_25 (by decide) ?_
        obtain ⟨z5, hz5, hf⟩ := obd hf
        refine kZ (runS (As := [.long (Int32.toInt64 x3), .long 0, .long 1]) (rest := []) C0 hE hAb hP (hDb.addr rfl) hS [] (wc := []) (by decide) rfl (c_X6_in l D cI cJ cZ cQ bs H.size (Int32.toInt64 x3) 0 1 z5 hz5) (va_cwS 3 hts gX6_below_X6_in rfl rfl rfl (by decide +kernel) ⟨Nat.le_of_ble_eq_true rfl, Nat.le_of_ble_eq_true rfl⟩) rfl hl.1 rfl (Nat.le_of_ble_eq_true rfl) dX6_below_26 ⟨Nat.le_of_ble_eq_true rfl, Nat.le_of_ble_eq_true rfl⟩) hS hP (fun bz5 H locs hP hS => ?_)
        refine lv_if_ne (tgt := 35) hx hb dX6_below_29 (by decide) (fun c6 => ?_) (fun c6 => ?_)
        · replace hf := oel c6 hf
          refine lv_aload_n hx hb dX6_below_35 rfl (lv_at hl 0 rfl) ?_
          refine va_get (D := D) (ci := 6) (v := .ref (w 1)) (C := RX6) (T := TX6) (N := 12) hx hb hts hI_X6 hown hK hP 0 rfl rfl 0 (by decide) gf7 (fun _ h9 => h9) rfl dX6_below_36 ?_
          refine lv_sipush (v := 170) hx hb dX6_below_39 (by decide) ?_
          refine va_lald hx hb hK hP 1 1 rfl rfl (ib_in (by decide)) dX6_below_42 ?_
          refine lv_l2i (v := (Int64.toInt32 (w_w (Int32.toNatClampNeg 170)))) hx hb dX6_below_43 rfl ?_
          refine lv_topi (fun y8 ey8 => ?_)
          replace hf := onm ey8 hf
          refine lv_istore (lv' := [(4, .int y8), (0, .ref (w 0)), (1, .int x1), (2, .int x2), (3, .int x3)]) hx hb dX6_below_44 hl (by decide) rfl (fun ls hl => ?_)
          refine lv_iload_n hx hb dX6_below_46 rfl (lv_at hl 3 rfl) ?_
          refine lv_bipush (v := 8) hx hb dX6_below_47 (by decide) ?_
          refine lv_icmp_eq (tgt := 68) hx hb dX6_below_49 (by decide) (fun c9 => ?_) (fun c9 => ?_)
          · replace hf := oif c9 hf
            refine lv_iconst (v := 1) hx hb dX6_below_68 (by decide) ?_
            refine lv_goto (tgt := 73) hx hb dX6_below_69 (by decide) ?_
            refine lv_istore (lv' := [(5, .int 1), (4, .int y8), (0, .ref (w 0)), (1, .int x1), (2, .int x2), (3, .int x3)]) hx hb dX6_below_73 hl (by decide) rfl (fun ls hl => ?_)
            refine lv_iload hx hb dX6_below_75 (lv_at hl 0 rfl) ?_
            refine lv_if_eq (tgt := 105) hx hb dX6_below_77 (by decide) (fun h9 => absurd h9 (by decide)) (fun _ => ?_)
            refine lv_aload_n hx hb dX6_below_80 rfl (lv_at hl 2 rfl) ?_
            refine lv_iload_n hx hb dX6_below_81 rfl (lv_at hl 3 rfl) ?_
            obtain ⟨z11, hz11, hf⟩ := obd hf
            refine kZ (runV (As := [.int x1]) (rest := []) C0 hE hAb hP (hDb.addr rfl) hS [0, 1] (wc := [oX6 w w_undos w_seed w_entries, aJ cJ (w 1) 3420 w_w]) (by decide) rfl 0 rfl rfl (c_X6_isRow l D cI cJ cZ cQ bs H.size w w_undos w_seed w_entries w_w x1 z11 hz11) (cwV 1 hts gX6_below_X6_isRow rfl rfl rfl (by decide +kernel) ⟨Nat.le_of_ble_eq_true rfl, Nat.le_of_ble_eq_true rfl⟩) rfl hl.1 rfl (Nat.le_of_ble_eq_true rfl) dX6_below_82 ⟨Nat.le_of_ble_eq_true rfl, Nat.le_of_ble_eq_true rfl⟩) hS hP (fun bz11 H locs hP hS => ?_)
            refine lv_if_eq (tgt := 105) hx hb dX6_below_85 (by decide) (fun c12 => ?_) (fun c12 => ?_)
            · replace hf := oif c12 hf
              refine lv_iconst (v := (-1)) hx hb dX6_below_105 (by decide) ?_
              have er := Option.some.inj hf
              exact rtI hx hb hr hS dX6_below_106 er hlocks
            · replace hf := oel c12 hf
              refine lv_aload_n hx hb dX6_below_88 rfl (lv_at hl 2 rfl) ?_
              refine lv_iload_n hx hb dX6_below_89 rfl (lv_at hl 3 rfl) ?_
              obtain ⟨z13, hz13, hf⟩ := obd hf
              refine kI (runV (As := [.int x1]) (rest := []) C0 hE hAb hP (hDb.addr rfl) hS [0, 1] (wc := [oX6 w w_undos w_seed w_entries, aJ cJ (w 1) 3420 w_w]) (by decide) rfl 0 rfl rfl (c_X6_many l D cI cJ cZ cQ bs H.size w w_undos w_seed w_entries w_w x1 z13 hz13) (cwV 1 hts gX6_below_X6_many rfl rfl rfl (by decide +kernel) ⟨Nat.le_of_ble_eq_true rfl, Nat.le_of_ble_eq_true rfl⟩) rfl hl.1 rfl (Nat.le_of_ble_eq_true rfl) dX6_below_90 ⟨Nat.le_of_ble_eq_true rfl, Nat.le_of_ble_eq_true rfl⟩) hS hP (fun H locs hP hS => ?_)
              refine lv_if_le (tgt := 107) hx hb dX6_below_93 (by decide) (fun c14 => ?_) (fun c14 => ?_)
              · replace hf := oif c14 hf
                refine lv_iload_n hx hb dX6_below_107 rfl (lv_at hl 4 rfl) ?_
                refine lv_bipush (v := 8) hx hb dX6_below_108 (by decide) ?_
                refine lv_icmp_ne (tgt := 124) hx hb dX6_below_110 (by decide) (fun c15 => ?_) (fun c15 => ?_)
                · replace hf := oel c15 hf
                  refine lv_aload_n hx hb dX6_below_124 rfl (lv_at hl 2 rfl) ?_
                  refine va_get (D := D) (ci := 6) (v := .ref (w 1)) (C := RX6) (T := TX6) (N := 12) hx hb hts hI_X6 hown hK hP 0 rfl rfl 0 (by decide) gf7 (fun _ h9 => h9) rfl dX6_below_125 ?_
                  refine lv_sipush (v := 171) hx hb dX6_below_128 (by decide) ?_
                  refine va_lald hx hb hK hP 1 1 rfl rfl (ib_in (by decide)) dX6_below_131 ?_
                  refine lv_iload_n hx hb dX6_below_132 rfl (lv_at hl 4 rfl) ?_
                  obtain ⟨z17, hz17, hf⟩ := obd hf
                  refine kJ (runS (As := [.long (w_w (Int32.toNatClampNeg 171)), .int x2]) (rest := []) C0 hE hAb hP (hDb.addr rfl) hS [] (wc := []) (by decide) rfl (c_X6_gone l D cI cJ cZ cQ bs H.size (w_w (Int32.toNatClampNeg 171)) x2 z17 hz17) (va_cwS 2 hts gX6_below_X6_gone rfl rfl rfl (by decide +kernel) ⟨Nat.le_of_ble_eq_true rfl, Nat.le_of_ble_eq_true rfl⟩) rfl hl.1 rfl (Nat.le_of_ble_eq_true rfl) dX6_below_133 ⟨Nat.le_of_ble_eq_true rfl, Nat.le_of_ble_eq_true rfl⟩) hS hP (fun H locs hP hS => ?_)
                  refine lv_lstore (lv' := [(6, .long z17), (5, .int 1), (4, .int y8), (0, .ref (w 0)), (1, .int x1), (2, .int x2), (3, .int x3)]) hx hb dX6_below_136 hl (by decide) rfl (fun ls hl => ?_)
                  refine lv_iload_n hx hb dX6_below_138 rfl (lv_at hl 5 rfl) ?_
                  refine lv_bipush (v := 8) hx hb dX6_below_139 (by decide) ?_
                  refine lv_icmp_ne (tgt := 149) hx hb dX6_below_141 (by decide) (fun c18 => ?_) (fun c18 => ?_)
                  · replace hf := oel c18 hf
                    refine lv_iload_n hx hb dX6_below_149 rfl (lv_at hl 5 rfl) ?_
                    refine lv_istore (lv' := [(4, .int x2), (6, .long z17), (5, .int 1), (0, .ref (w 0)), (1, .int x1), (2, .int x2), (3, .int x3)]) hx hb dX6_below_150 hl (by decide) rfl (fun ls hl => ?_)
                    refine lv_iconst (v := 0) hx hb dX6_below_152 (by decide) ?_
                    refine lv_istore (lv' := [(8, .int 0), (4, .int x2), (6, .long z17), (5, .int 1), (0, .ref (w 0)), (1, .int x1), (2, .int x2), (3, .int x3)]) hx hb dX6_below_153 hl (by decide) rfl (fun ls hl => ?_)
                    refine lv_iconst (v := 0) hx hb dX6_below_155 (by decide) ?_
                    refine lv_istore (lv' := [(9, .int 0), (8, .int 0), (4, .int x2), (6, .long z17), (5, .int 1), (0, .ref (w 0)), (1, .int x1), (2, .int x2), (3, .int x3)]) hx hb dX6_below_156 hl (by decide) rfl (fun ls hl => ?_)
                    obtain ⟨z27, hz27, hf⟩ := obd hf
                    refine W158 4000 x1 x2 x3 x2 z17 0 0 H locs ls z27 hP hS (lv_sub hl [5, 6, 7, 8, 2, 3, 1, 0] rfl) hz27 (fun H locs ls hP hS hl => ?_)
                    refine lv_iload hx hb dX6_below_214 (lv_at hl 0 rfl) ?_
                    have er := Option.some.inj hf
                    exact rtI hx hb hr hS dX6_below_216 er hlocks
                  · replace hf := oif c18 hf
                    refine lv_iload hx hb dX6_below_144 (lv_at hl 2 rfl) ?_
                    refine lv_goto (tgt := 150) hx hb dX6_below_146 (by decide) ?_
                    refine lv_istore (lv' := [(4, .int y8), (6, .long z17), (5, .int 1), (0, .ref (w 0)), (1, .int x1), (2, .int x2), (3, .int x3)]) hx hb dX6_below_150 hl (by decide) rfl (fun ls hl => ?_)
                    refine lv_iconst (v := 0) hx hb dX6_below_152 (by decide) ?_
                    refine lv_istore (lv' := [(8, .int 0), (4, .int y8), (6, .long z17), (5, .int 1), (0, .ref (w 0)), (1, .int x1), (2, .int x2), (3, .int x3)]) hx hb dX6_below_153 hl (by decide) rfl (fun ls hl => ?_)
                    refine lv_iconst (v := 0) hx hb dX6_below_155 (by decide) ?_
                    refine lv_istore (lv' := [(9, .int 0), (8, .int 0), (4, .int y8), (6, .long z17), (5, .int 1), (0, .ref (w 0)), (1, .int x1), (2, .int x2), (3, .int x3)]) hx hb dX6_below_156 hl (by decide) rfl (fun ls hl => ?_)
                    obtain ⟨z28, hz28, hf⟩ := obd hf
                    refine W158 4000 x1 x2 x3 y8 z17 0 0 H locs ls z28 hP hS (lv_sub hl [5, 6, 7, 8, 2, 3, 1, 0] rfl) hz28 (fun H locs ls hP hS hl => ?_)
                    refine lv_iload hx hb dX6_below_214 (lv_at hl 0 rfl) ?_
                    have er := Option.some.inj hf
                    exact rtI hx hb hr hS dX6_below_216 er hlocks
                · replace hf := oif c15 hf
                  refine lv_aload_n hx hb dX6_below_113 rfl (lv_at hl 2 rfl) ?_
                  refine va_get (D := D) (ci := 6) (v := .ref (w 1)) (C := RX6) (T := TX6) (N := 12) hx hb hts hI_X6 hown hK hP 0 rfl rfl 0 (by decide) gf7 (fun _ h9 => h9) rfl dX6_below_114 ?_
                  refine lv_sipush (v := 171) hx hb dX6_below_117 (by decide) ?_
                  refine va_lald hx hb hK hP 1 1 rfl rfl (ib_in (by decide)) dX6_below_120 ?_
                  refine lv_goto (tgt := 136) hx hb dX6_below_121 (by decide) ?_
                  refine lv_lstore (lv' := [(6, .long (w_w (Int32.toNatClampNeg 171))), (5, .int 1), (4, .int y8), (0, .ref (w 0)), (1, .int x1), (2, .int x2), (3, .int x3)]) hx hb dX6_below_136 hl (by decide) rfl (fun ls hl => ?_)
                  refine lv_iload_n hx hb dX6_below_138 rfl (lv_at hl 5 rfl) ?_
                  refine lv_bipush (v := 8) hx hb dX6_below_139 (by decide) ?_
                  refine lv_icmp_ne (tgt := 149) hx hb dX6_below_141 (by decide) (fun c30 => ?_) (fun c30 => ?_)
                  · replace hf := oel c30 hf
                    refine lv_iload_n hx hb dX6_below_149 rfl (lv_at hl 5 rfl) ?_
                    refine lv_istore (lv' := [(4, .int x2), (6, .long (w_w (Int32.toNatClampNeg 171))), (5, .int 1), (0, .ref (w 0)), (1, .int x1), (2, .int x2), (3, .int x3)]) hx hb dX6_below_150 hl (by decide) rfl (fun ls hl => ?_)
                    refine lv_iconst (v := 0) hx hb dX6_below_152 (by decide) ?_
                    refine lv_istore (lv' := [(8, .int 0), (4, .int x2), (6, .long (w_w (Int32.toNatClampNeg 171))), (5, .int 1), (0, .ref (w 0)), (1, .int x1), (2, .int x2), (3, .int x3)]) hx hb dX6_below_153 hl (by decide) rfl (fun ls hl => ?_)
                    refine lv_iconst (v := 0) hx hb dX6_below_155 (by decide) ?_
                    refine lv_istore (lv' := [(9, .int 0), (8, .int 0), (4, .int x2), (6, .long (w_w (Int32.toNatClampNeg 171))), (5, .int 1), (0, .ref (w 0)), (1, .int x1), (2, .int x2), (3, .int x3)]) hx hb dX6_below_156 hl (by decide) rfl (fun ls hl => ?_)
                    obtain ⟨z31, hz31, hf⟩ := obd hf
                    refine W158 4000 x1 x2 x3 x2 (w_w (Int32.toNatClampNeg 171)) 0 0 H locs ls z31 hP hS (lv_sub hl [5, 6, 7, 8, 2, 3, 1, 0] rfl) hz31 (fun H locs ls hP hS hl => ?_)
                    refine lv_iload hx hb dX6_below_214 (lv_at hl 0 rfl) ?_
                    have er := Option.some.inj hf
                    exact rtI hx hb hr hS dX6_below_216 er hlocks
                  · replace hf := oif c30 hf
                    refine lv_iload hx hb dX6_below_144 (lv_at hl 2 rfl) ?_
                    refine lv_goto (tgt := 150) hx hb dX6_below_146 (by decide) ?_
                    refine lv_istore (lv' := [(4, .int y8), (6, .long (w_w (Int32.toNatClampNeg 171))), (5, .int 1), (0, .ref (w 0)), (1, .int x1), (2, .int x2), (3, .int x3)]) hx hb dX6_below_150 hl (by decide) rfl (fun ls hl => ?_)
                    refine lv_iconst (v := 0) hx hb dX6_below_152 (by decide) ?_
                    refine lv_istore (lv' := [(8, .int 0), (4, .int y8), (6, .long (w_w (Int32.toNatClampNeg 171))), (5, .int 1), (0, .ref (w 0)), (1, .int x1), (2, .int x2), (3, .int x3)]) hx hb dX6_below_153 hl (by decide) rfl (fun ls hl => ?_)
                    refine lv_iconst (v := 0) hx hb dX6_below_155 (by decide) ?_
                    refine lv_istore (lv' := [(9, .int 0), (8, .int 0), (4, .int y8), (6, .long (w_w (Int32.toNatClampNeg 171))), (5, .int 1), (0, .ref (w 0)), (1, .int x1), (2, .int x2), (3, .int x3)]) hx hb dX6_below_156 hl (by decide) rfl (fun ls hl => ?_)
                    obtain ⟨z32, hz32, hf⟩ := obd hf
                    refine W158 4000 x1 x2 x3 y8 (w_w (Int32.toNatClampNeg 171)) 0 0 H locs ls z32 hP hS (lv_sub hl [5, 6, 7, 8, 2, 3, 1, 0] rfl) hz32 (fun H locs ls hP hS hl => ?_)
                    refine lv_iload hx hb dX6_below_214 (lv_at hl 0 rfl) ?_
                    have er := Option.some.inj hf
                    exact rtI hx hb hr hS dX6_below_216 er hlocks
              · replace hf := oel c14 hf
                refine lv_aload_n hx hb dX6_below_96 rfl (lv_at hl 2 rfl) ?_
                refine lv_iload_n hx hb dX6_below_97 rfl (lv_at hl 3 rfl) ?_
                refine lv_iload_n hx hb dX6_below_98 rfl (lv_at hl 4 rfl) ?_
                obtain ⟨z33, hz33, hf⟩ := obd hf
                refine kZ (runV (As := [.int x1, .int x2]) (rest := []) C0 hE hAb hP (hDb.addr rfl) hS [0, 1] (wc := [oX6 w w_undos w_seed w_entries, aJ cJ (w 1) 3420 w_w]) (by decide) rfl 0 rfl rfl (c_X6_reads l D cI cJ cZ cQ bs H.size w w_undos w_seed w_entries w_w x1 x2 z33 hz33) (cwV 2 hts gX6_below_X6_reads rfl rfl rfl (by decide +kernel) ⟨Nat.le_of_ble_eq_true rfl, Nat.le_of_ble_eq_true rfl⟩) rfl hl.1 rfl (Nat.le_of_ble_eq_true rfl) dX6_below_99 ⟨Nat.le_of_ble_eq_true rfl, Nat.le_of_ble_eq_true rfl⟩) hS hP (fun bz33 H locs hP hS => ?_)
                refine lv_if_ne (tgt := 107) hx hb dX6_below_102 (by decide) (fun c34 => ?_) (fun c34 => ?_)
                · replace hf := oel c34 hf
                  refine lv_iload_n hx hb dX6_below_107 rfl (lv_at hl 4 rfl) ?_
                  refine lv_bipush (v := 8) hx hb dX6_below_108 (by decide) ?_
                  refine lv_icmp_ne (tgt := 124) hx hb dX6_below_110 (by decide) (fun c35 => ?_) (fun c35 => ?_)
                  · replace hf := oel c35 hf
                    refine lv_aload_n hx hb dX6_below_124 rfl (lv_at hl 2 rfl) ?_
                    refine va_get (D := D) (ci := 6) (v := .ref (w 1)) (C := RX6) (T := TX6) (N := 12) hx hb hts hI_X6 hown hK hP 0 rfl rfl 0 (by decide) gf7 (fun _ h9 => h9) rfl dX6_below_125 ?_
                    refine lv_sipush (v := 171) hx hb dX6_below_128 (by decide) ?_
                    refine va_lald hx hb hK hP 1 1 rfl rfl (ib_in (by decide)) dX6_below_131 ?_
                    refine lv_iload_n hx hb dX6_below_132 rfl (lv_at hl 4 rfl) ?_
                    obtain ⟨z37, hz37, hf⟩ := obd hf
                    refine kJ (runS (As := [.long (w_w (Int32.toNatClampNeg 171)), .int x2]) (rest := []) C0 hE hAb hP (hDb.addr rfl) hS [] (wc := []) (by decide) rfl (c_X6_gone l D cI cJ cZ cQ bs H.size (w_w (Int32.toNatClampNeg 171)) x2 z37 hz37) (va_cwS 2 hts gX6_below_X6_gone rfl rfl rfl (by decide +kernel) ⟨Nat.le_of_ble_eq_true rfl, Nat.le_of_ble_eq_true rfl⟩) rfl hl.1 rfl (Nat.le_of_ble_eq_true rfl) dX6_below_133 ⟨Nat.le_of_ble_eq_true rfl, Nat.le_of_ble_eq_true rfl⟩) hS hP (fun H locs hP hS => ?_)
                    refine lv_lstore (lv' := [(6, .long z37), (5, .int 1), (4, .int y8), (0, .ref (w 0)), (1, .int x1), (2, .int x2), (3, .int x3)]) hx hb dX6_below_136 hl (by decide) rfl (fun ls hl => ?_)
                    refine lv_iload_n hx hb dX6_below_138 rfl (lv_at hl 5 rfl) ?_
                    refine lv_bipush (v := 8) hx hb dX6_below_139 (by decide) ?_
                    refine lv_icmp_ne (tgt := 149) hx hb dX6_below_141 (by decide) (fun c38 => ?_) (fun c38 => ?_)
                    · replace hf := oel c38 hf
                      refine lv_iload_n hx hb dX6_below_149 rfl (lv_at hl 5 rfl) ?_
                      refine lv_istore (lv' := [(4, .int x2), (6, .long z37), (5, .int 1), (0, .ref (w 0)), (1, .int x1), (2, .int x2), (3, .int x3)]) hx hb dX6_below_150 hl (by decide) rfl (fun ls hl => ?_)
                      refine lv_iconst (v := 0) hx hb dX6_below_152 (by decide) ?_
                      refine lv_istore (lv' := [(8, .int 0), (4, .int x2), (6, .long z37), (5, .int 1), (0, .ref (w 0)), (1, .int x1), (2, .int x2), (3, .int x3)]) hx hb dX6_below_153 hl (by decide) rfl (fun ls hl => ?_)
                      refine lv_iconst (v := 0) hx hb dX6_below_155 (by decide) ?_
                      refine lv_istore (lv' := [(9, .int 0), (8, .int 0), (4, .int x2), (6, .long z37), (5, .int 1), (0, .ref (w 0)), (1, .int x1), (2, .int x2), (3, .int x3)]) hx hb dX6_below_156 hl (by decide) rfl (fun ls hl => ?_)
                      obtain ⟨z39, hz39, hf⟩ := obd hf
                      refine W158 4000 x1 x2 x3 x2 z37 0 0 H locs ls z39 hP hS (lv_sub hl [5, 6, 7, 8, 2, 3, 1, 0] rfl) hz39 (fun H locs ls hP hS hl => ?_)
                      refine lv_iload hx hb dX6_below_214 (lv_at hl 0 rfl) ?_
                      have er := Option.some.inj hf
                      exact rtI hx hb hr hS dX6_below_216 er hlocks
                    · replace hf := oif c38 hf
                      refine lv_iload hx hb dX6_below_144 (lv_at hl 2 rfl) ?_
                      refine lv_goto (tgt := 150) hx hb dX6_below_146 (by decide) ?_
                      refine lv_istore (lv' := [(4, .int y8), (6, .long z37), (5, .int 1), (0, .ref (w 0)), (1, .int x1), (2, .int x2), (3, .int x3)]) hx hb dX6_below_150 hl (by decide) rfl (fun ls hl => ?_)
                      refine lv_iconst (v := 0) hx hb dX6_below_152 (by decide) ?_
                      refine lv_istore (lv' := [(8, .int 0), (4, .int y8), (6, .long z37), (5, .int 1), (0, .ref (w 0)), (1, .int x1), (2, .int x2), (3, .int x3)]) hx hb dX6_below_153 hl (by decide) rfl (fun ls hl => ?_)
                      refine lv_iconst (v := 0) hx hb dX6_below_155 (by decide) ?_
                      refine lv_istore (lv' := [(9, .int 0), (8, .int 0), (4, .int y8), (6, .long z37), (5, .int 1), (0, .ref (w 0)), (1, .int x1), (2, .int x2), (3, .int x3)]) hx hb dX6_below_156 hl (by decide) rfl (fun ls hl => ?_)
                      obtain ⟨z40, hz40, hf⟩ := obd hf
                      refine W158 4000 x1 x2 x3 y8 z37 0 0 H locs ls z40 hP hS (lv_sub hl [5, 6, 7, 8, 2, 3, 1, 0] rfl) hz40 (fun H locs ls hP hS hl => ?_)
                      refine lv_iload hx hb dX6_below_214 (lv_at hl 0 rfl) ?_
                      have er := Option.some.inj hf
                      exact rtI hx hb hr hS dX6_below_216 er hlocks
                  · replace hf := oif c35 hf
                    refine lv_aload_n hx hb dX6_below_113 rfl (lv_at hl 2 rfl) ?_
                    refine va_get (D := D) (ci := 6) (v := .ref (w 1)) (C := RX6) (T := TX6) (N := 12) hx hb hts hI_X6 hown hK hP 0 rfl rfl 0 (by decide) gf7 (fun _ h9 => h9) rfl dX6_below_114 ?_
                    refine lv_sipush (v := 171) hx hb dX6_below_117 (by decide) ?_
                    refine va_lald hx hb hK hP 1 1 rfl rfl (ib_in (by decide)) dX6_below_120 ?_
                    refine lv_goto (tgt := 136) hx hb dX6_below_121 (by decide) ?_
                    refine lv_lstore (lv' := [(6, .long (w_w (Int32.toNatClampNeg 171))), (5, .int 1), (4, .int y8), (0, .ref (w 0)), (1, .int x1), (2, .int x2), (3, .int x3)]) hx hb dX6_below_136 hl (by decide) rfl (fun ls hl => ?_)
                    refine lv_iload_n hx hb dX6_below_138 rfl (lv_at hl 5 rfl) ?_
                    refine lv_bipush (v := 8) hx hb dX6_below_139 (by decide) ?_
                    refine lv_icmp_ne (tgt := 149) hx hb dX6_below_141 (by decide) (fun c42 => ?_) (fun c42 => ?_)
                    · replace hf := oel c42 hf
                      refine lv_iload_n hx hb dX6_below_149 rfl (lv_at hl 5 rfl) ?_
                      refine lv_istore (lv' := [(4, .int x2), (6, .long (w_w (Int32.toNatClampNeg 171))), (5, .int 1), (0, .ref (w 0)), (1, .int x1), (2, .int x2), (3, .int x3)]) hx hb dX6_below_150 hl (by decide) rfl (fun ls hl => ?_)
                      refine lv_iconst (v := 0) hx hb dX6_below_152 (by decide) ?_
                      refine lv_istore (lv' := [(8, .int 0), (4, .int x2), (6, .long (w_w (Int32.toNatClampNeg 171))), (5, .int 1), (0, .ref (w 0)), (1, .int x1), (2, .int x2), (3, .int x3)]) hx hb dX6_below_153 hl (by decide) rfl (fun ls hl => ?_)
                      refine lv_iconst (v := 0) hx hb dX6_below_155 (by decide) ?_
                      refine lv_istore (lv' := [(9, .int 0), (8, .int 0), (4, .int x2), (6, .long (w_w (Int32.toNatClampNeg 171))), (5, .int 1), (0, .ref (w 0)), (1, .int x1), (2, .int x2), (3, .int x3)]) hx hb dX6_below_156 hl (by decide) rfl (fun ls hl => ?_)
                      obtain ⟨z43, hz43, hf⟩ := obd hf
                      refine W158 4000 x1 x2 x3 x2 (w_w (Int32.toNatClampNeg 171)) 0 0 H locs ls z43 hP hS (lv_sub hl [5, 6, 7, 8, 2, 3, 1, 0] rfl) hz43 (fun H locs ls hP hS hl => ?_)
                      refine lv_iload hx hb dX6_below_214 (lv_at hl 0 rfl) ?_
                      have er := Option.some.inj hf
                      exact rtI hx hb hr hS dX6_below_216 er hlocks
                    · replace hf := oif c42 hf
                      refine lv_iload hx hb dX6_below_144 (lv_at hl 2 rfl) ?_
                      refine lv_goto (tgt := 150) hx hb dX6_below_146 (by decide) ?_
                      refine lv_istore (lv' := [(4, .int y8), (6, .long (w_w (Int32.toNatClampNeg 171))), (5, .int 1), (0, .ref (w 0)), (1, .int x1), (2, .int x2), (3, .int x3)]) hx hb dX6_below_150 hl (by decide) rfl (fun ls hl => ?_)
                      refine lv_iconst (v := 0) hx hb dX6_below_152 (by decide) ?_
                      refine lv_istore (lv' := [(8, .int 0), (4, .int y8), (6, .long (w_w (Int32.toNatClampNeg 171))), (5, .int 1), (0, .ref (w 0)), (1, .int x1), (2, .int x2), (3, .int x3)]) hx hb dX6_below_153 hl (by decide) rfl (fun ls hl => ?_)
                      refine lv_iconst (v := 0) hx hb dX6_below_155 (by decide) ?_
                      refine lv_istore (lv' := [(9, .int 0), (8, .int 0), (4, .int y8), (6, .long (w_w (Int32.toNatClampNeg 171))), (5, .int 1), (0, .ref (w 0)), (1, .int x1), (2, .int x2), (3, .int x3)]) hx hb dX6_below_156 hl (by decide) rfl (fun ls hl => ?_)
                      obtain ⟨z44, hz44, hf⟩ := obd hf
                      refine W158 4000 x1 x2 x3 y8 (w_w (Int32.toNatClampNeg 171)) 0 0 H locs ls z44 hP hS (lv_sub hl [5, 6, 7, 8, 2, 3, 1, 0] rfl) hz44 (fun H locs ls hP hS hl => ?_)
                      refine lv_iload hx hb dX6_below_214 (lv_at hl 0 rfl) ?_
                      have er := Option.some.inj hf
                      exact rtI hx hb hr hS dX6_below_216 er hlocks
                · replace hf := oif c34 hf
                  refine lv_iconst (v := (-1)) hx hb dX6_below_105 (by decide) ?_
                  have er := Option.some.inj hf
                  exact rtI hx hb hr hS dX6_below_106 er hlocks
          · replace hf := oel c9 hf
            refine lv_iload hx hb dX6_below_52 (lv_at hl 0 rfl) ?_
            refine lv_bipush (v := 7) hx hb dX6_below_54 (by decide) ?_
            refine lv_icmp_gt (tgt := 72) hx hb dX6_below_56 (by decide) (fun c45 => ?_) (fun c45 => ?_)
            · replace hf := oif c45 hf
              refine lv_iconst (v := 0) hx hb dX6_below_72 (by decide) ?_
              refine lv_istore (lv' := [(5, .int 0), (4, .int y8), (0, .ref (w 0)), (1, .int x1), (2, .int x2), (3, .int x3)]) hx hb dX6_below_73 hl (by decide) rfl (fun ls hl => ?_)
              refine lv_iload hx hb dX6_below_75 (lv_at hl 0 rfl) ?_
              refine lv_if_eq (tgt := 105) hx hb dX6_below_77 (by decide) (fun _ => ?_) (fun h9 => absurd (by decide) h9)
              refine lv_iconst (v := (-1)) hx hb dX6_below_105 (by decide) ?_
              have er := Option.some.inj hf
              exact rtI hx hb hr hS dX6_below_106 er hlocks
            · replace hf := oel c45 hf
              refine lv_iload hx hb dX6_below_59 (lv_at hl 0 rfl) ?_
              refine lv_iload_n hx hb dX6_below_61 rfl (lv_at hl 3 rfl) ?_
              obtain ⟨z47, hz47, hf⟩ := obd hf
              refine kZ (runS (As := [.int y8, .int x2]) (rest := []) C0 hE hAb hP (hDb.addr rfl) hS [] (wc := []) (by decide) rfl (c_X6_goes l D cI cJ cZ cQ bs H.size y8 x2 z47 hz47) (va_cwS 2 hts gX6_below_X6_goes rfl rfl rfl (by decide +kernel) ⟨Nat.le_of_ble_eq_true rfl, Nat.le_of_ble_eq_true rfl⟩) rfl hl.1 rfl (Nat.le_of_ble_eq_true rfl) dX6_below_62 ⟨Nat.le_of_ble_eq_true rfl, Nat.le_of_ble_eq_true rfl⟩) hS hP (fun bz47 H locs hP hS => ?_)
              refine lv_if_eq (tgt := 72) hx hb dX6_below_65 (by decide) (fun c48 => ?_) (fun c48 => ?_)
              · replace hf := oif c48 hf
                refine lv_iconst (v := 0) hx hb dX6_below_72 (by decide) ?_
                refine lv_istore (lv' := [(5, .int 0), (4, .int y8), (0, .ref (w 0)), (1, .int x1), (2, .int x2), (3, .int x3)]) hx hb dX6_below_73 hl (by decide) rfl (fun ls hl => ?_)
                refine lv_iload hx hb dX6_below_75 (lv_at hl 0 rfl) ?_
                refine lv_if_eq (tgt := 105) hx hb dX6_below_77 (by decide) (fun _ => ?_) (fun h9 => absurd (by decide) h9)
                refine lv_iconst (v := (-1)) hx hb dX6_below_105 (by decide) ?_
                have er := Option.some.inj hf
                exact rtI hx hb hr hS dX6_below_106 er hlocks
              · replace hf := oel c48 hf
                refine lv_iconst (v := 1) hx hb dX6_below_68 (by decide) ?_
                refine lv_goto (tgt := 73) hx hb dX6_below_69 (by decide) ?_
                refine lv_istore (lv' := [(5, .int 1), (4, .int y8), (0, .ref (w 0)), (1, .int x1), (2, .int x2), (3, .int x3)]) hx hb dX6_below_73 hl (by decide) rfl (fun ls hl => ?_)
                refine lv_iload hx hb dX6_below_75 (lv_at hl 0 rfl) ?_
                refine lv_if_eq (tgt := 105) hx hb dX6_below_77 (by decide) (fun h9 => absurd h9 (by decide)) (fun _ => ?_)
                refine lv_aload_n hx hb dX6_below_80 rfl (lv_at hl 2 rfl) ?_
                refine lv_iload_n hx hb dX6_below_81 rfl (lv_at hl 3 rfl) ?_
                obtain ⟨z51, hz51, hf⟩ := obd hf
                refine kZ (runV (As := [.int x1]) (rest := []) C0 hE hAb hP (hDb.addr rfl) hS [0, 1] (wc := [oX6 w w_undos w_seed w_entries, aJ cJ (w 1) 3420 w_w]) (by decide) rfl 0 rfl rfl (c_X6_isRow l D cI cJ cZ cQ bs H.size w w_undos w_seed w_entries w_w x1 z51 hz51) (cwV 1 hts gX6_below_X6_isRow rfl rfl rfl (by decide +kernel) ⟨Nat.le_of_ble_eq_true rfl, Nat.le_of_ble_eq_true rfl⟩) rfl hl.1 rfl (Nat.le_of_ble_eq_true rfl) dX6_below_82 ⟨Nat.le_of_ble_eq_true rfl, Nat.le_of_ble_eq_true rfl⟩) hS hP (fun bz51 H locs hP hS => ?_)
                refine lv_if_eq (tgt := 105) hx hb dX6_below_85 (by decide) (fun c52 => ?_) (fun c52 => ?_)
                · replace hf := oif c52 hf
                  refine lv_iconst (v := (-1)) hx hb dX6_below_105 (by decide) ?_
                  have er := Option.some.inj hf
                  exact rtI hx hb hr hS dX6_below_106 er hlocks
                · replace hf := oel c52 hf
                  refine lv_aload_n hx hb dX6_below_88 rfl (lv_at hl 2 rfl) ?_
                  refine lv_iload_n hx hb dX6_below_89 rfl (lv_at hl 3 rfl) ?_
                  obtain ⟨z53, hz53, hf⟩ := obd hf
                  refine kI (runV (As := [.int x1]) (rest := []) C0 hE hAb hP (hDb.addr rfl) hS [0, 1] (wc := [oX6 w w_undos w_seed w_entries, aJ cJ (w 1) 3420 w_w]) (by decide) rfl 0 rfl rfl (c_X6_many l D cI cJ cZ cQ bs H.size w w_undos w_seed w_entries w_w x1 z53 hz53) (cwV 1 hts gX6_below_X6_many rfl rfl rfl (by decide +kernel) ⟨Nat.le_of_ble_eq_true rfl, Nat.le_of_ble_eq_true rfl⟩) rfl hl.1 rfl (Nat.le_of_ble_eq_true rfl) dX6_below_90 ⟨Nat.le_of_ble_eq_true rfl, Nat.le_of_ble_eq_true rfl⟩) hS hP (fun H locs hP hS => ?_)
                  refine lv_if_le (tgt := 107) hx hb dX6_below_93 (by decide) (fun c54 => ?_) (fun c54 => ?_)
                  · replace hf := oif c54 hf
                    refine lv_iload_n hx hb dX6_below_107 rfl (lv_at hl 4 rfl) ?_
                    refine lv_bipush (v := 8) hx hb dX6_below_108 (by decide) ?_
                    refine lv_icmp_ne (tgt := 124) hx hb dX6_below_110 (by decide) (fun c55 => ?_) (fun c55 => ?_)
                    · replace hf := oel c55 hf
                      refine lv_aload_n hx hb dX6_below_124 rfl (lv_at hl 2 rfl) ?_
                      refine va_get (D := D) (ci := 6) (v := .ref (w 1)) (C := RX6) (T := TX6) (N := 12) hx hb hts hI_X6 hown hK hP 0 rfl rfl 0 (by decide) gf7 (fun _ h9 => h9) rfl dX6_below_125 ?_
                      refine lv_sipush (v := 171) hx hb dX6_below_128 (by decide) ?_
                      refine va_lald hx hb hK hP 1 1 rfl rfl (ib_in (by decide)) dX6_below_131 ?_
                      refine lv_iload_n hx hb dX6_below_132 rfl (lv_at hl 4 rfl) ?_
                      obtain ⟨z57, hz57, hf⟩ := obd hf
                      refine kJ (runS (As := [.long (w_w (Int32.toNatClampNeg 171)), .int x2]) (rest := []) C0 hE hAb hP (hDb.addr rfl) hS [] (wc := []) (by decide) rfl (c_X6_gone l D cI cJ cZ cQ bs H.size (w_w (Int32.toNatClampNeg 171)) x2 z57 hz57) (va_cwS 2 hts gX6_below_X6_gone rfl rfl rfl (by decide +kernel) ⟨Nat.le_of_ble_eq_true rfl, Nat.le_of_ble_eq_true rfl⟩) rfl hl.1 rfl (Nat.le_of_ble_eq_true rfl) dX6_below_133 ⟨Nat.le_of_ble_eq_true rfl, Nat.le_of_ble_eq_true rfl⟩) hS hP (fun H locs hP hS => ?_)
                      refine lv_lstore (lv' := [(6, .long z57), (5, .int 1), (4, .int y8), (0, .ref (w 0)), (1, .int x1), (2, .int x2), (3, .int x3)]) hx hb dX6_below_136 hl (by decide) rfl (fun ls hl => ?_)
                      refine lv_iload_n hx hb dX6_below_138 rfl (lv_at hl 5 rfl) ?_
                      refine lv_bipush (v := 8) hx hb dX6_below_139 (by decide) ?_
                      refine lv_icmp_ne (tgt := 149) hx hb dX6_below_141 (by decide) (fun c58 => ?_) (fun c58 => ?_)
                      · replace hf := oel c58 hf
                        refine lv_iload_n hx hb dX6_below_149 rfl (lv_at hl 5 rfl) ?_
                        refine lv_istore (lv' := [(4, .int x2), (6, .long z57), (5, .int 1), (0, .ref (w 0)), (1, .int x1), (2, .int x2), (3, .int x3)]) hx hb dX6_below_150 hl (by decide) rfl (fun ls hl => ?_)
                        refine lv_iconst (v := 0) hx hb dX6_below_152 (by decide) ?_
                        refine lv_istore (lv' := [(8, .int 0), (4, .int x2), (6, .long z57), (5, .int 1), (0, .ref (w 0)), (1, .int x1), (2, .int x2), (3, .int x3)]) hx hb dX6_below_153 hl (by decide) rfl (fun ls hl => ?_)
                        refine lv_iconst (v := 0) hx hb dX6_below_155 (by decide) ?_
                        refine lv_istore (lv' := [(9, .int 0), (8, .int 0), (4, .int x2), (6, .long z57), (5, .int 1), (0, .ref (w 0)), (1, .int x1), (2, .int x2), (3, .int x3)]) hx hb dX6_below_156 hl (by decide) rfl (fun ls hl => ?_)
                        obtain ⟨z59, hz59, hf⟩ := obd hf
                        refine W158 4000 x1 x2 x3 x2 z57 0 0 H locs ls z59 hP hS (lv_sub hl [5, 6, 7, 8, 2, 3, 1, 0] rfl) hz59 (fun H locs ls hP hS hl => ?_)
                        refine lv_iload hx hb dX6_below_214 (lv_at hl 0 rfl) ?_
                        have er := Option.some.inj hf
                        exact rtI hx hb hr hS dX6_below_216 er hlocks
                      · replace hf := oif c58 hf
                        refine lv_iload hx hb dX6_below_144 (lv_at hl 2 rfl) ?_
                        refine lv_goto (tgt := 150) hx hb dX6_below_146 (by decide) ?_
                        refine lv_istore (lv' := [(4, .int y8), (6, .long z57), (5, .int 1), (0, .ref (w 0)), (1, .int x1), (2, .int x2), (3, .int x3)]) hx hb dX6_below_150 hl (by decide) rfl (fun ls hl => ?_)
                        refine lv_iconst (v := 0) hx hb dX6_below_152 (by decide) ?_
                        refine lv_istore (lv' := [(8, .int 0), (4, .int y8), (6, .long z57), (5, .int 1), (0, .ref (w 0)), (1, .int x1), (2, .int x2), (3, .int x3)]) hx hb dX6_below_153 hl (by decide) rfl (fun ls hl => ?_)
                        refine lv_iconst (v := 0) hx hb dX6_below_155 (by decide) ?_
                        refine lv_istore (lv' := [(9, .int 0), (8, .int 0), (4, .int y8), (6, .long z57), (5, .int 1), (0, .ref (w 0)), (1, .int x1), (2, .int x2), (3, .int x3)]) hx hb dX6_below_156 hl (by decide) rfl (fun ls hl => ?_)
                        obtain ⟨z60, hz60, hf⟩ := obd hf
                        refine W158 4000 x1 x2 x3 y8 z57 0 0 H locs ls z60 hP hS (lv_sub hl [5, 6, 7, 8, 2, 3, 1, 0] rfl) hz60 (fun H locs ls hP hS hl => ?_)
                        refine lv_iload hx hb dX6_below_214 (lv_at hl 0 rfl) ?_
                        have er := Option.some.inj hf
                        exact rtI hx hb hr hS dX6_below_216 er hlocks
                    · replace hf := oif c55 hf
                      refine lv_aload_n hx hb dX6_below_113 rfl (lv_at hl 2 rfl) ?_
                      refine va_get (D := D) (ci := 6) (v := .ref (w 1)) (C := RX6) (T := TX6) (N := 12) hx hb hts hI_X6 hown hK hP 0 rfl rfl 0 (by decide) gf7 (fun _ h9 => h9) rfl dX6_below_114 ?_
                      refine lv_sipush (v := 171) hx hb dX6_below_117 (by decide) ?_
                      refine va_lald hx hb hK hP 1 1 rfl rfl (ib_in (by decide)) dX6_below_120 ?_
                      refine lv_goto (tgt := 136) hx hb dX6_below_121 (by decide) ?_
                      refine lv_lstore (lv' := [(6, .long (w_w (Int32.toNatClampNeg 171))), (5, .int 1), (4, .int y8), (0, .ref (w 0)), (1, .int x1), (2, .int x2), (3, .int x3)]) hx hb dX6_below_136 hl (by decide) rfl (fun ls hl => ?_)
                      refine lv_iload_n hx hb dX6_below_138 rfl (lv_at hl 5 rfl) ?_
                      refine lv_bipush (v := 8) hx hb dX6_below_139 (by decide) ?_
                      refine lv_icmp_ne (tgt := 149) hx hb dX6_below_141 (by decide) (fun c62 => ?_) (fun c62 => ?_)
                      · replace hf := oel c62 hf
                        refine lv_iload_n hx hb dX6_below_149 rfl (lv_at hl 5 rfl) ?_
                        refine lv_istore (lv' := [(4, .int x2), (6, .long (w_w (Int32.toNatClampNeg 171))), (5, .int 1), (0, .ref (w 0)), (1, .int x1), (2, .int x2), (3, .int x3)]) hx hb dX6_below_150 hl (by decide) rfl (fun ls hl => ?_)
                        refine lv_iconst (v := 0) hx hb dX6_below_152 (by decide) ?_
                        refine lv_istore (lv' := [(8, .int 0), (4, .int x2), (6, .long (w_w (Int32.toNatClampNeg 171))), (5, .int 1), (0, .ref (w 0)), (1, .int x1), (2, .int x2), (3, .int x3)]) hx hb dX6_below_153 hl (by decide) rfl (fun ls hl => ?_)
                        refine lv_iconst (v := 0) hx hb dX6_below_155 (by decide) ?_
                        refine lv_istore (lv' := [(9, .int 0), (8, .int 0), (4, .int x2), (6, .long (w_w (Int32.toNatClampNeg 171))), (5, .int 1), (0, .ref (w 0)), (1, .int x1), (2, .int x2), (3, .int x3)]) hx hb dX6_below_156 hl (by decide) rfl (fun ls hl => ?_)
                        obtain ⟨z63, hz63, hf⟩ := obd hf
                        refine W158 4000 x1 x2 x3 x2 (w_w (Int32.toNatClampNeg 171)) 0 0 H locs ls z63 hP hS (lv_sub hl [5, 6, 7, 8, 2, 3, 1, 0] rfl) hz63 (fun H locs ls hP hS hl => ?_)
                        refine lv_iload hx hb dX6_below_214 (lv_at hl 0 rfl) ?_
                        have er := Option.some.inj hf
                        exact rtI hx hb hr hS dX6_below_216 er hlocks
                      · replace hf := oif c62 hf
                        refine lv_iload hx hb dX6_below_144 (lv_at hl 2 rfl) ?_
                        refine lv_goto (tgt := 150) hx hb dX6_below_146 (by decide) ?_
                        refine lv_istore (lv' := [(4, .int y8), (6, .long (w_w (Int32.toNatClampNeg 171))), (5, .int 1), (0, .ref (w 0)), (1, .int x1), (2, .int x2), (3, .int x3)]) hx hb dX6_below_150 hl (by decide) rfl (fun ls hl => ?_)
                        refine lv_iconst (v := 0) hx hb dX6_below_152 (by decide) ?_
                        refine lv_istore (lv' := [(8, .int 0), (4, .int y8), (6, .long (w_w (Int32.toNatClampNeg 171))), (5, .int 1), (0, .ref (w 0)), (1, .int x1), (2, .int x2), (3, .int x3)]) hx hb dX6_below_153 hl (by decide) rfl (fun ls hl => ?_)
                        refine lv_iconst (v := 0) hx hb dX6_below_155 (by decide) ?_
                        refine lv_istore (lv' := [(9, .int 0), (8, .int 0), (4, .int y8), (6, .long (w_w (Int32.toNatClampNeg 171))), (5, .int 1), (0, .ref (w 0)), (1, .int x1), (2, .int x2), (3, .int x3)]) hx hb dX6_below_156 hl (by decide) rfl (fun ls hl => ?_)
                        obtain ⟨z64, hz64, hf⟩ := obd hf
                        refine W158 4000 x1 x2 x3 y8 (w_w (Int32.toNatClampNeg 171)) 0 0 H locs ls z64 hP hS (lv_sub hl [5, 6, 7, 8, 2, 3, 1, 0] rfl) hz64 (fun H locs ls hP hS hl => ?_)
                        refine lv_iload hx hb dX6_below_214 (lv_at hl 0 rfl) ?_
                        have er := Option.some.inj hf
                        exact rtI hx hb hr hS dX6_below_216 er hlocks
                  · replace hf := oel c54 hf
                    refine lv_aload_n hx hb dX6_below_96 rfl (lv_at hl 2 rfl) ?_
                    refine lv_iload_n hx hb dX6_below_97 rfl (lv_at hl 3 rfl) ?_
                    refine lv_iload_n hx hb dX6_below_98 rfl (lv_at hl 4 rfl) ?_
                    obtain ⟨z65, hz65, hf⟩ := obd hf
                    refine kZ (runV (As := [.int x1, .int x2]) (rest := []) C0 hE hAb hP (hDb.addr rfl) hS [0, 1] (wc := [oX6 w w_undos w_seed w_entries, aJ cJ (w 1) 3420 w_w]) (by decide) rfl 0 rfl rfl (c_X6_reads l D cI cJ cZ cQ bs H.size w w_undos w_seed w_entries w_w x1 x2 z65 hz65) (cwV 2 hts gX6_below_X6_reads rfl rfl rfl (by decide +kernel) ⟨Nat.le_of_ble_eq_true rfl, Nat.le_of_ble_eq_true rfl⟩) rfl hl.1 rfl (Nat.le_of_ble_eq_true rfl) dX6_below_99 ⟨Nat.le_of_ble_eq_true rfl, Nat.le_of_ble_eq_true rfl⟩) hS hP (fun bz65 H locs hP hS => ?_)
                    refine lv_if_ne (tgt := 107) hx hb dX6_below_102 (by decide) (fun c66 => ?_) (fun c66 => ?_)
                    · replace hf := oel c66 hf
                      refine lv_iload_n hx hb dX6_below_107 rfl (lv_at hl 4 rfl) ?_
                      refine lv_bipush (v := 8) hx hb dX6_below_108 (by decide) ?_
                      refine lv_icmp_ne (tgt := 124) hx hb dX6_below_110 (by decide) (fun c67 => ?_) (fun c67 => ?_)
                      · replace hf := oel c67 hf
                        refine lv_aload_n hx hb dX6_below_124 rfl (lv_at hl 2 rfl) ?_
                        refine va_get (D := D) (ci := 6) (v := .ref (w 1)) (C := RX6) (T := TX6) (N := 12) hx hb hts hI_X6 hown hK hP 0 rfl rfl 0 (by decide) gf7 (fun _ h9 => h9) rfl dX6_below_125 ?_
                        refine lv_sipush (v := 171) hx hb dX6_below_128 (by decide) ?_
                        refine va_lald hx hb hK hP 1 1 rfl rfl (ib_in (by decide)) dX6_below_131 ?_
                        refine lv_iload_n hx hb dX6_below_132 rfl (lv_at hl 4 rfl) ?_
                        obtain ⟨z69, hz69, hf⟩ := obd hf
                        refine kJ (runS (As := [.long (w_w (Int32.toNatClampNeg 171)), .int x2]) (rest := []) C0 hE hAb hP (hDb.addr rfl) hS [] (wc := []) (by decide) rfl (c_X6_gone l D cI cJ cZ cQ bs H.size (w_w (Int32.toNatClampNeg 171)) x2 z69 hz69) (va_cwS 2 hts gX6_below_X6_gone rfl rfl rfl (by decide +kernel) ⟨Nat.le_of_ble_eq_true rfl, Nat.le_of_ble_eq_true rfl⟩) rfl hl.1 rfl (Nat.le_of_ble_eq_true rfl) dX6_below_133 ⟨Nat.le_of_ble_eq_true rfl, Nat.le_of_ble_eq_true rfl⟩) hS hP (fun H locs hP hS => ?_)
                        refine lv_lstore (lv' := [(6, .long z69), (5, .int 1), (4, .int y8), (0, .ref (w 0)), (1, .int x1), (2, .int x2), (3, .int x3)]) hx hb dX6_below_136 hl (by decide) rfl (fun ls hl => ?_)
                        refine lv_iload_n hx hb dX6_below_138 rfl (lv_at hl 5 rfl) ?_
                        refine lv_bipush (v := 8) hx hb dX6_below_139 (by decide) ?_
                        refine lv_icmp_ne (tgt := 149) hx hb dX6_below_141 (by decide) (fun c70 => ?_) (fun c70 => ?_)
                        · replace hf := oel c70 hf
                          refine lv_iload_n hx hb dX6_below_149 rfl (lv_at hl 5 rfl) ?_
                          refine lv_istore (lv' := [(4, .int x2), (6, .long z69), (5, .int 1), (0, .ref (w 0)), (1, .int x1), (2, .int x2), (3, .int x3)]) hx hb dX6_below_150 hl (by decide) rfl (fun ls hl => ?_)
                          refine lv_iconst (v := 0) hx hb dX6_below_152 (by decide) ?_
                          refine lv_istore (lv' := [(8, .int 0), (4, .int x2), (6, .long z69), (5, .int 1), (0, .ref (w 0)), (1, .int x1), (2, .int x2), (3, .int x3)]) hx hb dX6_below_153 hl (by decide) rfl (fun ls hl => ?_)
                          refine lv_iconst (v := 0) hx hb dX6_below_155 (by decide) ?_
                          refine lv_istore (lv' := [(9, .int 0), (8, .int 0), (4, .int x2), (6, .long z69), (5, .int 1), (0, .ref (w 0)), (1, .int x1), (2, .int x2), (3, .int x3)]) hx hb dX6_below_156 hl (by decide) rfl (fun ls hl => ?_)
                          obtain ⟨z71, hz71, hf⟩ := obd hf
                          refine W158 4000 x1 x2 x3 x2 z69 0 0 H locs ls z71 hP hS (lv_sub hl [5, 6, 7, 8, 2, 3, 1, 0] rfl) hz71 (fun H locs ls hP hS hl => ?_)
                          refine lv_iload hx hb dX6_below_214 (lv_at hl 0 rfl) ?_
                          have er := Option.some.inj hf
                          exact rtI hx hb hr hS dX6_below_216 er hlocks
                        · replace hf := oif c70 hf
                          refine lv_iload hx hb dX6_below_144 (lv_at hl 2 rfl) ?_
                          refine lv_goto (tgt := 150) hx hb dX6_below_146 (by decide) ?_
                          refine lv_istore (lv' := [(4, .int y8), (6, .long z69), (5, .int 1), (0, .ref (w 0)), (1, .int x1), (2, .int x2), (3, .int x3)]) hx hb dX6_below_150 hl (by decide) rfl (fun ls hl => ?_)
                          refine lv_iconst (v := 0) hx hb dX6_below_152 (by decide) ?_
                          refine lv_istore (lv' := [(8, .int 0), (4, .int y8), (6, .long z69), (5, .int 1), (0, .ref (w 0)), (1, .int x1), (2, .int x2), (3, .int x3)]) hx hb dX6_below_153 hl (by decide) rfl (fun ls hl => ?_)
                          refine lv_iconst (v := 0) hx hb dX6_below_155 (by decide) ?_
                          refine lv_istore (lv' := [(9, .int 0), (8, .int 0), (4, .int y8), (6, .long z69), (5, .int 1), (0, .ref (w 0)), (1, .int x1), (2, .int x2), (3, .int x3)]) hx hb dX6_below_156 hl (by decide) rfl (fun ls hl => ?_)
                          obtain ⟨z72, hz72, hf⟩ := obd hf
                          refine W158 4000 x1 x2 x3 y8 z69 0 0 H locs ls z72 hP hS (lv_sub hl [5, 6, 7, 8, 2, 3, 1, 0] rfl) hz72 (fun H locs ls hP hS hl => ?_)
                          refine lv_iload hx hb dX6_below_214 (lv_at hl 0 rfl) ?_
                          have er := Option.some.inj hf
                          exact rtI hx hb hr hS dX6_below_216 er hlocks
                      · replace hf := oif c67 hf
                        refine lv_aload_n hx hb dX6_below_113 rfl (lv_at hl 2 rfl) ?_
                        refine va_get (D := D) (ci := 6) (v := .ref (w 1)) (C := RX6) (T := TX6) (N := 12) hx hb hts hI_X6 hown hK hP 0 rfl rfl 0 (by decide) gf7 (fun _ h9 => h9) rfl dX6_below_114 ?_
                        refine lv_sipush (v := 171) hx hb dX6_below_117 (by decide) ?_
                        refine va_lald hx hb hK hP 1 1 rfl rfl (ib_in (by decide)) dX6_below_120 ?_
                        refine lv_goto (tgt := 136) hx hb dX6_below_121 (by decide) ?_
                        refine lv_lstore (lv' := [(6, .long (w_w (Int32.toNatClampNeg 171))), (5, .int 1), (4, .int y8), (0, .ref (w 0)), (1, .int x1), (2, .int x2), (3, .int x3)]) hx hb dX6_below_136 hl (by decide) rfl (fun ls hl => ?_)
                        refine lv_iload_n hx hb dX6_below_138 rfl (lv_at hl 5 rfl) ?_
                        refine lv_bipush (v := 8) hx hb dX6_below_139 (by decide) ?_
                        refine lv_icmp_ne (tgt := 149) hx hb dX6_below_141 (by decide) (fun c74 => ?_) (fun c74 => ?_)
                        · replace hf := oel c74 hf
                          refine lv_iload_n hx hb dX6_below_149 rfl (lv_at hl 5 rfl) ?_
                          refine lv_istore (lv' := [(4, .int x2), (6, .long (w_w (Int32.toNatClampNeg 171))), (5, .int 1), (0, .ref (w 0)), (1, .int x1), (2, .int x2), (3, .int x3)]) hx hb dX6_below_150 hl (by decide) rfl (fun ls hl => ?_)
                          refine lv_iconst (v := 0) hx hb dX6_below_152 (by decide) ?_
                          refine lv_istore (lv' := [(8, .int 0), (4, .int x2), (6, .long (w_w (Int32.toNatClampNeg 171))), (5, .int 1), (0, .ref (w 0)), (1, .int x1), (2, .int x2), (3, .int x3)]) hx hb dX6_below_153 hl (by decide) rfl (fun ls hl => ?_)
                          refine lv_iconst (v := 0) hx hb dX6_below_155 (by decide) ?_
                          refine lv_istore (lv' := [(9, .int 0), (8, .int 0), (4, .int x2), (6, .long (w_w (Int32.toNatClampNeg 171))), (5, .int 1), (0, .ref (w 0)), (1, .int x1), (2, .int x2), (3, .int x3)]) hx hb dX6_below_156 hl (by decide) rfl (fun ls hl => ?_)
                          obtain ⟨z75, hz75, hf⟩ := obd hf
                          refine W158 4000 x1 x2 x3 x2 (w_w (Int32.toNatClampNeg 171)) 0 0 H locs ls z75 hP hS (lv_sub hl [5, 6, 7, 8, 2, 3, 1, 0] rfl) hz75 (fun H locs ls hP hS hl => ?_)
                          refine lv_iload hx hb dX6_below_214 (lv_at hl 0 rfl) ?_
                          have er := Option.some.inj hf
                          exact rtI hx hb hr hS dX6_below_216 er hlocks
                        · replace hf := oif c74 hf
                          refine lv_iload hx hb dX6_below_144 (lv_at hl 2 rfl) ?_
                          refine lv_goto (tgt := 150) hx hb dX6_below_146 (by decide) ?_
                          refine lv_istore (lv' := [(4, .int y8), (6, .long (w_w (Int32.toNatClampNeg 171))), (5, .int 1), (0, .ref (w 0)), (1, .int x1), (2, .int x2), (3, .int x3)]) hx hb dX6_below_150 hl (by decide) rfl (fun ls hl => ?_)
                          refine lv_iconst (v := 0) hx hb dX6_below_152 (by decide) ?_
                          refine lv_istore (lv' := [(8, .int 0), (4, .int y8), (6, .long (w_w (Int32.toNatClampNeg 171))), (5, .int 1), (0, .ref (w 0)), (1, .int x1), (2, .int x2), (3, .int x3)]) hx hb dX6_below_153 hl (by decide) rfl (fun ls hl => ?_)
                          refine lv_iconst (v := 0) hx hb dX6_below_155 (by decide) ?_
                          refine lv_istore (lv' := [(9, .int 0), (8, .int 0), (4, .int y8), (6, .long (w_w (Int32.toNatClampNeg 171))), (5, .int 1), (0, .ref (w 0)), (1, .int x1), (2, .int x2), (3, .int x3)]) hx hb dX6_below_156 hl (by decide) rfl (fun ls hl => ?_)
                          obtain ⟨z76, hz76, hf⟩ := obd hf
                          refine W158 4000 x1 x2 x3 y8 (w_w (Int32.toNatClampNeg 171)) 0 0 H locs ls z76 hP hS (lv_sub hl [5, 6, 7, 8, 2, 3, 1, 0] rfl) hz76 (fun H locs ls hP hS hl => ?_)
                          refine lv_iload hx hb dX6_below_214 (lv_at hl 0 rfl) ?_
                          have er := Option.some.inj hf
                          exact rtI hx hb hr hS dX6_below_216 er hlocks
                    · replace hf := oif c66 hf
                      refine lv_iconst (v := (-1)) hx hb dX6_below_105 (by decide) ?_
                      have er := Option.some.inj hf
                      exact rtI hx hb hr hS dX6_below_106 er hlocks
        · replace hf := oif c6 hf
          refine lv_ldc hx hb hown gk192 dX6_below_32 ?_
          have er := Option.some.inj hf
          exact rtI hx hb hr hS dX6_below_34 er hlocks
    · replace hf := oif c2 hf
      refine lv_ldc hx hb hown gk198 dX6_below_7 ?_
      have er := Option.some.inj hf
      exact rtI hx hb hr hS dX6_below_9 er hlocks
  exact go s.heap [] hP hS
noncomputable def f_X6_would (w_w : Nat → Int64) (x1 : Int32) (x2 : Int32) : Option (Int32 × (Nat → Int64)) := (f_X6_isSlot x1).bind (fun z1 => if z1 = 0 then (some (((-1000000001), w_w))) else ((some ((Int64.toInt32 (w_w (Int32.toNatClampNeg 170))) : Int32)).bind (fun y4 => (f_X6_isPlace w_w x2).bind (fun z5 => if z5 = 0 then (some (((-1), w_w))) else ((f_X6_lacks w_w x1 (Int32.toInt64 x2)).bind (fun z7 => if 0 < z7 then (some (((-1), w_w))) else ((f_X6_takes w_w x1 y4 (w_w (Int32.toNatClampNeg 171))).bind (fun z10 => if z10 = 0 then (some (((-1), w_w))) else ((f_X6_at x1 x2).bind (fun z12 => if ib ((12 : Int32) + z12) 3420 = true then ((some ((w_w ((12 : Int32) + z12).toNatClampNeg) : Int64)).bind (fun y14 => (f_X6_at x1 x2).bind (fun z15 => if ib ((84 : Int32) + z15) 3420 = true then ((some ((w_w ((84 : Int32) + z15).toNatClampNeg) : Int64)).bind (fun y17 => (f_X6_sets w_w x1 x2 y4 (w_w (Int32.toNatClampNeg 171))).bind (fun z19 => (f_X6_places z19).bind (fun z20 => (f_X6_lessThan z19 x2 z20).bind (fun z21 => (f_X6_at x1 x2).bind (fun z22 => if ib ((12 : Int32) + z22) 3420 = true then ((some (vp_updL z19 ((12 : Int32) + z22).toNatClampNeg y14 : Nat → Int64)).bind (fun h23a => (f_X6_at x1 x2).bind (fun z24 => if ib ((84 : Int32) + z24) 3420 = true then ((some (vp_updL h23a ((84 : Int32) + z24).toNatClampNeg y17 : Nat → Int64)).bind (fun h25a => some ((z21, h25a)))) else none))) else none)))))) else none))) else none))))))))))
set_option maxHeartbeats 4000000 in
set_option maxRecDepth 100000 in
theorem c_X6_would (l : Launch) (D : va_G) (cI cJ cZ cQ : ClassId) (bs sz : Nat) (w : Nat → Nat) (w_undos : Int32) (w_seed : Int32) (w_entries : Int32) (w_w : Nat → Int64) (x1 : Int32) (x2 : Int32) (zr : Int32 × (Nat → Int64)) (hf : f_X6_would w_w x1 x2 = some zr) : Met l yX6_would wsX6_would { frames := 7, cells := 0, slots := 0, locals := 176 } (va_Pc [.ref (w 0), .int x1, .int x2] (Pr D cI cJ cZ cQ bs sz [oX6 w w_undos w_seed w_entries, aJ cJ (w 1) 3420 w_w])) (QwI D zr (fun u => [oX6 w w_undos w_seed w_entries, aJ cJ (w 1) 3420 u]) (va_A [oX6 w w_undos w_seed w_entries, aJ cJ (w 1) 3420 w_w] sz)) 0 0 (va_A [oX6 w w_undos w_seed w_entries, aJ cJ (w 1) 3420 w_w] sz) := by
  refine stW (cc := cX6_would) (maxL := 9) (ret := (some .int)) (Qf := fun A => (QwI D zr (fun u => [oX6 w w_undos w_seed w_entries, aJ cJ (w 1) 3420 u]) A)) (by decide +kernel) rfl (Nat.le_of_ble_eq_true rfl) ?_
  intro p e s m args below meth c A C0 hr hlocks hname hsz hP hD hA hAb hE ls hl
  obtain ⟨hx, hb, hml, hown, hts⟩ := id C0
  have hown : s.vm.findClass RX6 = some m.cls := hown
  obtain ⟨hK, hNW, -, tw, hZ, hT⟩ := id hE
  have hl : lv_has ls 9 [(0, .ref (w 0)), (1, .int x1), (2, .int x2)] := hl
  have hS : va_S A s.heap s.heap [] := va_S.rf
  have hI_X6 := (show ∀ w ∈ wsX60, w ∈ wsX6_would by decide +kernel)
  have gf7 := hts (.fieldLink RX6 7 "RowRanksModel" "w" "[J") (by decide +kernel)
  have gk198 := hts (.constant RX6 198 (-1000000001)) (by decide +kernel)
  unfold f_X6_would at hf
  have go : ∀ (H : Heap) (locs : List Loc), va_P D vwCl [oX6 w w_undos w_seed w_entries, aJ cJ (w 1) 3420 w_w] H → va_S A s.heap H locs → W p l e { frames := 7, cells := 0, slots := 0, locals := 176 } s m args below meth c H locs 0 0 (MQ below (QwI D zr (fun u => [oX6 w w_undos w_seed w_entries, aJ cJ (w 1) 3420 u]) A) args s 0 0 A) (F0 m 0 ls []) := by
    intro H locs hP hS
    refine lv_iload_n hx hb dX6_would_0 rfl (lv_at hl 1 rfl) ?_
    obtain ⟨z1, hz1, hf⟩ := obd hf
    refine kZ (runS (As := [.int x1]) (rest := []) C0 hE hAb hP ((hD.weaken (fun _ _ _ h9 => hAb _ h9)).addr rfl) hS [] (wc := []) (by decide) rfl (c_X6_isSlot l D cI cJ cZ cQ bs H.size x1 z1 hz1) (va_cwS 1 hts gX6_would_X6_isSlot rfl rfl rfl (by decide +kernel) ⟨Nat.le_of_ble_eq_true rfl, Nat.le_of_ble_eq_true rfl⟩) rfl hl.1 rfl (Nat.le_of_ble_eq_true rfl) dX6_would_1 ⟨Nat.le_of_ble_eq_true rfl, Nat.le_of_ble_eq_true rfl⟩) hS hP (fun bz1 H locs hP hS => ?_)
    refine lv_if_ne (tgt := 10) hx hb dX6_would_4 (by decide) (fun c2 => ?_) (fun c2 => ?_)
    · replace hf := oel c2 hf
      refine lv_aload_n hx hb dX6_would_10 rfl (lv_at hl 0 rfl) ?_
      refine va_get (D := D) (ci := 6) (v := .ref (w 1)) (C := RX6) (T := TX6) (N := 12) hx hb hts hI_X6 hown hK hP 0 rfl rfl 0 (by decide) gf7 (fun _ h9 => h9) rfl dX6_would_11 ?_
      refine lv_sipush (v := 170) hx hb dX6_would_14 (by decide) ?_
      refine va_lald hx hb hK hP 1 1 rfl rfl (ib_in (by decide)) dX6_would_17 ?_
      refine lv_l2i (v := (Int64.toInt32 (w_w (Int32.toNatClampNeg 170)))) hx hb dX6_would_18 rfl ?_
      refine lv_topi (fun y4 ey4 => ?_)
      replace hf := onm ey4 hf
      refine lv_istore_n (lv' := [(3, .int y4), (0, .ref (w 0)), (1, .int x1), (2, .int x2)]) hx hb dX6_would_19 rfl hl (by decide) rfl (fun ls hl => ?_)
      refine lv_aload_n hx hb dX6_would_20 rfl (lv_at hl 1 rfl) ?_
      refine lv_iload_n hx hb dX6_would_21 rfl (lv_at hl 3 rfl) ?_
      obtain ⟨z5, hz5, hf⟩ := obd hf
      refine kZ (runV (As := [.int x2]) (rest := []) C0 hE hAb hP ((hD.weaken (fun _ _ _ h9 => hAb _ h9)).addr rfl) hS [0, 1] (wc := [oX6 w w_undos w_seed w_entries, aJ cJ (w 1) 3420 w_w]) (by decide) rfl 0 rfl rfl (c_X6_isPlace l D cI cJ cZ cQ bs H.size w w_undos w_seed w_entries w_w x2 z5 hz5) (cwV 1 hts gX6_would_X6_isPlace rfl rfl rfl (by decide +kernel) ⟨Nat.le_of_ble_eq_true rfl, Nat.le_of_ble_eq_true rfl⟩) rfl hl.1 rfl (Nat.le_of_ble_eq_true rfl) dX6_would_22 ⟨Nat.le_of_ble_eq_true rfl, Nat.le_of_ble_eq_true rfl⟩) hS hP (fun bz5 H locs hP hS => ?_)
      refine lv_if_eq (tgt := 55) hx hb dX6_would_25 (by decide) (fun c6 => ?_) (fun c6 => ?_)
      · replace hf := oif c6 hf
        refine lv_iconst (v := (-1)) hx hb dX6_would_55 (by decide) ?_
        have er := Option.some.inj hf
        exact rwI (wm := (fun u => [oX6 w w_undos w_seed w_entries, aJ cJ (w 1) 3420 u])) hx hb hr hS dX6_would_56 hP er hlocks
      · replace hf := oel c6 hf
        refine lv_aload_n hx hb dX6_would_28 rfl (lv_at hl 1 rfl) ?_
        refine lv_iload_n hx hb dX6_would_29 rfl (lv_at hl 2 rfl) ?_
        refine lv_iload_n hx hb dX6_would_30 rfl (lv_at hl 3 rfl) ?_
        refine lv_i2l (v := (Int32.toInt64 x2)) hx hb dX6_would_31 rfl ?_
        obtain ⟨z7, hz7, hf⟩ := obd hf
        refine kI (runV (As := [.int x1, .long (Int32.toInt64 x2)]) (rest := []) C0 hE hAb hP ((hD.weaken (fun _ _ _ h9 => hAb _ h9)).addr rfl) hS [0, 1] (wc := [oX6 w w_undos w_seed w_entries, aJ cJ (w 1) 3420 w_w]) (by decide) rfl 0 rfl rfl (c_X6_lacks l D cI cJ cZ cQ bs H.size w w_undos w_seed w_entries w_w x1 (Int32.toInt64 x2) z7 hz7) (cwV 2 hts gX6_would_X6_lacks rfl rfl rfl (by decide +kernel) ⟨Nat.le_of_ble_eq_true rfl, Nat.le_of_ble_eq_true rfl⟩) rfl hl.1 rfl (Nat.le_of_ble_eq_true rfl) dX6_would_32 ⟨Nat.le_of_ble_eq_true rfl, Nat.le_of_ble_eq_true rfl⟩) hS hP (fun H locs hP hS => ?_)
        refine lv_if_gt (tgt := 55) hx hb dX6_would_35 (by decide) (fun c8 => ?_) (fun c8 => ?_)
        · replace hf := oif c8 hf
          refine lv_iconst (v := (-1)) hx hb dX6_would_55 (by decide) ?_
          have er := Option.some.inj hf
          exact rwI (wm := (fun u => [oX6 w w_undos w_seed w_entries, aJ cJ (w 1) 3420 u])) hx hb hr hS dX6_would_56 hP er hlocks
        · replace hf := oel c8 hf
          refine lv_aload_n hx hb dX6_would_38 rfl (lv_at hl 1 rfl) ?_
          refine lv_iload_n hx hb dX6_would_39 rfl (lv_at hl 2 rfl) ?_
          refine lv_iload_n hx hb dX6_would_40 rfl (lv_at hl 0 rfl) ?_
          refine lv_aload_n hx hb dX6_would_41 rfl (lv_at hl 1 rfl) ?_
          refine va_get (D := D) (ci := 6) (v := .ref (w 1)) (C := RX6) (T := TX6) (N := 12) hx hb hts hI_X6 hown hK hP 0 rfl rfl 0 (by decide) gf7 (fun _ h9 => h9) rfl dX6_would_42 ?_
          refine lv_sipush (v := 171) hx hb dX6_would_45 (by decide) ?_
          refine va_lald hx hb hK hP 1 1 rfl rfl (ib_in (by decide)) dX6_would_48 ?_
          obtain ⟨z10, hz10, hf⟩ := obd hf
          refine kZ (runV (As := [.int x1, .int y4, .long (w_w (Int32.toNatClampNeg 171))]) (rest := []) C0 hE hAb hP ((hD.weaken (fun _ _ _ h9 => hAb _ h9)).addr rfl) hS [0, 1] (wc := [oX6 w w_undos w_seed w_entries, aJ cJ (w 1) 3420 w_w]) (by decide) rfl 0 rfl rfl (c_X6_takes l D cI cJ cZ cQ bs H.size w w_undos w_seed w_entries w_w x1 y4 (w_w (Int32.toNatClampNeg 171)) z10 hz10) (cwV 3 hts gX6_would_X6_takes rfl rfl rfl (by decide +kernel) ⟨Nat.le_of_ble_eq_true rfl, Nat.le_of_ble_eq_true rfl⟩) rfl hl.1 rfl (Nat.le_of_ble_eq_true rfl) dX6_would_49 ⟨Nat.le_of_ble_eq_true rfl, Nat.le_of_ble_eq_true rfl⟩) hS hP (fun bz10 H locs hP hS => ?_)
          refine lv_if_ne (tgt := 57) hx hb dX6_would_52 (by decide) (fun c11 => ?_) (fun c11 => ?_)
          · replace hf := oel c11 hf
            refine lv_aload_n hx hb dX6_would_57 rfl (lv_at hl 1 rfl) ?_
            refine va_get (D := D) (ci := 6) (v := .ref (w 1)) (C := RX6) (T := TX6) (N := 12) hx hb hts hI_X6 hown hK hP 0 rfl rfl 0 (by decide) gf7 (fun _ h9 => h9) rfl dX6_would_58 ?_
            refine lv_bipush (v := 12) hx hb dX6_would_61 (by decide) ?_
            refine lv_iload_n hx hb dX6_would_63 rfl (lv_at hl 2 rfl) ?_
            refine lv_iload_n hx hb dX6_would_64 rfl (lv_at hl 3 rfl) ?_
            obtain ⟨z12, hz12, hf⟩ := obd hf
            refine kI (runS (As := [.int x1, .int x2]) (rest := [.int 12, .ref (w 1)]) C0 hE hAb hP ((hD.weaken (fun _ _ _ h9 => hAb _ h9)).addr rfl) hS [] (wc := []) (by decide) rfl (c_X6_at l D cI cJ cZ cQ bs H.size x1 x2 z12 hz12) (va_cwS 2 hts gX6_would_X6_at rfl rfl rfl (by decide +kernel) ⟨Nat.le_of_ble_eq_true rfl, Nat.le_of_ble_eq_true rfl⟩) rfl hl.1 rfl (Nat.le_of_ble_eq_true rfl) dX6_would_65 ⟨Nat.le_of_ble_eq_true rfl, Nat.le_of_ble_eq_true rfl⟩) hS hP (fun H locs hP hS => ?_)
            refine lv_iadd hx hb dX6_would_68 ?_
            obtain ⟨h13, hf⟩ := ogd hf
            refine va_lald hx hb hK hP 1 1 rfl rfl (ib_in h13) dX6_would_69 ?_
            refine lv_topl (fun y14 ey14 => ?_)
            replace hf := onm ey14 hf
            refine lv_lstore (lv' := [(4, .long y14), (3, .int y4), (0, .ref (w 0)), (1, .int x1), (2, .int x2)]) hx hb dX6_would_70 hl (by decide) rfl (fun ls hl => ?_)
            refine lv_aload_n hx hb dX6_would_72 rfl (lv_at hl 2 rfl) ?_
            refine va_get (D := D) (ci := 6) (v := .ref (w 1)) (C := RX6) (T := TX6) (N := 12) hx hb hts hI_X6 hown hK hP 0 rfl rfl 0 (by decide) gf7 (fun _ h9 => h9) rfl dX6_would_73 ?_
            refine lv_bipush (v := 84) hx hb dX6_would_76 (by decide) ?_
            refine lv_iload_n hx hb dX6_would_78 rfl (lv_at hl 3 rfl) ?_
            refine lv_iload_n hx hb dX6_would_79 rfl (lv_at hl 4 rfl) ?_
            obtain ⟨z15, hz15, hf⟩ := obd hf
            refine kI (runS (As := [.int x1, .int x2]) (rest := [.int 84, .ref (w 1)]) C0 hE hAb hP ((hD.weaken (fun _ _ _ h9 => hAb _ h9)).addr rfl) hS [] (wc := []) (by decide) rfl (c_X6_at l D cI cJ cZ cQ bs H.size x1 x2 z15 hz15) (va_cwS 2 hts gX6_would_X6_at rfl rfl rfl (by decide +kernel) ⟨Nat.le_of_ble_eq_true rfl, Nat.le_of_ble_eq_true rfl⟩) rfl hl.1 rfl (Nat.le_of_ble_eq_true rfl) dX6_would_80 ⟨Nat.le_of_ble_eq_true rfl, Nat.le_of_ble_eq_true rfl⟩) hS hP (fun H locs hP hS => ?_)
            refine lv_iadd hx hb dX6_would_83 ?_
            obtain ⟨h16, hf⟩ := ogd hf
            refine va_lald hx hb hK hP 1 1 rfl rfl (ib_in h16) dX6_would_84 ?_
            refine lv_topl (fun y17 ey17 => ?_)
            replace hf := onm ey17 hf
            refine lv_lstore (lv' := [(6, .long y17), (4, .long y14), (3, .int y4), (0, .ref (w 0)), (1, .int x1), (2, .int x2)]) hx hb dX6_would_85 hl (by decide) rfl (fun ls hl => ?_)
            refine lv_aload_n hx hb dX6_would_87 rfl (lv_at hl 3 rfl) ?_
            refine lv_iload_n hx hb dX6_would_88 rfl (lv_at hl 4 rfl) ?_
            refine lv_iload_n hx hb dX6_would_89 rfl (lv_at hl 5 rfl) ?_
            refine lv_iload_n hx hb dX6_would_90 rfl (lv_at hl 2 rfl) ?_
            refine lv_aload_n hx hb dX6_would_91 rfl (lv_at hl 3 rfl) ?_
            refine va_get (D := D) (ci := 6) (v := .ref (w 1)) (C := RX6) (T := TX6) (N := 12) hx hb hts hI_X6 hown hK hP 0 rfl rfl 0 (by decide) gf7 (fun _ h9 => h9) rfl dX6_would_92 ?_
            refine lv_sipush (v := 171) hx hb dX6_would_95 (by decide) ?_
            refine va_lald hx hb hK hP 1 1 rfl rfl (ib_in (by decide)) dX6_would_98 ?_
            obtain ⟨z19, hz19, hf⟩ := obd hf
            refine kwV (runV (As := [.int x1, .int x2, .int y4, .long (w_w (Int32.toNatClampNeg 171))]) (rest := []) C0 hE hAb hP ((hD.weaken (fun _ _ _ h9 => hAb _ h9)).addr rfl) hS [0, 1] (wc := [oX6 w w_undos w_seed w_entries, aJ cJ (w 1) 3420 w_w]) (by decide) rfl 0 rfl rfl (c_X6_sets l D cI cJ cZ cQ bs H.size w w_undos w_seed w_entries w_w x1 x2 y4 (w_w (Int32.toNatClampNeg 171)) z19 hz19) (cwV 4 hts gX6_would_X6_sets rfl rfl rfl (by decide +kernel) ⟨Nat.le_of_ble_eq_true rfl, Nat.le_of_ble_eq_true rfl⟩) rfl hl.1 rfl (Nat.le_of_ble_eq_true rfl) dX6_would_99 ⟨Nat.le_of_ble_eq_true rfl, Nat.le_of_ble_eq_true rfl⟩) hS hP (hD.addr rfl) hA [0, 1] rfl rfl (ws' := [oX6 w w_undos w_seed w_entries, aJ cJ (w 1) 3420 z19]) rfl rfl (fun H locs hP hS => ?_)
            refine lv_aload_n hx hb dX6_would_102 rfl (lv_at hl 3 rfl) ?_
            refine lv_iload_n hx hb dX6_would_103 rfl (lv_at hl 5 rfl) ?_
            refine lv_aload_n hx hb dX6_would_104 rfl (lv_at hl 3 rfl) ?_
            obtain ⟨z20, hz20, hf⟩ := obd hf
            refine kI (runV (As := []) (rest := [.int x2, .ref (w 0)]) C0 hE hAb hP ((hD.weaken (fun _ _ _ h9 => hAb _ h9)).addr rfl) hS [0, 1] (wc := [oX6 w w_undos w_seed w_entries, aJ cJ (w 1) 3420 z19]) (by decide) rfl 0 rfl rfl (c_X6_places l D cI cJ cZ cQ bs H.size w w_undos w_seed w_entries z19 z20 hz20) (cwV 0 hts gX6_would_X6_places rfl rfl rfl (by decide +kernel) ⟨Nat.le_of_ble_eq_true rfl, Nat.le_of_ble_eq_true rfl⟩) rfl hl.1 rfl (Nat.le_of_ble_eq_true rfl) dX6_would_105 ⟨Nat.le_of_ble_eq_true rfl, Nat.le_of_ble_eq_true rfl⟩) hS hP (fun H locs hP hS => ?_)
            obtain ⟨z21, hz21, hf⟩ := obd hf
            refine kI (runV (As := [.int x2, .int z20]) (rest := []) C0 hE hAb hP ((hD.weaken (fun _ _ _ h9 => hAb _ h9)).addr rfl) hS [0, 1] (wc := [oX6 w w_undos w_seed w_entries, aJ cJ (w 1) 3420 z19]) (by decide) rfl 0 rfl rfl (c_X6_lessThan l D cI cJ cZ cQ bs H.size w w_undos w_seed w_entries z19 x2 z20 z21 hz21) (cwV 2 hts gX6_would_X6_lessThan rfl rfl rfl (by decide +kernel) ⟨Nat.le_of_ble_eq_true rfl, Nat.le_of_ble_eq_true rfl⟩) rfl hl.1 rfl (Nat.le_of_ble_eq_true rfl) dX6_would_108 ⟨Nat.le_of_ble_eq_true rfl, Nat.le_of_ble_eq_true rfl⟩) hS hP (fun H locs hP hS => ?_)
            refine lv_istore (lv' := [(8, .int z21), (6, .long y17), (4, .long y14), (3, .int y4), (0, .ref (w 0)), (1, .int x1), (2, .int x2)]) hx hb dX6_would_111 hl (by decide) rfl (fun ls hl => ?_)
            refine lv_aload_n hx hb dX6_would_113 rfl (lv_at hl 4 rfl) ?_
            refine va_get (D := D) (ci := 6) (v := .ref (w 1)) (C := RX6) (T := TX6) (N := 12) hx hb hts hI_X6 hown hK hP 0 rfl rfl 0 (by decide) gf7 (fun _ h9 => h9) rfl dX6_would_114 ?_
            refine lv_bipush (v := 12) hx hb dX6_would_117 (by decide) ?_
            refine lv_iload_n hx hb dX6_would_119 rfl (lv_at hl 5 rfl) ?_
            refine lv_iload_n hx hb dX6_would_120 rfl (lv_at hl 6 rfl) ?_
            obtain ⟨z22, hz22, hf⟩ := obd hf
            refine kI (runS (As := [.int x1, .int x2]) (rest := [.int 12, .ref (w 1)]) C0 hE hAb hP ((hD.weaken (fun _ _ _ h9 => hAb _ h9)).addr rfl) hS [] (wc := []) (by decide) rfl (c_X6_at l D cI cJ cZ cQ bs H.size x1 x2 z22 hz22) (va_cwS 2 hts gX6_would_X6_at rfl rfl rfl (by decide +kernel) ⟨Nat.le_of_ble_eq_true rfl, Nat.le_of_ble_eq_true rfl⟩) rfl hl.1 rfl (Nat.le_of_ble_eq_true rfl) dX6_would_121 ⟨Nat.le_of_ble_eq_true rfl, Nat.le_of_ble_eq_true rfl⟩) hS hP (fun H locs hP hS => ?_)
            refine lv_iadd hx hb dX6_would_124 ?_
            refine lv_lload hx hb dX6_would_125 (lv_at hl 2 rfl) ?_
            obtain ⟨h23, hf⟩ := ogd hf
            refine va_last hx hb hK hP (hD.addr rfl) hS 1 1 rfl rfl (ib_in h23) dX6_would_127 (fun H locs hP _ hS => ?_)
            obtain ⟨h23a, eh23a⟩ : ∃ y : Nat → Int64, y = vp_updL z19 ((12 : Int32) + z22).toNatClampNeg y14 := ⟨_, rfl⟩
            replace hf := onm eh23a hf
            have hP : va_P D vwCl [oX6 w w_undos w_seed w_entries, aJ cJ (w 1) 3420 h23a] H := by rw [eh23a]; exact hP
            refine lv_aload_n hx hb dX6_would_128 rfl (lv_at hl 4 rfl) ?_
            refine va_get (D := D) (ci := 6) (v := .ref (w 1)) (C := RX6) (T := TX6) (N := 12) hx hb hts hI_X6 hown hK hP 0 rfl rfl 0 (by decide) gf7 (fun _ h9 => h9) rfl dX6_would_129 ?_
            refine lv_bipush (v := 84) hx hb dX6_would_132 (by decide) ?_
            refine lv_iload_n hx hb dX6_would_134 rfl (lv_at hl 5 rfl) ?_
            refine lv_iload_n hx hb dX6_would_135 rfl (lv_at hl 6 rfl) ?_
            obtain ⟨z24, hz24, hf⟩ := obd hf
            refine kI (runS (As := [.int x1, .int x2]) (rest := [.int 84, .ref (w 1)]) C0 hE hAb hP ((hD.weaken (fun _ _ _ h9 => hAb _ h9)).addr rfl) hS [] (wc := []) (by decide) rfl (c_X6_at l D cI cJ cZ cQ bs H.size x1 x2 z24 hz24) (va_cwS 2 hts gX6_would_X6_at rfl rfl rfl (by decide +kernel) ⟨Nat.le_of_ble_eq_true rfl, Nat.le_of_ble_eq_true rfl⟩) rfl hl.1 rfl (Nat.le_of_ble_eq_true rfl) dX6_would_136 ⟨Nat.le_of_ble_eq_true rfl, Nat.le_of_ble_eq_true rfl⟩) hS hP (fun H locs hP hS => ?_)
            refine lv_iadd hx hb dX6_would_139 ?_
            refine lv_lload hx hb dX6_would_140 (lv_at hl 1 rfl) ?_
            obtain ⟨h25, hf⟩ := ogd hf
            refine va_last hx hb hK hP (hD.addr rfl) hS 1 1 rfl rfl (ib_in h25) dX6_would_142 (fun H locs hP _ hS => ?_)
            obtain ⟨h25a, eh25a⟩ : ∃ y : Nat → Int64, y = vp_updL h23a ((84 : Int32) + z24).toNatClampNeg y17 := ⟨_, rfl⟩
            replace hf := onm eh25a hf
            have hP : va_P D vwCl [oX6 w w_undos w_seed w_entries, aJ cJ (w 1) 3420 h25a] H := by rw [eh25a]; exact hP
            refine lv_iload hx hb dX6_would_143 (lv_at hl 0 rfl) ?_
            have er := Option.some.inj hf
            exact rwI (wm := (fun u => [oX6 w w_undos w_seed w_entries, aJ cJ (w 1) 3420 u])) hx hb hr hS dX6_would_145 hP er hlocks
          · replace hf := oif c11 hf
            refine lv_iconst (v := (-1)) hx hb dX6_would_55 (by decide) ?_
            have er := Option.some.inj hf
            exact rwI (wm := (fun u => [oX6 w w_undos w_seed w_entries, aJ cJ (w 1) 3420 u])) hx hb hr hS dX6_would_56 hP er hlocks
    · replace hf := oif c2 hf
      refine lv_ldc hx hb hown gk198 dX6_would_7 ?_
      have er := Option.some.inj hf
      exact rwI (wm := (fun u => [oX6 w w_undos w_seed w_entries, aJ cJ (w 1) 3420 u])) hx hb hr hS dX6_would_9 hP er hlocks
  exact go s.heap [] hP hS
noncomputable def L_X6_lay_72 (v1 : Int32) (v2 : Int32) : Nat → Int32 → (Nat → Int64) → Option ((Nat → Int64))
  | 0, _, _ => none
  | n + 1, v5, w_w => if 12 ≤ v5 then (some (w_w)) else ((f_X6_at v1 v5).bind (fun z12 => if 7 < v2 then (if ib ((12 : Int32) + z12) 3420 = true then ((some (vp_updL w_w ((12 : Int32) + z12).toNatClampNeg 9 : Nat → Int64)).bind (fun h14a => (f_X6_at v1 v5).bind (fun z15 => if ib ((84 : Int32) + z15) 3420 = true then ((some (vp_updL h14a ((84 : Int32) + z15).toNatClampNeg 0 : Nat → Int64)).bind (fun h16a => (some (v5 + 1 : Int32)).bind (fun y17 => L_X6_lay_72 v1 v2 n y17 h16a))) else none))) else none) else (if ib ((12 : Int32) + z12) 3420 = true then ((some (vp_updL w_w ((12 : Int32) + z12).toNatClampNeg (Int32.toInt64 v2) : Nat → Int64)).bind (fun h18a => (f_X6_at v1 v5).bind (fun z19 => if ib ((84 : Int32) + z19) 3420 = true then ((some (vp_updL h18a ((84 : Int32) + z19).toNatClampNeg 0 : Nat → Int64)).bind (fun h20a => (some (v5 + 1 : Int32)).bind (fun y21 => L_X6_lay_72 v1 v2 n y21 h20a))) else none))) else none)))
noncomputable def f_X6_lay (w_w : Nat → Int64) (w_undos : Int32) (x1 : Int32) (x2 : Int32) (x3 : Int32) : Option (Int32 × (Nat → Int64) × Int32) := (f_X6_isSlot x1).bind (fun z1 => if z1 = 0 then (some (((-1000000001), w_w, w_undos))) else ((f_X6_in (Int32.toInt64 x2) 0 14).bind (fun z3 => if z3 = 0 then (some (((-1000000002), w_w, w_undos))) else ((f_X6_in (Int32.toInt64 x3) 0 12).bind (fun z5 => if z5 = 0 then (some (((-1000000002), w_w, w_undos))) else ((f_X6_minds w_w w_undos).bind (fun z7 => (f_X6_kind z7.1 x1).bind (fun z8 => if ib ((0 : Int32) + x1) 3420 = true then ((some (vp_updL z7.1 ((0 : Int32) + x1).toNatClampNeg (Int32.toInt64 x2) : Nat → Int64)).bind (fun h9a => if ib ((6 : Int32) + x1) 3420 = true then ((some (vp_updL h9a ((6 : Int32) + x1).toNatClampNeg (Int32.toInt64 x3) : Nat → Int64)).bind (fun h10a => (L_X6_lay_72 x1 x2 4000 0 h10a).bind (fun z22 => some ((z8, z22, z7.2))))) else none)) else none))))))))
set_option maxHeartbeats 4000000 in
set_option maxRecDepth 100000 in
theorem c_X6_lay (l : Launch) (D : va_G) (cI cJ cZ cQ : ClassId) (bs sz : Nat) (w : Nat → Nat) (w_undos : Int32) (w_seed : Int32) (w_entries : Int32) (w_w : Nat → Int64) (x1 : Int32) (x2 : Int32) (x3 : Int32) (zr : Int32 × (Nat → Int64) × Int32) (hf : f_X6_lay w_w w_undos x1 x2 x3 = some zr) : Met l yX6_lay wsX6_lay { frames := 2, cells := 0, slots := 0, locals := 45 } (va_Pc [.ref (w 0), .int x1, .int x2, .int x3] (Pr D cI cJ cZ cQ bs sz [oX6 w w_undos w_seed w_entries, aJ cJ (w 1) 3420 w_w])) (QwI D zr (fun u => [oX6 w u.2 w_seed w_entries, aJ cJ (w 1) 3420 u.1]) (va_A [oX6 w w_undos w_seed w_entries, aJ cJ (w 1) 3420 w_w] sz)) 0 0 (va_A [oX6 w w_undos w_seed w_entries, aJ cJ (w 1) 3420 w_w] sz) := by
  refine stW (cc := cX6_lay) (maxL := 6) (ret := (some .int)) (Qf := fun A => (QwI D zr (fun u => [oX6 w u.2 w_seed w_entries, aJ cJ (w 1) 3420 u.1]) A)) (by decide +kernel) rfl (Nat.le_of_ble_eq_true rfl) ?_
  intro p e s m args below meth c A C0 hr hlocks hname hsz hP hD hA hAb hE ls hl
  obtain ⟨hx, hb, hml, hown, hts⟩ := id C0
  have hown : s.vm.findClass RX6 = some m.cls := hown
  obtain ⟨hK, hNW, -, tw, hZ, hT⟩ := id hE
  have hl : lv_has ls 6 [(0, .ref (w 0)), (1, .int x1), (2, .int x2), (3, .int x3)] := hl
  have hS : va_S A s.heap s.heap [] := va_S.rf
  have gk39 := hts (.constantLong RX6 39 (14)) (by decide +kernel)
  have gk192 := hts (.constant RX6 192 (-1000000002)) (by decide +kernel)
  have gk237 := hts (.constantLong RX6 237 (12)) (by decide +kernel)
  have hI_X6 := (show ∀ w ∈ wsX60, w ∈ wsX6_lay by decide +kernel)
  have gf7 := hts (.fieldLink RX6 7 "RowRanksModel" "w" "[J") (by decide +kernel)
  have gk41 := hts (.constantLong RX6 41 (9)) (by decide +kernel)
  have gk198 := hts (.constant RX6 198 (-1000000001)) (by decide +kernel)
  have W72 : ∀ (n : Nat) (v1 : Int32) (v2 : Int32) (v4 : Int32) (v5 : Int32) (w_w : Nat → Int64) (w_undos : Int32) (H : Heap) (locs : List Loc) (ls : Array Slot) (z : (Nat → Int64)), va_P D vwCl [oX6 w w_undos w_seed w_entries, aJ cJ (w 1) 3420 w_w] H → va_S A s.heap H locs → lv_has ls 6 [(0, .ref (w 0)), (1, .int v1), (2, .int v2), (4, .int v4), (5, .int v5)] → L_X6_lay_72 v1 v2 n v5 w_w = some z → (∀ (H : Heap) (locs : List Loc) (ls : Array Slot), va_P D vwCl [oX6 w w_undos w_seed w_entries, aJ cJ (w 1) 3420 z] H → va_S A s.heap H locs → lv_has ls 6 [(4, .int v4)] → W p l e { frames := 2, cells := 0, slots := 0, locals := 45 } s m args below meth c H locs 0 0 (MQ below (QwI D zr (fun u => [oX6 w u.2 w_seed w_entries, aJ cJ (w 1) 3420 u.1]) A) args s 0 0 A) (F0 m 128 ls [])) → W p l e { frames := 2, cells := 0, slots := 0, locals := 45 } s m args below meth c H locs 0 0 (MQ below (QwI D zr (fun u => [oX6 w u.2 w_seed w_entries, aJ cJ (w 1) 3420 u.1]) A) args s 0 0 A) (F0 m 72 ls []) := by
    intro n
    induction n with
    | zero =>
      intro v1 v2 v4 v5 w_w w_undos H locs ls z hP hS hl hf
      exact absurd (show (none : Option ((Nat → Int64))) = some z from hf) (fun h => by cases h)
    | succ n ih =>
      intro v1 v2 v4 v5 w_w w_undos H locs ls z hP hS hl hf K
      rw [L_X6_lay_72] at hf
      refine lv_iload hx hb dX6_lay_72 (lv_at hl 4 rfl) ?_
      refine lv_bipush (v := 12) hx hb dX6_lay_74 (by decide) ?_
      refine lv_icmp_ge (tgt := 128) hx hb dX6_lay_76 (by decide) (fun c11 => ?_) (fun c11 => ?_)
      · replace hf := oif c11 hf
        have hf := Option.some.inj hf
        subst hf
        exact K H locs ls hP hS (lv_sub hl [3] rfl)
      · replace hf := oel c11 hf
        refine lv_aload_n hx hb dX6_lay_79 rfl (lv_at hl 0 rfl) ?_
        refine va_get (D := D) (ci := 6) (v := .ref (w 1)) (C := RX6) (T := TX6) (N := 12) hx hb hts hI_X6 hown hK hP 0 rfl rfl 0 (by decide) gf7 (fun _ h9 => h9) rfl dX6_lay_80 ?_
        refine lv_bipush (v := 12) hx hb dX6_lay_83 (by decide) ?_
        refine lv_iload_n hx hb dX6_lay_85 rfl (lv_at hl 1 rfl) ?_
        refine lv_iload hx hb dX6_lay_86 (lv_at hl 4 rfl) ?_
        obtain ⟨z12, hz12, hf⟩ := obd hf
        refine kI (runS (As := [.int v1, .int v5]) (rest := [.int 12, .ref (w 1)]) C0 hE hAb hP ((hD.weaken (fun _ _ _ h9 => hAb _ h9)).addr rfl) hS [] (wc := []) (by decide) rfl (c_X6_at l D cI cJ cZ cQ bs H.size v1 v5 z12 hz12) (va_cwS 2 hts gX6_lay_X6_at rfl rfl rfl (by decide +kernel) ⟨Nat.le_of_ble_eq_true rfl, Nat.le_of_ble_eq_true rfl⟩) rfl hl.1 rfl (Nat.le_of_ble_eq_true rfl) dX6_lay_88 ⟨Nat.le_of_ble_eq_true rfl, Nat.le_of_ble_eq_true rfl⟩) hS hP (fun H locs hP hS => ?_)
        refine lv_iadd hx hb dX6_lay_91 ?_
        refine lv_iload_n hx hb dX6_lay_92 rfl (lv_at hl 2 rfl) ?_
        refine lv_bipush (v := 7) hx hb dX6_lay_93 (by decide) ?_
        refine lv_icmp_gt (tgt := 103) hx hb dX6_lay_95 (by decide) (fun c13 => ?_) (fun c13 => ?_)
        · replace hf := oif c13 hf
          refine lv_ldc2 hx hb hown gk41 dX6_lay_103 ?_
          obtain ⟨h14, hf⟩ := ogd hf
          refine va_last hx hb hK hP (hD.addr rfl) hS 1 1 rfl rfl (ib_in h14) dX6_lay_106 (fun H locs hP _ hS => ?_)
          obtain ⟨h14a, eh14a⟩ : ∃ y : Nat → Int64, y = vp_updL w_w ((12 : Int32) + z12).toNatClampNeg 9 := ⟨_, rfl⟩
          replace hf := onm eh14a hf
          have hP : va_P D vwCl [oX6 w w_undos w_seed w_entries, aJ cJ (w 1) 3420 h14a] H := by rw [eh14a]; exact hP
          refine lv_aload_n hx hb dX6_lay_107 rfl (lv_at hl 0 rfl) ?_
          refine va_get (D := D) (ci := 6) (v := .ref (w 1)) (C := RX6) (T := TX6) (N := 12) hx hb hts hI_X6 hown hK hP 0 rfl rfl 0 (by decide) gf7 (fun _ h9 => h9) rfl dX6_lay_108 ?_
          refine lv_bipush (v := 84) hx hb dX6_lay_111 (by decide) ?_
          refine lv_iload_n hx hb dX6_lay_113 rfl (lv_at hl 1 rfl) ?_
          refine lv_iload hx hb dX6_lay_114 (lv_at hl 4 rfl) ?_
          obtain ⟨z15, hz15, hf⟩ := obd hf
          refine kI (runS (As := [.int v1, .int v5]) (rest := [.int 84, .ref (w 1)]) C0 hE hAb hP ((hD.weaken (fun _ _ _ h9 => hAb _ h9)).addr rfl) hS [] (wc := []) (by decide) rfl (c_X6_at l D cI cJ cZ cQ bs H.size v1 v5 z15 hz15) (va_cwS 2 hts gX6_lay_X6_at rfl rfl rfl (by decide +kernel) ⟨Nat.le_of_ble_eq_true rfl, Nat.le_of_ble_eq_true rfl⟩) rfl hl.1 rfl (Nat.le_of_ble_eq_true rfl) dX6_lay_116 ⟨Nat.le_of_ble_eq_true rfl, Nat.le_of_ble_eq_true rfl⟩) hS hP (fun H locs hP hS => ?_)
          refine lv_iadd hx hb dX6_lay_119 ?_
          refine lv_lconst (v := 0) hx hb dX6_lay_120 (by decide) ?_
          obtain ⟨h16, hf⟩ := ogd hf
          refine va_last hx hb hK hP (hD.addr rfl) hS 1 1 rfl rfl (ib_in h16) dX6_lay_121 (fun H locs hP _ hS => ?_)
          obtain ⟨h16a, eh16a⟩ : ∃ y : Nat → Int64, y = vp_updL h14a ((84 : Int32) + z15).toNatClampNeg 0 := ⟨_, rfl⟩
          replace hf := onm eh16a hf
          have hP : va_P D vwCl [oX6 w w_undos w_seed w_entries, aJ cJ (w 1) 3420 h16a] H := by rw [eh16a]; exact hP
          obtain ⟨y17, ey17⟩ : ∃ y : Int32, y = v5 + 1 := ⟨_, rfl⟩
          replace hf := onm ey17 hf
          refine lv_iinc (v := y17) (lv' := [(5, .int y17), (0, .ref (w 0)), (1, .int v1), (2, .int v2), (4, .int v4)]) hx hb dX6_lay_122 hl (k := 4) rfl (by rw [ey17]; rfl) (by decide) rfl (fun ls hl => ?_)
          refine lv_goto (tgt := 72) hx hb dX6_lay_125 (by decide) ?_
          exact ih v1 v2 v4 y17 h16a w_undos H locs ls z hP hS (lv_sub hl [1, 2, 3, 4, 0] rfl) hf K
        · replace hf := oel c13 hf
          refine lv_iload_n hx hb dX6_lay_98 rfl (lv_at hl 2 rfl) ?_
          refine lv_i2l (v := (Int32.toInt64 v2)) hx hb dX6_lay_99 rfl ?_
          refine lv_goto (tgt := 106) hx hb dX6_lay_100 (by decide) ?_
          obtain ⟨h18, hf⟩ := ogd hf
          refine va_last hx hb hK hP (hD.addr rfl) hS 1 1 rfl rfl (ib_in h18) dX6_lay_106 (fun H locs hP _ hS => ?_)
          obtain ⟨h18a, eh18a⟩ : ∃ y : Nat → Int64, y = vp_updL w_w ((12 : Int32) + z12).toNatClampNeg (Int32.toInt64 v2) := ⟨_, rfl⟩
          replace hf := onm eh18a hf
          have hP : va_P D vwCl [oX6 w w_undos w_seed w_entries, aJ cJ (w 1) 3420 h18a] H := by rw [eh18a]; exact hP
          refine lv_aload_n hx hb dX6_lay_107 rfl (lv_at hl 0 rfl) ?_
          refine va_get (D := D) (ci := 6) (v := .ref (w 1)) (C := RX6) (T := TX6) (N := 12) hx hb hts hI_X6 hown hK hP 0 rfl rfl 0 (by decide) gf7 (fun _ h9 => h9) rfl dX6_lay_108 ?_
          refine lv_bipush (v := 84) hx hb dX6_lay_111 (by decide) ?_
          refine lv_iload_n hx hb dX6_lay_113 rfl (lv_at hl 1 rfl) ?_
          refine lv_iload hx hb dX6_lay_114 (lv_at hl 4 rfl) ?_
          obtain ⟨z19, hz19, hf⟩ := obd hf
          refine kI (runS (As := [.int v1, .int v5]) (rest := [.int 84, .ref (w 1)]) C0 hE hAb hP ((hD.weaken (fun _ _ _ h9 => hAb _ h9)).addr rfl) hS [] (wc := []) (by decide) rfl (c_X6_at l D cI cJ cZ cQ bs H.size v1 v5 z19 hz19) (va_cwS 2 hts gX6_lay_X6_at rfl rfl rfl (by decide +kernel) ⟨Nat.le_of_ble_eq_true rfl, Nat.le_of_ble_eq_true rfl⟩) rfl hl.1 rfl (Nat.le_of_ble_eq_true rfl) dX6_lay_116 ⟨Nat.le_of_ble_eq_true rfl, Nat.le_of_ble_eq_true rfl⟩) hS hP (fun H locs hP hS => ?_)
          refine lv_iadd hx hb dX6_lay_119 ?_
          refine lv_lconst (v := 0) hx hb dX6_lay_120 (by decide) ?_
          obtain ⟨h20, hf⟩ := ogd hf
          refine va_last hx hb hK hP (hD.addr rfl) hS 1 1 rfl rfl (ib_in h20) dX6_lay_121 (fun H locs hP _ hS => ?_)
          obtain ⟨h20a, eh20a⟩ : ∃ y : Nat → Int64, y = vp_updL h18a ((84 : Int32) + z19).toNatClampNeg 0 := ⟨_, rfl⟩
          replace hf := onm eh20a hf
          have hP : va_P D vwCl [oX6 w w_undos w_seed w_entries, aJ cJ (w 1) 3420 h20a] H := by rw [eh20a]; exact hP
          obtain ⟨y21, ey21⟩ : ∃ y : Int32, y = v5 + 1 := ⟨_, rfl⟩
          replace hf := onm ey21 hf
          refine lv_iinc (v := y21) (lv' := [(5, .int y21), (0, .ref (w 0)), (1, .int v1), (2, .int v2), (4, .int v4)]) hx hb dX6_lay_122 hl (k := 4) rfl (by rw [ey21]; rfl) (by decide) rfl (fun ls hl => ?_)
          refine lv_goto (tgt := 72) hx hb dX6_lay_125 (by decide) ?_
          exact ih v1 v2 v4 y21 h20a w_undos H locs ls z hP hS (lv_sub hl [1, 2, 3, 4, 0] rfl) hf K
  unfold f_X6_lay at hf
  have go : ∀ (H : Heap) (locs : List Loc), va_P D vwCl [oX6 w w_undos w_seed w_entries, aJ cJ (w 1) 3420 w_w] H → va_S A s.heap H locs → W p l e { frames := 2, cells := 0, slots := 0, locals := 45 } s m args below meth c H locs 0 0 (MQ below (QwI D zr (fun u => [oX6 w u.2 w_seed w_entries, aJ cJ (w 1) 3420 u.1]) A) args s 0 0 A) (F0 m 0 ls []) := by
    intro H locs hP hS
    refine lv_iload_n hx hb dX6_lay_0 rfl (lv_at hl 1 rfl) ?_
    obtain ⟨z1, hz1, hf⟩ := obd hf
    refine kZ (runS (As := [.int x1]) (rest := []) C0 hE hAb hP ((hD.weaken (fun _ _ _ h9 => hAb _ h9)).addr rfl) hS [] (wc := []) (by decide) rfl (c_X6_isSlot l D cI cJ cZ cQ bs H.size x1 z1 hz1) (va_cwS 1 hts gX6_lay_X6_isSlot rfl rfl rfl (by decide +kernel) ⟨Nat.le_of_ble_eq_true rfl, Nat.le_of_ble_eq_true rfl⟩) rfl hl.1 rfl (Nat.le_of_ble_eq_true rfl) dX6_lay_1 ⟨Nat.le_of_ble_eq_true rfl, Nat.le_of_ble_eq_true rfl⟩) hS hP (fun bz1 H locs hP hS => ?_)
    refine lv_if_ne (tgt := 10) hx hb dX6_lay_4 (by decide) (fun c2 => ?_) (fun c2 => ?_)
    · replace hf := oel c2 hf
      refine lv_iload_n hx hb dX6_lay_10 rfl (lv_at hl 2 rfl) ?_
      refine lv_i2l (v := (Int32.toInt64 x2)) hx hb dX6_lay_11 rfl ?_
      refine lv_lconst (v := 0) hx hb dX6_lay_12 (by decide) ?_
      refine lv_ldc2 hx hb hown gk39 dX6_lay_13 ?_
      obtain ⟨z3, hz3, hf⟩ := obd hf
      refine kZ (runS (As := [.long (Int32.toInt64 x2), .long 0, .long 14]) (rest := []) C0 hE hAb hP ((hD.weaken (fun _ _ _ h9 => hAb _ h9)).addr rfl) hS [] (wc := []) (by decide) rfl (c_X6_in l D cI cJ cZ cQ bs H.size (Int32.toInt64 x2) 0 14 z3 hz3) (va_cwS 3 hts gX6_lay_X6_in rfl rfl rfl (by decide +kernel) ⟨Nat.le_of_ble_eq_true rfl, Nat.le_of_ble_eq_true rfl⟩) rfl hl.1 rfl (Nat.le_of_ble_eq_true rfl) dX6_lay_16 ⟨Nat.le_of_ble_eq_true rfl, Nat.le_of_ble_eq_true rfl⟩) hS hP (fun bz3 H locs hP hS => ?_)
      refine lv_if_eq (tgt := 34) hx hb dX6_lay_19 (by decide) (fun c4 => ?_) (fun c4 => ?_)
      · replace hf := oif c4 hf
        refine lv_ldc hx hb hown gk192 dX6_lay_34 ?_
        have er := Option.some.inj hf
        exact rwI (wm := (fun u => [oX6 w u.2 w_seed w_entries, aJ cJ (w 1) 3420 u.1])) hx hb hr hS dX6_lay_36 hP er hlocks
      · replace hf := oel c4 hf
        refine lv_iload_n hx hb dX6_lay_22 rfl (lv_at hl 3 rfl) ?_
        refine lv_i2l (v := (Int32.toInt64 x3)) hx hb dX6_lay_23 rfl ?_
        refine lv_lconst (v := 0) hx hb dX6_lay_24 (by decide) ?_
        refine lv_ldc2 hx hb hown gk237 dX6_lay_25 ?_
        obtain ⟨z5, hz5, hf⟩ := obd hf
        refine kZ (runS (As := [.long (Int32.toInt64 x3), .long 0, .long 12]) (rest := []) C0 hE hAb hP ((hD.weaken (fun _ _ _ h9 => hAb _ h9)).addr rfl) hS [] (wc := []) (by decide) rfl (c_X6_in l D cI cJ cZ cQ bs H.size (Int32.toInt64 x3) 0 12 z5 hz5) (va_cwS 3 hts gX6_lay_X6_in rfl rfl rfl (by decide +kernel) ⟨Nat.le_of_ble_eq_true rfl, Nat.le_of_ble_eq_true rfl⟩) rfl hl.1 rfl (Nat.le_of_ble_eq_true rfl) dX6_lay_28 ⟨Nat.le_of_ble_eq_true rfl, Nat.le_of_ble_eq_true rfl⟩) hS hP (fun bz5 H locs hP hS => ?_)
        refine lv_if_ne (tgt := 37) hx hb dX6_lay_31 (by decide) (fun c6 => ?_) (fun c6 => ?_)
        · replace hf := oel c6 hf
          refine lv_aload_n hx hb dX6_lay_37 rfl (lv_at hl 0 rfl) ?_
          obtain ⟨z7, hz7, hf⟩ := obd hf
          refine kwV (runV (As := []) (rest := []) C0 hE hAb hP ((hD.weaken (fun _ _ _ h9 => hAb _ h9)).addr rfl) hS [0, 1] (wc := [oX6 w w_undos w_seed w_entries, aJ cJ (w 1) 3420 w_w]) (by decide) rfl 0 rfl rfl (c_X6_minds l D cI cJ cZ cQ bs H.size w w_undos w_seed w_entries w_w z7 hz7) (cwV 0 hts gX6_lay_X6_minds rfl rfl rfl (by decide +kernel) ⟨Nat.le_of_ble_eq_true rfl, Nat.le_of_ble_eq_true rfl⟩) rfl hl.1 rfl (Nat.le_of_ble_eq_true rfl) dX6_lay_38 ⟨Nat.le_of_ble_eq_true rfl, Nat.le_of_ble_eq_true rfl⟩) hS hP (hD.addr rfl) hA [0, 1] rfl rfl (ws' := [oX6 w z7.2 w_seed w_entries, aJ cJ (w 1) 3420 z7.1]) rfl rfl (fun H locs hP hS => ?_)
          refine lv_aload_n hx hb dX6_lay_41 rfl (lv_at hl 0 rfl) ?_
          refine lv_iload_n hx hb dX6_lay_42 rfl (lv_at hl 1 rfl) ?_
          obtain ⟨z8, hz8, hf⟩ := obd hf
          refine kI (runV (As := [.int x1]) (rest := []) C0 hE hAb hP ((hD.weaken (fun _ _ _ h9 => hAb _ h9)).addr rfl) hS [0, 1] (wc := [oX6 w z7.2 w_seed w_entries, aJ cJ (w 1) 3420 z7.1]) (by decide) rfl 0 rfl rfl (c_X6_kind l D cI cJ cZ cQ bs H.size w z7.2 w_seed w_entries z7.1 x1 z8 hz8) (cwV 1 hts gX6_lay_X6_kind rfl rfl rfl (by decide +kernel) ⟨Nat.le_of_ble_eq_true rfl, Nat.le_of_ble_eq_true rfl⟩) rfl hl.1 rfl (Nat.le_of_ble_eq_true rfl) dX6_lay_43 ⟨Nat.le_of_ble_eq_true rfl, Nat.le_of_ble_eq_true rfl⟩) hS hP (fun H locs hP hS => ?_)
          refine lv_istore (lv' := [(4, .int z8), (0, .ref (w 0)), (1, .int x1), (2, .int x2), (3, .int x3)]) hx hb dX6_lay_46 hl (by decide) rfl (fun ls hl => ?_)
          refine lv_aload_n hx hb dX6_lay_48 rfl (lv_at hl 1 rfl) ?_
          refine va_get (D := D) (ci := 6) (v := .ref (w 1)) (C := RX6) (T := TX6) (N := 12) hx hb hts hI_X6 hown hK hP 0 rfl rfl 0 (by decide) gf7 (fun _ h9 => h9) rfl dX6_lay_49 ?_
          refine lv_iconst (v := 0) hx hb dX6_lay_52 (by decide) ?_
          refine lv_iload_n hx hb dX6_lay_53 rfl (lv_at hl 2 rfl) ?_
          refine lv_iadd hx hb dX6_lay_54 ?_
          refine lv_iload_n hx hb dX6_lay_55 rfl (lv_at hl 3 rfl) ?_
          refine lv_i2l (v := (Int32.toInt64 x2)) hx hb dX6_lay_56 rfl ?_
          obtain ⟨h9, hf⟩ := ogd hf
          refine va_last hx hb hK hP (hD.addr rfl) hS 1 1 rfl rfl (ib_in h9) dX6_lay_57 (fun H locs hP _ hS => ?_)
          obtain ⟨h9a, eh9a⟩ : ∃ y : Nat → Int64, y = vp_updL z7.1 ((0 : Int32) + x1).toNatClampNeg (Int32.toInt64 x2) := ⟨_, rfl⟩
          replace hf := onm eh9a hf
          have hP : va_P D vwCl [oX6 w z7.2 w_seed w_entries, aJ cJ (w 1) 3420 h9a] H := by rw [eh9a]; exact hP
          refine lv_aload_n hx hb dX6_lay_58 rfl (lv_at hl 1 rfl) ?_
          refine va_get (D := D) (ci := 6) (v := .ref (w 1)) (C := RX6) (T := TX6) (N := 12) hx hb hts hI_X6 hown hK hP 0 rfl rfl 0 (by decide) gf7 (fun _ h9 => h9) rfl dX6_lay_59 ?_
          refine lv_bipush (v := 6) hx hb dX6_lay_62 (by decide) ?_
          refine lv_iload_n hx hb dX6_lay_64 rfl (lv_at hl 2 rfl) ?_
          refine lv_iadd hx hb dX6_lay_65 ?_
          refine lv_iload_n hx hb dX6_lay_66 rfl (lv_at hl 4 rfl) ?_
          refine lv_i2l (v := (Int32.toInt64 x3)) hx hb dX6_lay_67 rfl ?_
          obtain ⟨h10, hf⟩ := ogd hf
          refine va_last hx hb hK hP (hD.addr rfl) hS 1 1 rfl rfl (ib_in h10) dX6_lay_68 (fun H locs hP _ hS => ?_)
          obtain ⟨h10a, eh10a⟩ : ∃ y : Nat → Int64, y = vp_updL h9a ((6 : Int32) + x1).toNatClampNeg (Int32.toInt64 x3) := ⟨_, rfl⟩
          replace hf := onm eh10a hf
          have hP : va_P D vwCl [oX6 w z7.2 w_seed w_entries, aJ cJ (w 1) 3420 h10a] H := by rw [eh10a]; exact hP
          refine lv_iconst (v := 0) hx hb dX6_lay_69 (by decide) ?_
          refine lv_istore (lv' := [(5, .int 0), (4, .int z8), (0, .ref (w 0)), (1, .int x1), (2, .int x2), (3, .int x3)]) hx hb dX6_lay_70 hl (by decide) rfl (fun ls hl => ?_)
          obtain ⟨z22, hz22, hf⟩ := obd hf
          refine W72 4000 x1 x2 z8 0 h10a z7.2 H locs ls z22 hP hS (lv_sub hl [2, 3, 4, 1, 0] rfl) hz22 (fun H locs ls hP hS hl => ?_)
          refine lv_iload hx hb dX6_lay_128 (lv_at hl 0 rfl) ?_
          have er := Option.some.inj hf
          exact rwI (wm := (fun u => [oX6 w u.2 w_seed w_entries, aJ cJ (w 1) 3420 u.1])) hx hb hr hS dX6_lay_130 hP er hlocks
        · replace hf := oif c6 hf
          refine lv_ldc hx hb hown gk192 dX6_lay_34 ?_
          have er := Option.some.inj hf
          exact rwI (wm := (fun u => [oX6 w u.2 w_seed w_entries, aJ cJ (w 1) 3420 u.1])) hx hb hr hS dX6_lay_36 hP er hlocks
    · replace hf := oif c2 hf
      refine lv_ldc hx hb hown gk198 dX6_lay_7 ?_
      have er := Option.some.inj hf
      exact rwI (wm := (fun u => [oX6 w u.2 w_seed w_entries, aJ cJ (w 1) 3420 u.1])) hx hb hr hS dX6_lay_9 hP er hlocks
  exact go s.heap [] hP hS
noncomputable def f_X6_take (w_w : Nat → Int64) (w_undos : Int32) (x1 : Int32) (x2 : Int64) : Option (Int32 × (Nat → Int64) × Int32) := (f_X6_in (Int32.toInt64 x1) 0 9).bind (fun z1 => if z1 = 0 then (some (((-1000000002), w_w, w_undos))) else (if x1 = 8 then ((f_X6_in x2 0 7).bind (fun z12 => if z12 = 0 then (some (((-1000000001), w_w, w_undos))) else ((f_X6_minds w_w w_undos).bind (fun z14 => (some ((Int64.toInt32 (z14.1 (Int32.toNatClampNeg 170))) : Int32)).bind (fun y16 => (some (vp_updL z14.1 (Int32.toNatClampNeg 170) (Int32.toInt64 x1) : Nat → Int64)).bind (fun h17a => if x1 = 9 then ((some (vp_updL h17a (Int32.toNatClampNeg 171) 0 : Nat → Int64)).bind (fun h21a => some ((y16, h21a, z14.2)))) else ((f_X6_madeOf x1 x2).bind (fun z19 => (some (vp_updL h17a (Int32.toNatClampNeg 171) z19 : Nat → Int64)).bind (fun h20a => some ((y16, h20a, z14.2))))))))))) else ((f_X6_minds w_w w_undos).bind (fun z4 => (some ((Int64.toInt32 (z4.1 (Int32.toNatClampNeg 170))) : Int32)).bind (fun y6 => (some (vp_updL z4.1 (Int32.toNatClampNeg 170) (Int32.toInt64 x1) : Nat → Int64)).bind (fun h7a => if x1 = 9 then ((some (vp_updL h7a (Int32.toNatClampNeg 171) 0 : Nat → Int64)).bind (fun h11a => some ((y6, h11a, z4.2)))) else ((f_X6_madeOf x1 x2).bind (fun z9 => (some (vp_updL h7a (Int32.toNatClampNeg 171) z9 : Nat → Int64)).bind (fun h10a => some ((y6, h10a, z4.2)))))))))))
set_option maxHeartbeats 4000000 in
set_option maxRecDepth 100000 in
theorem c_X6_take (l : Launch) (D : va_G) (cI cJ cZ cQ : ClassId) (bs sz : Nat) (w : Nat → Nat) (w_undos : Int32) (w_seed : Int32) (w_entries : Int32) (w_w : Nat → Int64) (x1 : Int32) (x2 : Int64) (zr : Int32 × (Nat → Int64) × Int32) (hf : f_X6_take w_w w_undos x1 x2 = some zr) : Met l yX6_take wsX6_take { frames := 2, cells := 0, slots := 0, locals := 56 } (va_Pc [.ref (w 0), .int x1, .long x2] (Pr D cI cJ cZ cQ bs sz [oX6 w w_undos w_seed w_entries, aJ cJ (w 1) 3420 w_w])) (QwI D zr (fun u => [oX6 w u.2 w_seed w_entries, aJ cJ (w 1) 3420 u.1]) (va_A [oX6 w w_undos w_seed w_entries, aJ cJ (w 1) 3420 w_w] sz)) 0 0 (va_A [oX6 w w_undos w_seed w_entries, aJ cJ (w 1) 3420 w_w] sz) := by
  refine stW (cc := cX6_take) (maxL := 5) (ret := (some .int)) (Qf := fun A => (QwI D zr (fun u => [oX6 w u.2 w_seed w_entries, aJ cJ (w 1) 3420 u.1]) A)) (by decide +kernel) rfl (Nat.le_of_ble_eq_true rfl) ?_
  intro p e s m args below meth c A C0 hr hlocks hname hsz hP hD hA hAb hE ls hl
  obtain ⟨hx, hb, hml, hown, hts⟩ := id C0
  have hown : s.vm.findClass RX6 = some m.cls := hown
  obtain ⟨hK, hNW, -, tw, hZ, hT⟩ := id hE
  have hl : lv_has ls 5 [(0, .ref (w 0)), (1, .int x1), (2, .long x2)] := hl
  have hS : va_S A s.heap s.heap [] := va_S.rf
  have gk41 := hts (.constantLong RX6 41 (9)) (by decide +kernel)
  have hI_X6 := (show ∀ w ∈ wsX60, w ∈ wsX6_take by decide +kernel)
  have gf7 := hts (.fieldLink RX6 7 "RowRanksModel" "w" "[J") (by decide +kernel)
  have gk207 := hts (.constantLong RX6 207 (7)) (by decide +kernel)
  have gk198 := hts (.constant RX6 198 (-1000000001)) (by decide +kernel)
  have gk192 := hts (.constant RX6 192 (-1000000002)) (by decide +kernel)
  unfold f_X6_take at hf
  have go : ∀ (H : Heap) (locs : List Loc), va_P D vwCl [oX6 w w_undos w_seed w_entries, aJ cJ (w 1) 3420 w_w] H → va_S A s.heap H locs → W p l e { frames := 2, cells := 0, slots := 0, locals := 56 } s m args below meth c H locs 0 0 (MQ below (QwI D zr (fun u => [oX6 w u.2 w_seed w_entries, aJ cJ (w 1) 3420 u.1]) A) args s 0 0 A) (F0 m 0 ls []) := by
    intro H locs hP hS
    refine lv_iload_n hx hb dX6_take_0 rfl (lv_at hl 1 rfl) ?_
    refine lv_i2l (v := (Int32.toInt64 x1)) hx hb dX6_take_1 rfl ?_
    refine lv_lconst (v := 0) hx hb dX6_take_2 (by decide) ?_
    refine lv_ldc2 hx hb hown gk41 dX6_take_3 ?_
    obtain ⟨z1, hz1, hf⟩ := obd hf
    refine kZ (runS (As := [.long (Int32.toInt64 x1), .long 0, .long 9]) (rest := []) C0 hE hAb hP ((hD.weaken (fun _ _ _ h9 => hAb _ h9)).addr rfl) hS [] (wc := []) (by decide) rfl (c_X6_in l D cI cJ cZ cQ bs H.size (Int32.toInt64 x1) 0 9 z1 hz1) (va_cwS 3 hts gX6_take_X6_in rfl rfl rfl (by decide +kernel) ⟨Nat.le_of_ble_eq_true rfl, Nat.le_of_ble_eq_true rfl⟩) rfl hl.1 rfl (Nat.le_of_ble_eq_true rfl) dX6_take_6 ⟨Nat.le_of_ble_eq_true rfl, Nat.le_of_ble_eq_true rfl⟩) hS hP (fun bz1 H locs hP hS => ?_)
    refine lv_if_ne (tgt := 15) hx hb dX6_take_9 (by decide) (fun c2 => ?_) (fun c2 => ?_)
    · replace hf := oel c2 hf
      refine lv_iload_n hx hb dX6_take_15 rfl (lv_at hl 1 rfl) ?_
      refine lv_bipush (v := 8) hx hb dX6_take_16 (by decide) ?_
      refine lv_icmp_ne (tgt := 35) hx hb dX6_take_18 (by decide) (fun c3 => ?_) (fun c3 => ?_)
      · replace hf := oel c3 hf
        refine lv_aload_n hx hb dX6_take_35 rfl (lv_at hl 0 rfl) ?_
        obtain ⟨z4, hz4, hf⟩ := obd hf
        refine kwV (runV (As := []) (rest := []) C0 hE hAb hP ((hD.weaken (fun _ _ _ h9 => hAb _ h9)).addr rfl) hS [0, 1] (wc := [oX6 w w_undos w_seed w_entries, aJ cJ (w 1) 3420 w_w]) (by decide) rfl 0 rfl rfl (c_X6_minds l D cI cJ cZ cQ bs H.size w w_undos w_seed w_entries w_w z4 hz4) (cwV 0 hts gX6_take_X6_minds rfl rfl rfl (by decide +kernel) ⟨Nat.le_of_ble_eq_true rfl, Nat.le_of_ble_eq_true rfl⟩) rfl hl.1 rfl (Nat.le_of_ble_eq_true rfl) dX6_take_36 ⟨Nat.le_of_ble_eq_true rfl, Nat.le_of_ble_eq_true rfl⟩) hS hP (hD.addr rfl) hA [0, 1] rfl rfl (ws' := [oX6 w z4.2 w_seed w_entries, aJ cJ (w 1) 3420 z4.1]) rfl rfl (fun H locs hP hS => ?_)
        refine lv_aload_n hx hb dX6_take_39 rfl (lv_at hl 0 rfl) ?_
        refine va_get (D := D) (ci := 6) (v := .ref (w 1)) (C := RX6) (T := TX6) (N := 12) hx hb hts hI_X6 hown hK hP 0 rfl rfl 0 (by decide) gf7 (fun _ h9 => h9) rfl dX6_take_40 ?_
        refine lv_sipush (v := 170) hx hb dX6_take_43 (by decide) ?_
        refine va_lald hx hb hK hP 1 1 rfl rfl (ib_in (by decide)) dX6_take_46 ?_
        refine lv_l2i (v := (Int64.toInt32 (z4.1 (Int32.toNatClampNeg 170)))) hx hb dX6_take_47 rfl ?_
        refine lv_topi (fun y6 ey6 => ?_)
        replace hf := onm ey6 hf
        refine lv_istore (lv' := [(4, .int y6), (0, .ref (w 0)), (1, .int x1), (2, .long x2)]) hx hb dX6_take_48 hl (by decide) rfl (fun ls hl => ?_)
        refine lv_aload_n hx hb dX6_take_50 rfl (lv_at hl 1 rfl) ?_
        refine va_get (D := D) (ci := 6) (v := .ref (w 1)) (C := RX6) (T := TX6) (N := 12) hx hb hts hI_X6 hown hK hP 0 rfl rfl 0 (by decide) gf7 (fun _ h9 => h9) rfl dX6_take_51 ?_
        refine lv_sipush (v := 170) hx hb dX6_take_54 (by decide) ?_
        refine lv_iload_n hx hb dX6_take_57 rfl (lv_at hl 2 rfl) ?_
        refine lv_i2l (v := (Int32.toInt64 x1)) hx hb dX6_take_58 rfl ?_
        refine va_last hx hb hK hP (hD.addr rfl) hS 1 1 rfl rfl (ib_in (by decide)) dX6_take_59 (fun H locs hP _ hS => ?_)
        obtain ⟨h7a, eh7a⟩ : ∃ y : Nat → Int64, y = vp_updL z4.1 (Int32.toNatClampNeg 170) (Int32.toInt64 x1) := ⟨_, rfl⟩
        replace hf := onm eh7a hf
        have hP : va_P D vwCl [oX6 w z4.2 w_seed w_entries, aJ cJ (w 1) 3420 h7a] H := by rw [eh7a]; exact hP
        refine lv_aload_n hx hb dX6_take_60 rfl (lv_at hl 1 rfl) ?_
        refine va_get (D := D) (ci := 6) (v := .ref (w 1)) (C := RX6) (T := TX6) (N := 12) hx hb hts hI_X6 hown hK hP 0 rfl rfl 0 (by decide) gf7 (fun _ h9 => h9) rfl dX6_take_61 ?_
        refine lv_sipush (v := 171) hx hb dX6_take_64 (by decide) ?_
        refine lv_iload_n hx hb dX6_take_67 rfl (lv_at hl 2 rfl) ?_
        refine lv_bipush (v := 9) hx hb dX6_take_68 (by decide) ?_
        refine lv_icmp_ne (tgt := 77) hx hb dX6_take_70 (by decide) (fun c8 => ?_) (fun c8 => ?_)
        · replace hf := oel c8 hf
          refine lv_iload_n hx hb dX6_take_77 rfl (lv_at hl 2 rfl) ?_
          refine lv_lload_n hx hb dX6_take_78 rfl (lv_at hl 3 rfl) ?_
          obtain ⟨z9, hz9, hf⟩ := obd hf
          refine kJ (runS (As := [.int x1, .long x2]) (rest := [.int 171, .ref (w 1)]) C0 hE hAb hP ((hD.weaken (fun _ _ _ h9 => hAb _ h9)).addr rfl) hS [] (wc := []) (by decide) rfl (c_X6_madeOf l D cI cJ cZ cQ bs H.size x1 x2 z9 hz9) (va_cwS 2 hts gX6_take_X6_madeOf rfl rfl rfl (by decide +kernel) ⟨Nat.le_of_ble_eq_true rfl, Nat.le_of_ble_eq_true rfl⟩) rfl hl.1 rfl (Nat.le_of_ble_eq_true rfl) dX6_take_79 ⟨Nat.le_of_ble_eq_true rfl, Nat.le_of_ble_eq_true rfl⟩) hS hP (fun H locs hP hS => ?_)
          refine va_last hx hb hK hP (hD.addr rfl) hS 1 1 rfl rfl (ib_in (by decide)) dX6_take_82 (fun H locs hP _ hS => ?_)
          obtain ⟨h10a, eh10a⟩ : ∃ y : Nat → Int64, y = vp_updL h7a (Int32.toNatClampNeg 171) z9 := ⟨_, rfl⟩
          replace hf := onm eh10a hf
          have hP : va_P D vwCl [oX6 w z4.2 w_seed w_entries, aJ cJ (w 1) 3420 h10a] H := by rw [eh10a]; exact hP
          refine lv_iload hx hb dX6_take_83 (lv_at hl 0 rfl) ?_
          have er := Option.some.inj hf
          exact rwI (wm := (fun u => [oX6 w u.2 w_seed w_entries, aJ cJ (w 1) 3420 u.1])) hx hb hr hS dX6_take_85 hP er hlocks
        · replace hf := oif c8 hf
          refine lv_lconst (v := 0) hx hb dX6_take_73 (by decide) ?_
          refine lv_goto (tgt := 82) hx hb dX6_take_74 (by decide) ?_
          refine va_last hx hb hK hP (hD.addr rfl) hS 1 1 rfl rfl (ib_in (by decide)) dX6_take_82 (fun H locs hP _ hS => ?_)
          obtain ⟨h11a, eh11a⟩ : ∃ y : Nat → Int64, y = vp_updL h7a (Int32.toNatClampNeg 171) 0 := ⟨_, rfl⟩
          replace hf := onm eh11a hf
          have hP : va_P D vwCl [oX6 w z4.2 w_seed w_entries, aJ cJ (w 1) 3420 h11a] H := by rw [eh11a]; exact hP
          refine lv_iload hx hb dX6_take_83 (lv_at hl 0 rfl) ?_
          have er := Option.some.inj hf
          exact rwI (wm := (fun u => [oX6 w u.2 w_seed w_entries, aJ cJ (w 1) 3420 u.1])) hx hb hr hS dX6_take_85 hP er hlocks
      · replace hf := oif c3 hf
        refine lv_lload_n hx hb dX6_take_21 rfl (lv_at hl 2 rfl) ?_
        refine lv_lconst (v := 0) hx hb dX6_take_22 (by decide) ?_
        refine lv_ldc2 hx hb hown gk207 dX6_take_23 ?_
        obtain ⟨z12, hz12, hf⟩ := obd hf
        refine kZ (runS (As := [.long x2, .long 0, .long 7]) (rest := []) C0 hE hAb hP ((hD.weaken (fun _ _ _ h9 => hAb _ h9)).addr rfl) hS [] (wc := []) (by decide) rfl (c_X6_in l D cI cJ cZ cQ bs H.size x2 0 7 z12 hz12) (va_cwS 3 hts gX6_take_X6_in rfl rfl rfl (by decide +kernel) ⟨Nat.le_of_ble_eq_true rfl, Nat.le_of_ble_eq_true rfl⟩) rfl hl.1 rfl (Nat.le_of_ble_eq_true rfl) dX6_take_26 ⟨Nat.le_of_ble_eq_true rfl, Nat.le_of_ble_eq_true rfl⟩) hS hP (fun bz12 H locs hP hS => ?_)
        refine lv_if_ne (tgt := 35) hx hb dX6_take_29 (by decide) (fun c13 => ?_) (fun c13 => ?_)
        · replace hf := oel c13 hf
          refine lv_aload_n hx hb dX6_take_35 rfl (lv_at hl 0 rfl) ?_
          obtain ⟨z14, hz14, hf⟩ := obd hf
          refine kwV (runV (As := []) (rest := []) C0 hE hAb hP ((hD.weaken (fun _ _ _ h9 => hAb _ h9)).addr rfl) hS [0, 1] (wc := [oX6 w w_undos w_seed w_entries, aJ cJ (w 1) 3420 w_w]) (by decide) rfl 0 rfl rfl (c_X6_minds l D cI cJ cZ cQ bs H.size w w_undos w_seed w_entries w_w z14 hz14) (cwV 0 hts gX6_take_X6_minds rfl rfl rfl (by decide +kernel) ⟨Nat.le_of_ble_eq_true rfl, Nat.le_of_ble_eq_true rfl⟩) rfl hl.1 rfl (Nat.le_of_ble_eq_true rfl) dX6_take_36 ⟨Nat.le_of_ble_eq_true rfl, Nat.le_of_ble_eq_true rfl⟩) hS hP (hD.addr rfl) hA [0, 1] rfl rfl (ws' := [oX6 w z14.2 w_seed w_entries, aJ cJ (w 1) 3420 z14.1]) rfl rfl (fun H locs hP hS => ?_)
          refine lv_aload_n hx hb dX6_take_39 rfl (lv_at hl 0 rfl) ?_
          refine va_get (D := D) (ci := 6) (v := .ref (w 1)) (C := RX6) (T := TX6) (N := 12) hx hb hts hI_X6 hown hK hP 0 rfl rfl 0 (by decide) gf7 (fun _ h9 => h9) rfl dX6_take_40 ?_
          refine lv_sipush (v := 170) hx hb dX6_take_43 (by decide) ?_
          refine va_lald hx hb hK hP 1 1 rfl rfl (ib_in (by decide)) dX6_take_46 ?_
          refine lv_l2i (v := (Int64.toInt32 (z14.1 (Int32.toNatClampNeg 170)))) hx hb dX6_take_47 rfl ?_
          refine lv_topi (fun y16 ey16 => ?_)
          replace hf := onm ey16 hf
          refine lv_istore (lv' := [(4, .int y16), (0, .ref (w 0)), (1, .int x1), (2, .long x2)]) hx hb dX6_take_48 hl (by decide) rfl (fun ls hl => ?_)
          refine lv_aload_n hx hb dX6_take_50 rfl (lv_at hl 1 rfl) ?_
          refine va_get (D := D) (ci := 6) (v := .ref (w 1)) (C := RX6) (T := TX6) (N := 12) hx hb hts hI_X6 hown hK hP 0 rfl rfl 0 (by decide) gf7 (fun _ h9 => h9) rfl dX6_take_51 ?_
          refine lv_sipush (v := 170) hx hb dX6_take_54 (by decide) ?_
          refine lv_iload_n hx hb dX6_take_57 rfl (lv_at hl 2 rfl) ?_
          refine lv_i2l (v := (Int32.toInt64 x1)) hx hb dX6_take_58 rfl ?_
          refine va_last hx hb hK hP (hD.addr rfl) hS 1 1 rfl rfl (ib_in (by decide)) dX6_take_59 (fun H locs hP _ hS => ?_)
          obtain ⟨h17a, eh17a⟩ : ∃ y : Nat → Int64, y = vp_updL z14.1 (Int32.toNatClampNeg 170) (Int32.toInt64 x1) := ⟨_, rfl⟩
          replace hf := onm eh17a hf
          have hP : va_P D vwCl [oX6 w z14.2 w_seed w_entries, aJ cJ (w 1) 3420 h17a] H := by rw [eh17a]; exact hP
          refine lv_aload_n hx hb dX6_take_60 rfl (lv_at hl 1 rfl) ?_
          refine va_get (D := D) (ci := 6) (v := .ref (w 1)) (C := RX6) (T := TX6) (N := 12) hx hb hts hI_X6 hown hK hP 0 rfl rfl 0 (by decide) gf7 (fun _ h9 => h9) rfl dX6_take_61 ?_
          refine lv_sipush (v := 171) hx hb dX6_take_64 (by decide) ?_
          refine lv_iload_n hx hb dX6_take_67 rfl (lv_at hl 2 rfl) ?_
          refine lv_bipush (v := 9) hx hb dX6_take_68 (by decide) ?_
          refine lv_icmp_ne (tgt := 77) hx hb dX6_take_70 (by decide) (fun c18 => ?_) (fun c18 => ?_)
          · replace hf := oel c18 hf
            refine lv_iload_n hx hb dX6_take_77 rfl (lv_at hl 2 rfl) ?_
            refine lv_lload_n hx hb dX6_take_78 rfl (lv_at hl 3 rfl) ?_
            obtain ⟨z19, hz19, hf⟩ := obd hf
            refine kJ (runS (As := [.int x1, .long x2]) (rest := [.int 171, .ref (w 1)]) C0 hE hAb hP ((hD.weaken (fun _ _ _ h9 => hAb _ h9)).addr rfl) hS [] (wc := []) (by decide) rfl (c_X6_madeOf l D cI cJ cZ cQ bs H.size x1 x2 z19 hz19) (va_cwS 2 hts gX6_take_X6_madeOf rfl rfl rfl (by decide +kernel) ⟨Nat.le_of_ble_eq_true rfl, Nat.le_of_ble_eq_true rfl⟩) rfl hl.1 rfl (Nat.le_of_ble_eq_true rfl) dX6_take_79 ⟨Nat.le_of_ble_eq_true rfl, Nat.le_of_ble_eq_true rfl⟩) hS hP (fun H locs hP hS => ?_)
            refine va_last hx hb hK hP (hD.addr rfl) hS 1 1 rfl rfl (ib_in (by decide)) dX6_take_82 (fun H locs hP _ hS => ?_)
            obtain ⟨h20a, eh20a⟩ : ∃ y : Nat → Int64, y = vp_updL h17a (Int32.toNatClampNeg 171) z19 := ⟨_, rfl⟩
            replace hf := onm eh20a hf
            have hP : va_P D vwCl [oX6 w z14.2 w_seed w_entries, aJ cJ (w 1) 3420 h20a] H := by rw [eh20a]; exact hP
            refine lv_iload hx hb dX6_take_83 (lv_at hl 0 rfl) ?_
            have er := Option.some.inj hf
            exact rwI (wm := (fun u => [oX6 w u.2 w_seed w_entries, aJ cJ (w 1) 3420 u.1])) hx hb hr hS dX6_take_85 hP er hlocks
          · replace hf := oif c18 hf
            refine lv_lconst (v := 0) hx hb dX6_take_73 (by decide) ?_
            refine lv_goto (tgt := 82) hx hb dX6_take_74 (by decide) ?_
            refine va_last hx hb hK hP (hD.addr rfl) hS 1 1 rfl rfl (ib_in (by decide)) dX6_take_82 (fun H locs hP _ hS => ?_)
            obtain ⟨h21a, eh21a⟩ : ∃ y : Nat → Int64, y = vp_updL h17a (Int32.toNatClampNeg 171) 0 := ⟨_, rfl⟩
            replace hf := onm eh21a hf
            have hP : va_P D vwCl [oX6 w z14.2 w_seed w_entries, aJ cJ (w 1) 3420 h21a] H := by rw [eh21a]; exact hP
            refine lv_iload hx hb dX6_take_83 (lv_at hl 0 rfl) ?_
            have er := Option.some.inj hf
            exact rwI (wm := (fun u => [oX6 w u.2 w_seed w_entries, aJ cJ (w 1) 3420 u.1])) hx hb hr hS dX6_take_85 hP er hlocks
        · replace hf := oif c13 hf
          refine lv_ldc hx hb hown gk198 dX6_take_32 ?_
          have er := Option.some.inj hf
          exact rwI (wm := (fun u => [oX6 w u.2 w_seed w_entries, aJ cJ (w 1) 3420 u.1])) hx hb hr hS dX6_take_34 hP er hlocks
    · replace hf := oif c2 hf
      refine lv_ldc hx hb hown gk192 dX6_take_12 ?_
      have er := Option.some.inj hf
      exact rwI (wm := (fun u => [oX6 w u.2 w_seed w_entries, aJ cJ (w 1) 3420 u.1])) hx hb hr hS dX6_take_14 hP er hlocks
  exact go s.heap [] hP hS
noncomputable def f_X6_pick (w_w : Nat → Int64) (w_undos : Int32) (x1 : Int32) (x2 : Int32) (x3 : Int32) : Option (Int32 × (Nat → Int64) × Int32) := (f_X6_isSlot x1).bind (fun z1 => if z1 = 0 then (some (((-1000000001), w_w, w_undos))) else ((f_X6_in (Int32.toInt64 x3) 0 8).bind (fun z3 => if z3 = 0 then (some (((-1000000002), w_w, w_undos))) else ((f_X6_lacks w_w x1 (Int32.toInt64 x2)).bind (fun z5 => if z5 = 0 then ((f_X6_reads w_w x1 x3).bind (fun z13 => if z13 = 0 then (some ((4, w_w, w_undos))) else (if z5 = 0 then ((f_X6_minds w_w w_undos).bind (fun z16 => (f_X6_sortRead z16.1 x1 x2 x3).bind (fun z17 => (some (vp_updL z16.1 (Int32.toNatClampNeg 170) (Int32.toInt64 z17) : Nat → Int64)).bind (fun h18a => (f_X6_numberRead h18a x1 x2 x3).bind (fun z19 => (some (vp_updL h18a (Int32.toNatClampNeg 171) z19 : Nat → Int64)).bind (fun h20a => some ((z5, h20a, z16.2)))))))) else (some ((z5, w_w, w_undos)))))) else (if z5 = 0 then ((f_X6_minds w_w w_undos).bind (fun z8 => (f_X6_sortRead z8.1 x1 x2 x3).bind (fun z9 => (some (vp_updL z8.1 (Int32.toNatClampNeg 170) (Int32.toInt64 z9) : Nat → Int64)).bind (fun h10a => (f_X6_numberRead h10a x1 x2 x3).bind (fun z11 => (some (vp_updL h10a (Int32.toNatClampNeg 171) z11 : Nat → Int64)).bind (fun h12a => some ((z5, h12a, z8.2)))))))) else (some ((z5, w_w, w_undos)))))))))
set_option maxHeartbeats 4000000 in
set_option maxRecDepth 100000 in
theorem c_X6_pick (l : Launch) (D : va_G) (cI cJ cZ cQ : ClassId) (bs sz : Nat) (w : Nat → Nat) (w_undos : Int32) (w_seed : Int32) (w_entries : Int32) (w_w : Nat → Int64) (x1 : Int32) (x2 : Int32) (x3 : Int32) (zr : Int32 × (Nat → Int64) × Int32) (hf : f_X6_pick w_w w_undos x1 x2 x3 = some zr) : Met l yX6_pick wsX6_pick { frames := 3, cells := 0, slots := 0, locals := 81 } (va_Pc [.ref (w 0), .int x1, .int x2, .int x3] (Pr D cI cJ cZ cQ bs sz [oX6 w w_undos w_seed w_entries, aJ cJ (w 1) 3420 w_w])) (QwI D zr (fun u => [oX6 w u.2 w_seed w_entries, aJ cJ (w 1) 3420 u.1]) (va_A [oX6 w w_undos w_seed w_entries, aJ cJ (w 1) 3420 w_w] sz)) 0 0 (va_A [oX6 w w_undos w_seed w_entries, aJ cJ (w 1) 3420 w_w] sz) := by
  refine stW (cc := cX6_pick) (maxL := 5) (ret := (some .int)) (Qf := fun A => (QwI D zr (fun u => [oX6 w u.2 w_seed w_entries, aJ cJ (w 1) 3420 u.1]) A)) (by decide +kernel) rfl (Nat.le_of_ble_eq_true rfl) ?_
  intro p e s m args below meth c A C0 hr hlocks hname hsz hP hD hA hAb hE ls hl
  obtain ⟨hx, hb, hml, hown, hts⟩ := id C0
  have hown : s.vm.findClass RX6 = some m.cls := hown
  obtain ⟨hK, hNW, -, tw, hZ, hT⟩ := id hE
  have hl : lv_has ls 5 [(0, .ref (w 0)), (1, .int x1), (2, .int x2), (3, .int x3)] := hl
  have hS : va_S A s.heap s.heap [] := va_S.rf
  have gk227 := hts (.constantLong RX6 227 (8)) (by decide +kernel)
  have hI_X6 := (show ∀ w ∈ wsX60, w ∈ wsX6_pick by decide +kernel)
  have gf7 := hts (.fieldLink RX6 7 "RowRanksModel" "w" "[J") (by decide +kernel)
  have gk192 := hts (.constant RX6 192 (-1000000002)) (by decide +kernel)
  have gk198 := hts (.constant RX6 198 (-1000000001)) (by decide +kernel)
  unfold f_X6_pick at hf
  have go : ∀ (H : Heap) (locs : List Loc), va_P D vwCl [oX6 w w_undos w_seed w_entries, aJ cJ (w 1) 3420 w_w] H → va_S A s.heap H locs → W p l e { frames := 3, cells := 0, slots := 0, locals := 81 } s m args below meth c H locs 0 0 (MQ below (QwI D zr (fun u => [oX6 w u.2 w_seed w_entries, aJ cJ (w 1) 3420 u.1]) A) args s 0 0 A) (F0 m 0 ls []) := by
    intro H locs hP hS
    refine lv_iload_n hx hb dX6_pick_0 rfl (lv_at hl 1 rfl) ?_
    obtain ⟨z1, hz1, hf⟩ := obd hf
    refine kZ (runS (As := [.int x1]) (rest := []) C0 hE hAb hP ((hD.weaken (fun _ _ _ h9 => hAb _ h9)).addr rfl) hS [] (wc := []) (by decide) rfl (c_X6_isSlot l D cI cJ cZ cQ bs H.size x1 z1 hz1) (va_cwS 1 hts gX6_pick_X6_isSlot rfl rfl rfl (by decide +kernel) ⟨Nat.le_of_ble_eq_true rfl, Nat.le_of_ble_eq_true rfl⟩) rfl hl.1 rfl (Nat.le_of_ble_eq_true rfl) dX6_pick_1 ⟨Nat.le_of_ble_eq_true rfl, Nat.le_of_ble_eq_true rfl⟩) hS hP (fun bz1 H locs hP hS => ?_)
    refine lv_if_ne (tgt := 10) hx hb dX6_pick_4 (by decide) (fun c2 => ?_) (fun c2 => ?_)
    · replace hf := oel c2 hf
      refine lv_iload_n hx hb dX6_pick_10 rfl (lv_at hl 3 rfl) ?_
      refine lv_i2l (v := (Int32.toInt64 x3)) hx hb dX6_pick_11 rfl ?_
      refine lv_lconst (v := 0) hx hb dX6_pick_12 (by decide) ?_
      refine lv_ldc2 hx hb hown gk227 dX6_pick_13 ?_
      obtain ⟨z3, hz3, hf⟩ := obd hf
      refine kZ (runS (As := [.long (Int32.toInt64 x3), .long 0, .long 8]) (rest := []) C0 hE hAb hP ((hD.weaken (fun _ _ _ h9 => hAb _ h9)).addr rfl) hS [] (wc := []) (by decide) rfl (c_X6_in l D cI cJ cZ cQ bs H.size (Int32.toInt64 x3) 0 8 z3 hz3) (va_cwS 3 hts gX6_pick_X6_in rfl rfl rfl (by decide +kernel) ⟨Nat.le_of_ble_eq_true rfl, Nat.le_of_ble_eq_true rfl⟩) rfl hl.1 rfl (Nat.le_of_ble_eq_true rfl) dX6_pick_16 ⟨Nat.le_of_ble_eq_true rfl, Nat.le_of_ble_eq_true rfl⟩) hS hP (fun bz3 H locs hP hS => ?_)
      refine lv_if_ne (tgt := 25) hx hb dX6_pick_19 (by decide) (fun c4 => ?_) (fun c4 => ?_)
      · replace hf := oel c4 hf
        refine lv_aload_n hx hb dX6_pick_25 rfl (lv_at hl 0 rfl) ?_
        refine lv_iload_n hx hb dX6_pick_26 rfl (lv_at hl 1 rfl) ?_
        refine lv_iload_n hx hb dX6_pick_27 rfl (lv_at hl 2 rfl) ?_
        refine lv_i2l (v := (Int32.toInt64 x2)) hx hb dX6_pick_28 rfl ?_
        obtain ⟨z5, hz5, hf⟩ := obd hf
        refine kI (runV (As := [.int x1, .long (Int32.toInt64 x2)]) (rest := []) C0 hE hAb hP ((hD.weaken (fun _ _ _ h9 => hAb _ h9)).addr rfl) hS [0, 1] (wc := [oX6 w w_undos w_seed w_entries, aJ cJ (w 1) 3420 w_w]) (by decide) rfl 0 rfl rfl (c_X6_lacks l D cI cJ cZ cQ bs H.size w w_undos w_seed w_entries w_w x1 (Int32.toInt64 x2) z5 hz5) (cwV 2 hts gX6_pick_X6_lacks rfl rfl rfl (by decide +kernel) ⟨Nat.le_of_ble_eq_true rfl, Nat.le_of_ble_eq_true rfl⟩) rfl hl.1 rfl (Nat.le_of_ble_eq_true rfl) dX6_pick_29 ⟨Nat.le_of_ble_eq_true rfl, Nat.le_of_ble_eq_true rfl⟩) hS hP (fun H locs hP hS => ?_)
        refine lv_istore (lv' := [(4, .int z5), (0, .ref (w 0)), (1, .int x1), (2, .int x2), (3, .int x3)]) hx hb dX6_pick_32 hl (by decide) rfl (fun ls hl => ?_)
        refine lv_iload hx hb dX6_pick_34 (lv_at hl 0 rfl) ?_
        refine lv_if_ne (tgt := 52) hx hb dX6_pick_36 (by decide) (fun c6 => ?_) (fun c6 => ?_)
        · replace hf := oel c6 hf
          refine lv_iload hx hb dX6_pick_52 (lv_at hl 0 rfl) ?_
          refine lv_istore (lv' := [(4, .int z5), (0, .ref (w 0)), (1, .int x1), (2, .int x2), (3, .int x3)]) hx hb dX6_pick_54 hl (by decide) rfl (fun ls hl => ?_)
          refine lv_iload hx hb dX6_pick_56 (lv_at hl 0 rfl) ?_
          refine lv_if_ne (tgt := 96) hx hb dX6_pick_58 (by decide) (fun c7 => ?_) (fun c7 => ?_)
          · replace hf := oel c7 hf
            refine lv_iload hx hb dX6_pick_96 (lv_at hl 0 rfl) ?_
            have er := Option.some.inj hf
            exact rwI (wm := (fun u => [oX6 w u.2 w_seed w_entries, aJ cJ (w 1) 3420 u.1])) hx hb hr hS dX6_pick_98 hP er hlocks
          · replace hf := oif c7 hf
            refine lv_aload_n hx hb dX6_pick_61 rfl (lv_at hl 1 rfl) ?_
            obtain ⟨z8, hz8, hf⟩ := obd hf
            refine kwV (runV (As := []) (rest := []) C0 hE hAb hP ((hD.weaken (fun _ _ _ h9 => hAb _ h9)).addr rfl) hS [0, 1] (wc := [oX6 w w_undos w_seed w_entries, aJ cJ (w 1) 3420 w_w]) (by decide) rfl 0 rfl rfl (c_X6_minds l D cI cJ cZ cQ bs H.size w w_undos w_seed w_entries w_w z8 hz8) (cwV 0 hts gX6_pick_X6_minds rfl rfl rfl (by decide +kernel) ⟨Nat.le_of_ble_eq_true rfl, Nat.le_of_ble_eq_true rfl⟩) rfl hl.1 rfl (Nat.le_of_ble_eq_true rfl) dX6_pick_62 ⟨Nat.le_of_ble_eq_true rfl, Nat.le_of_ble_eq_true rfl⟩) hS hP (hD.addr rfl) hA [0, 1] rfl rfl (ws' := [oX6 w z8.2 w_seed w_entries, aJ cJ (w 1) 3420 z8.1]) rfl rfl (fun H locs hP hS => ?_)
            refine lv_aload_n hx hb dX6_pick_65 rfl (lv_at hl 1 rfl) ?_
            refine va_get (D := D) (ci := 6) (v := .ref (w 1)) (C := RX6) (T := TX6) (N := 12) hx hb hts hI_X6 hown hK hP 0 rfl rfl 0 (by decide) gf7 (fun _ h9 => h9) rfl dX6_pick_66 ?_
            refine lv_sipush (v := 170) hx hb dX6_pick_69 (by decide) ?_
            refine lv_aload_n hx hb dX6_pick_72 rfl (lv_at hl 1 rfl) ?_
            refine lv_iload_n hx hb dX6_pick_73 rfl (lv_at hl 2 rfl) ?_
            refine lv_iload_n hx hb dX6_pick_74 rfl (lv_at hl 3 rfl) ?_
            refine lv_iload_n hx hb dX6_pick_75 rfl (lv_at hl 4 rfl) ?_
            obtain ⟨z9, hz9, hf⟩ := obd hf
            refine kI (runV (As := [.int x1, .int x2, .int x3]) (rest := [.int 170, .ref (w 1)]) C0 hE hAb hP ((hD.weaken (fun _ _ _ h9 => hAb _ h9)).addr rfl) hS [0, 1] (wc := [oX6 w z8.2 w_seed w_entries, aJ cJ (w 1) 3420 z8.1]) (by decide) rfl 0 rfl rfl (c_X6_sortRead l D cI cJ cZ cQ bs H.size w z8.2 w_seed w_entries z8.1 x1 x2 x3 z9 hz9) (cwV 3 hts gX6_pick_X6_sortRead rfl rfl rfl (by decide +kernel) ⟨Nat.le_of_ble_eq_true rfl, Nat.le_of_ble_eq_true rfl⟩) rfl hl.1 rfl (Nat.le_of_ble_eq_true rfl) dX6_pick_76 ⟨Nat.le_of_ble_eq_true rfl, Nat.le_of_ble_eq_true rfl⟩) hS hP (fun H locs hP hS => ?_)
            refine lv_i2l (v := (Int32.toInt64 z9)) hx hb dX6_pick_79 rfl ?_
            refine va_last hx hb hK hP (hD.addr rfl) hS 1 1 rfl rfl (ib_in (by decide)) dX6_pick_80 (fun H locs hP _ hS => ?_)
            obtain ⟨h10a, eh10a⟩ : ∃ y : Nat → Int64, y = vp_updL z8.1 (Int32.toNatClampNeg 170) (Int32.toInt64 z9) := ⟨_, rfl⟩
            replace hf := onm eh10a hf
            have hP : va_P D vwCl [oX6 w z8.2 w_seed w_entries, aJ cJ (w 1) 3420 h10a] H := by rw [eh10a]; exact hP
            refine lv_aload_n hx hb dX6_pick_81 rfl (lv_at hl 1 rfl) ?_
            refine va_get (D := D) (ci := 6) (v := .ref (w 1)) (C := RX6) (T := TX6) (N := 12) hx hb hts hI_X6 hown hK hP 0 rfl rfl 0 (by decide) gf7 (fun _ h9 => h9) rfl dX6_pick_82 ?_
            refine lv_sipush (v := 171) hx hb dX6_pick_85 (by decide) ?_
            refine lv_aload_n hx hb dX6_pick_88 rfl (lv_at hl 1 rfl) ?_
            refine lv_iload_n hx hb dX6_pick_89 rfl (lv_at hl 2 rfl) ?_
            refine lv_iload_n hx hb dX6_pick_90 rfl (lv_at hl 3 rfl) ?_
            refine lv_iload_n hx hb dX6_pick_91 rfl (lv_at hl 4 rfl) ?_
            obtain ⟨z11, hz11, hf⟩ := obd hf
            refine kJ (runV (As := [.int x1, .int x2, .int x3]) (rest := [.int 171, .ref (w 1)]) C0 hE hAb hP ((hD.weaken (fun _ _ _ h9 => hAb _ h9)).addr rfl) hS [0, 1] (wc := [oX6 w z8.2 w_seed w_entries, aJ cJ (w 1) 3420 h10a]) (by decide) rfl 0 rfl rfl (c_X6_numberRead l D cI cJ cZ cQ bs H.size w z8.2 w_seed w_entries h10a x1 x2 x3 z11 hz11) (cwV 3 hts gX6_pick_X6_numberRead rfl rfl rfl (by decide +kernel) ⟨Nat.le_of_ble_eq_true rfl, Nat.le_of_ble_eq_true rfl⟩) rfl hl.1 rfl (Nat.le_of_ble_eq_true rfl) dX6_pick_92 ⟨Nat.le_of_ble_eq_true rfl, Nat.le_of_ble_eq_true rfl⟩) hS hP (fun H locs hP hS => ?_)
            refine va_last hx hb hK hP (hD.addr rfl) hS 1 1 rfl rfl (ib_in (by decide)) dX6_pick_95 (fun H locs hP _ hS => ?_)
            obtain ⟨h12a, eh12a⟩ : ∃ y : Nat → Int64, y = vp_updL h10a (Int32.toNatClampNeg 171) z11 := ⟨_, rfl⟩
            replace hf := onm eh12a hf
            have hP : va_P D vwCl [oX6 w z8.2 w_seed w_entries, aJ cJ (w 1) 3420 h12a] H := by rw [eh12a]; exact hP
            refine lv_iload hx hb dX6_pick_96 (lv_at hl 0 rfl) ?_
            have er := Option.some.inj hf
            exact rwI (wm := (fun u => [oX6 w u.2 w_seed w_entries, aJ cJ (w 1) 3420 u.1])) hx hb hr hS dX6_pick_98 hP er hlocks
        · replace hf := oif c6 hf
          refine lv_aload_n hx hb dX6_pick_39 rfl (lv_at hl 1 rfl) ?_
          refine lv_iload_n hx hb dX6_pick_40 rfl (lv_at hl 2 rfl) ?_
          refine lv_iload_n hx hb dX6_pick_41 rfl (lv_at hl 4 rfl) ?_
          obtain ⟨z13, hz13, hf⟩ := obd hf
          refine kZ (runV (As := [.int x1, .int x3]) (rest := []) C0 hE hAb hP ((hD.weaken (fun _ _ _ h9 => hAb _ h9)).addr rfl) hS [0, 1] (wc := [oX6 w w_undos w_seed w_entries, aJ cJ (w 1) 3420 w_w]) (by decide) rfl 0 rfl rfl (c_X6_reads l D cI cJ cZ cQ bs H.size w w_undos w_seed w_entries w_w x1 x3 z13 hz13) (cwV 2 hts gX6_pick_X6_reads rfl rfl rfl (by decide +kernel) ⟨Nat.le_of_ble_eq_true rfl, Nat.le_of_ble_eq_true rfl⟩) rfl hl.1 rfl (Nat.le_of_ble_eq_true rfl) dX6_pick_42 ⟨Nat.le_of_ble_eq_true rfl, Nat.le_of_ble_eq_true rfl⟩) hS hP (fun bz13 H locs hP hS => ?_)
          refine lv_if_ne (tgt := 52) hx hb dX6_pick_45 (by decide) (fun c14 => ?_) (fun c14 => ?_)
          · replace hf := oel c14 hf
            refine lv_iload hx hb dX6_pick_52 (lv_at hl 0 rfl) ?_
            refine lv_istore (lv' := [(4, .int z5), (0, .ref (w 0)), (1, .int x1), (2, .int x2), (3, .int x3)]) hx hb dX6_pick_54 hl (by decide) rfl (fun ls hl => ?_)
            refine lv_iload hx hb dX6_pick_56 (lv_at hl 0 rfl) ?_
            refine lv_if_ne (tgt := 96) hx hb dX6_pick_58 (by decide) (fun c15 => ?_) (fun c15 => ?_)
            · replace hf := oel c15 hf
              refine lv_iload hx hb dX6_pick_96 (lv_at hl 0 rfl) ?_
              have er := Option.some.inj hf
              exact rwI (wm := (fun u => [oX6 w u.2 w_seed w_entries, aJ cJ (w 1) 3420 u.1])) hx hb hr hS dX6_pick_98 hP er hlocks
            · replace hf := oif c15 hf
              refine lv_aload_n hx hb dX6_pick_61 rfl (lv_at hl 1 rfl) ?_
              obtain ⟨z16, hz16, hf⟩ := obd hf
              refine kwV (runV (As := []) (rest := []) C0 hE hAb hP ((hD.weaken (fun _ _ _ h9 => hAb _ h9)).addr rfl) hS [0, 1] (wc := [oX6 w w_undos w_seed w_entries, aJ cJ (w 1) 3420 w_w]) (by decide) rfl 0 rfl rfl (c_X6_minds l D cI cJ cZ cQ bs H.size w w_undos w_seed w_entries w_w z16 hz16) (cwV 0 hts gX6_pick_X6_minds rfl rfl rfl (by decide +kernel) ⟨Nat.le_of_ble_eq_true rfl, Nat.le_of_ble_eq_true rfl⟩) rfl hl.1 rfl (Nat.le_of_ble_eq_true rfl) dX6_pick_62 ⟨Nat.le_of_ble_eq_true rfl, Nat.le_of_ble_eq_true rfl⟩) hS hP (hD.addr rfl) hA [0, 1] rfl rfl (ws' := [oX6 w z16.2 w_seed w_entries, aJ cJ (w 1) 3420 z16.1]) rfl rfl (fun H locs hP hS => ?_)
              refine lv_aload_n hx hb dX6_pick_65 rfl (lv_at hl 1 rfl) ?_
              refine va_get (D := D) (ci := 6) (v := .ref (w 1)) (C := RX6) (T := TX6) (N := 12) hx hb hts hI_X6 hown hK hP 0 rfl rfl 0 (by decide) gf7 (fun _ h9 => h9) rfl dX6_pick_66 ?_
              refine lv_sipush (v := 170) hx hb dX6_pick_69 (by decide) ?_
              refine lv_aload_n hx hb dX6_pick_72 rfl (lv_at hl 1 rfl) ?_
              refine lv_iload_n hx hb dX6_pick_73 rfl (lv_at hl 2 rfl) ?_
              refine lv_iload_n hx hb dX6_pick_74 rfl (lv_at hl 3 rfl) ?_
              refine lv_iload_n hx hb dX6_pick_75 rfl (lv_at hl 4 rfl) ?_
              obtain ⟨z17, hz17, hf⟩ := obd hf
              refine kI (runV (As := [.int x1, .int x2, .int x3]) (rest := [.int 170, .ref (w 1)]) C0 hE hAb hP ((hD.weaken (fun _ _ _ h9 => hAb _ h9)).addr rfl) hS [0, 1] (wc := [oX6 w z16.2 w_seed w_entries, aJ cJ (w 1) 3420 z16.1]) (by decide) rfl 0 rfl rfl (c_X6_sortRead l D cI cJ cZ cQ bs H.size w z16.2 w_seed w_entries z16.1 x1 x2 x3 z17 hz17) (cwV 3 hts gX6_pick_X6_sortRead rfl rfl rfl (by decide +kernel) ⟨Nat.le_of_ble_eq_true rfl, Nat.le_of_ble_eq_true rfl⟩) rfl hl.1 rfl (Nat.le_of_ble_eq_true rfl) dX6_pick_76 ⟨Nat.le_of_ble_eq_true rfl, Nat.le_of_ble_eq_true rfl⟩) hS hP (fun H locs hP hS => ?_)
              refine lv_i2l (v := (Int32.toInt64 z17)) hx hb dX6_pick_79 rfl ?_
              refine va_last hx hb hK hP (hD.addr rfl) hS 1 1 rfl rfl (ib_in (by decide)) dX6_pick_80 (fun H locs hP _ hS => ?_)
              obtain ⟨h18a, eh18a⟩ : ∃ y : Nat → Int64, y = vp_updL z16.1 (Int32.toNatClampNeg 170) (Int32.toInt64 z17) := ⟨_, rfl⟩
              replace hf := onm eh18a hf
              have hP : va_P D vwCl [oX6 w z16.2 w_seed w_entries, aJ cJ (w 1) 3420 h18a] H := by rw [eh18a]; exact hP
              refine lv_aload_n hx hb dX6_pick_81 rfl (lv_at hl 1 rfl) ?_
              refine va_get (D := D) (ci := 6) (v := .ref (w 1)) (C := RX6) (T := TX6) (N := 12) hx hb hts hI_X6 hown hK hP 0 rfl rfl 0 (by decide) gf7 (fun _ h9 => h9) rfl dX6_pick_82 ?_
              refine lv_sipush (v := 171) hx hb dX6_pick_85 (by decide) ?_
              refine lv_aload_n hx hb dX6_pick_88 rfl (lv_at hl 1 rfl) ?_
              refine lv_iload_n hx hb dX6_pick_89 rfl (lv_at hl 2 rfl) ?_
              refine lv_iload_n hx hb dX6_pick_90 rfl (lv_at hl 3 rfl) ?_
              refine lv_iload_n hx hb dX6_pick_91 rfl (lv_at hl 4 rfl) ?_
              obtain ⟨z19, hz19, hf⟩ := obd hf
              refine kJ (runV (As := [.int x1, .int x2, .int x3]) (rest := [.int 171, .ref (w 1)]) C0 hE hAb hP ((hD.weaken (fun _ _ _ h9 => hAb _ h9)).addr rfl) hS [0, 1] (wc := [oX6 w z16.2 w_seed w_entries, aJ cJ (w 1) 3420 h18a]) (by decide) rfl 0 rfl rfl (c_X6_numberRead l D cI cJ cZ cQ bs H.size w z16.2 w_seed w_entries h18a x1 x2 x3 z19 hz19) (cwV 3 hts gX6_pick_X6_numberRead rfl rfl rfl (by decide +kernel) ⟨Nat.le_of_ble_eq_true rfl, Nat.le_of_ble_eq_true rfl⟩) rfl hl.1 rfl (Nat.le_of_ble_eq_true rfl) dX6_pick_92 ⟨Nat.le_of_ble_eq_true rfl, Nat.le_of_ble_eq_true rfl⟩) hS hP (fun H locs hP hS => ?_)
              refine va_last hx hb hK hP (hD.addr rfl) hS 1 1 rfl rfl (ib_in (by decide)) dX6_pick_95 (fun H locs hP _ hS => ?_)
              obtain ⟨h20a, eh20a⟩ : ∃ y : Nat → Int64, y = vp_updL h18a (Int32.toNatClampNeg 171) z19 := ⟨_, rfl⟩
              replace hf := onm eh20a hf
              have hP : va_P D vwCl [oX6 w z16.2 w_seed w_entries, aJ cJ (w 1) 3420 h20a] H := by rw [eh20a]; exact hP
              refine lv_iload hx hb dX6_pick_96 (lv_at hl 0 rfl) ?_
              have er := Option.some.inj hf
              exact rwI (wm := (fun u => [oX6 w u.2 w_seed w_entries, aJ cJ (w 1) 3420 u.1])) hx hb hr hS dX6_pick_98 hP er hlocks
          · replace hf := oif c14 hf
            refine lv_iconst (v := 4) hx hb dX6_pick_48 (by decide) ?_
            refine lv_goto (tgt := 54) hx hb dX6_pick_49 (by decide) ?_
            refine lv_istore (lv' := [(4, .int 4), (0, .ref (w 0)), (1, .int x1), (2, .int x2), (3, .int x3)]) hx hb dX6_pick_54 hl (by decide) rfl (fun ls hl => ?_)
            refine lv_iload hx hb dX6_pick_56 (lv_at hl 0 rfl) ?_
            refine lv_if_ne (tgt := 96) hx hb dX6_pick_58 (by decide) (fun _ => ?_) (fun h9 => absurd h9 (by decide))
            refine lv_iload hx hb dX6_pick_96 (lv_at hl 0 rfl) ?_
            have er := Option.some.inj hf
            exact rwI (wm := (fun u => [oX6 w u.2 w_seed w_entries, aJ cJ (w 1) 3420 u.1])) hx hb hr hS dX6_pick_98 hP er hlocks
      · replace hf := oif c4 hf
        refine lv_ldc hx hb hown gk192 dX6_pick_22 ?_
        have er := Option.some.inj hf
        exact rwI (wm := (fun u => [oX6 w u.2 w_seed w_entries, aJ cJ (w 1) 3420 u.1])) hx hb hr hS dX6_pick_24 hP er hlocks
    · replace hf := oif c2 hf
      refine lv_ldc hx hb hown gk198 dX6_pick_7 ?_
      have er := Option.some.inj hf
      exact rwI (wm := (fun u => [oX6 w u.2 w_seed w_entries, aJ cJ (w 1) 3420 u.1])) hx hb hr hS dX6_pick_9 hP er hlocks
  exact go s.heap [] hP hS
noncomputable def f_X6_put (w_w : Nat → Int64) (w_undos : Int32) (x1 : Int32) (x2 : Int32) (x3 : Int32) : Option (Int32 × (Nat → Int64) × Int32) := (f_X6_isSlot x1).bind (fun z1 => if z1 = 0 then (some (((-1000000001), w_w, w_undos))) else ((f_X6_in (Int32.toInt64 x3) 0 1).bind (fun z3 => if z3 = 0 then (some (((-1000000002), w_w, w_undos))) else ((some ((Int64.toInt32 (w_w (Int32.toNatClampNeg 170))) : Int32)).bind (fun y6 => if x3 = 1 then (if y6 ≤ 7 then ((f_X6_lacks w_w x1 (Int32.toInt64 x2)).bind (fun z35 => if z35 = 0 then (if x3 = 1 then ((f_X6_kind w_w x1).bind (fun z50 => if 7 < z50 then (some ((4, w_w, w_undos))) else ((f_X6_takes w_w x1 y6 (w_w (Int32.toNatClampNeg 171))).bind (fun z54 => if z54 = 0 then (some ((4, w_w, w_undos))) else (if z35 = 0 then ((f_X6_minds w_w w_undos).bind (fun z57 => (f_X6_sets z57.1 x1 x2 y6 (z57.1 (Int32.toNatClampNeg 171))).bind (fun z59 => some ((z35, z59, z57.2))))) else (some ((z35, w_w, w_undos)))))))) else ((f_X6_takes w_w x1 y6 (w_w (Int32.toNatClampNeg 171))).bind (fun z43 => if z43 = 0 then (some ((4, w_w, w_undos))) else (if z35 = 0 then ((f_X6_minds w_w w_undos).bind (fun z46 => (f_X6_sets z46.1 x1 x2 y6 (z46.1 (Int32.toNatClampNeg 171))).bind (fun z48 => some ((z35, z48, z46.2))))) else (some ((z35, w_w, w_undos))))))) else (if z35 = 0 then ((f_X6_minds w_w w_undos).bind (fun z38 => (f_X6_sets z38.1 x1 x2 y6 (z38.1 (Int32.toNatClampNeg 171))).bind (fun z40 => some ((z35, z40, z38.2))))) else (some ((z35, w_w, w_undos)))))) else (some (((-1000000003), w_w, w_undos)))) else ((f_X6_lacks w_w x1 (Int32.toInt64 x2)).bind (fun z8 => if z8 = 0 then (if x3 = 1 then ((f_X6_kind w_w x1).bind (fun z23 => if 7 < z23 then (some ((4, w_w, w_undos))) else ((f_X6_takes w_w x1 y6 (w_w (Int32.toNatClampNeg 171))).bind (fun z27 => if z27 = 0 then (some ((4, w_w, w_undos))) else (if z8 = 0 then ((f_X6_minds w_w w_undos).bind (fun z30 => (f_X6_sets z30.1 x1 x2 y6 (z30.1 (Int32.toNatClampNeg 171))).bind (fun z32 => some ((z8, z32, z30.2))))) else (some ((z8, w_w, w_undos)))))))) else ((f_X6_takes w_w x1 y6 (w_w (Int32.toNatClampNeg 171))).bind (fun z16 => if z16 = 0 then (some ((4, w_w, w_undos))) else (if z8 = 0 then ((f_X6_minds w_w w_undos).bind (fun z19 => (f_X6_sets z19.1 x1 x2 y6 (z19.1 (Int32.toNatClampNeg 171))).bind (fun z21 => some ((z8, z21, z19.2))))) else (some ((z8, w_w, w_undos))))))) else (if z8 = 0 then ((f_X6_minds w_w w_undos).bind (fun z11 => (f_X6_sets z11.1 x1 x2 y6 (z11.1 (Int32.toNatClampNeg 171))).bind (fun z13 => some ((z8, z13, z11.2))))) else (some ((z8, w_w, w_undos)))))))))))
set_option maxHeartbeats 4000000 in
set_option maxRecDepth 100000 in
theorem c_X6_put (l : Launch) (D : va_G) (cI cJ cZ cQ : ClassId) (bs sz : Nat) (w : Nat → Nat) (w_undos : Int32) (w_seed : Int32) (w_entries : Int32) (w_w : Nat → Int64) (x1 : Int32) (x2 : Int32) (x3 : Int32) (zr : Int32 × (Nat → Int64) × Int32) (hf : f_X6_put w_w w_undos x1 x2 x3 = some zr) : Met l yX6_put wsX6_put { frames := 3, cells := 0, slots := 0, locals := 82 } (va_Pc [.ref (w 0), .int x1, .int x2, .int x3] (Pr D cI cJ cZ cQ bs sz [oX6 w w_undos w_seed w_entries, aJ cJ (w 1) 3420 w_w])) (QwI D zr (fun u => [oX6 w u.2 w_seed w_entries, aJ cJ (w 1) 3420 u.1]) (va_A [oX6 w w_undos w_seed w_entries, aJ cJ (w 1) 3420 w_w] sz)) 0 0 (va_A [oX6 w w_undos w_seed w_entries, aJ cJ (w 1) 3420 w_w] sz) := by
  refine stW (cc := cX6_put) (maxL := 6) (ret := (some .int)) (Qf := fun A => (QwI D zr (fun u => [oX6 w u.2 w_seed w_entries, aJ cJ (w 1) 3420 u.1]) A)) (by decide +kernel) rfl (Nat.le_of_ble_eq_true rfl) ?_
  intro p e s m args below meth c A C0 hr hlocks hname hsz hP hD hA hAb hE ls hl
  obtain ⟨hx, hb, hml, hown, hts⟩ := id C0
  have hown : s.vm.findClass RX6 = some m.cls := hown
  obtain ⟨hK, hNW, -, tw, hZ, hT⟩ := id hE
  have hl : lv_has ls 6 [(0, .ref (w 0)), (1, .int x1), (2, .int x2), (3, .int x3)] := hl
  have hS : va_S A s.heap s.heap [] := va_S.rf
  have hI_X6 := (show ∀ w ∈ wsX60, w ∈ wsX6_put by decide +kernel)
  have gf7 := hts (.fieldLink RX6 7 "RowRanksModel" "w" "[J") (by decide +kernel)
  have gk246 := hts (.constant RX6 246 (-1000000003)) (by decide +kernel)
  have gk192 := hts (.constant RX6 192 (-1000000002)) (by decide +kernel)
  have gk198 := hts (.constant RX6 198 (-1000000001)) (by decide +kernel)
  unfold f_X6_put at hf
  have go : ∀ (H : Heap) (locs : List Loc), va_P D vwCl [oX6 w w_undos w_seed w_entries, aJ cJ (w 1) 3420 w_w] H → va_S A s.heap H locs → W p l e { frames := 3, cells := 0, slots := 0, locals := 82 } s m args below meth c H locs 0 0 (MQ below (QwI D zr (fun u => [oX6 w u.2 w_seed w_entries, aJ cJ (w 1) 3420 u.1]) A) args s 0 0 A) (F0 m 0 ls []) := by
    intro H locs hP hS
    refine lv_iload_n hx hb dX6_put_0 rfl (lv_at hl 1 rfl) ?_
    obtain ⟨z1, hz1, hf⟩ := obd hf
    refine kZ (runS (As := [.int x1]) (rest := []) C0 hE hAb hP ((hD.weaken (fun _ _ _ h9 => hAb _ h9)).addr rfl) hS [] (wc := []) (by decide) rfl (c_X6_isSlot l D cI cJ cZ cQ bs H.size x1 z1 hz1) (va_cwS 1 hts gX6_put_X6_isSlot rfl rfl rfl (by decide +kernel) ⟨Nat.le_of_ble_eq_true rfl, Nat.le_of_ble_eq_true rfl⟩) rfl hl.1 rfl (Nat.le_of_ble_eq_true rfl) dX6_put_1 ⟨Nat.le_of_ble_eq_true rfl, Nat.le_of_ble_eq_true rfl⟩) hS hP (fun bz1 H locs hP hS => ?_)
    refine lv_if_ne (tgt := 10) hx hb dX6_put_4 (by decide) (fun c2 => ?_) (fun c2 => ?_)
    · replace hf := oel c2 hf
      refine lv_iload_n hx hb dX6_put_10 rfl (lv_at hl 3 rfl) ?_
      refine lv_i2l (v := (Int32.toInt64 x3)) hx hb dX6_put_11 rfl ?_
      refine lv_lconst (v := 0) hx hb dX6_put_12 (by decide) ?_
      refine lv_lconst (v := 1) hx hb dX6_put_13 (by decide) ?_
      obtain ⟨z3, hz3, hf⟩ := obd hf
      refine kZ (runS (As := [.long (Int32.toInt64 x3), .long 0, .long 1]) (rest := []) C0 hE hAb hP ((hD.weaken (fun _ _ _ h9 => hAb _ h9)).addr rfl) hS [] (wc := []) (by decide) rfl (c_X6_in l D cI cJ cZ cQ bs H.size (Int32.toInt64 x3) 0 1 z3 hz3) (va_cwS 3 hts gX6_put_X6_in rfl rfl rfl (by decide +kernel) ⟨Nat.le_of_ble_eq_true rfl, Nat.le_of_ble_eq_true rfl⟩) rfl hl.1 rfl (Nat.le_of_ble_eq_true rfl) dX6_put_14 ⟨Nat.le_of_ble_eq_true rfl, Nat.le_of_ble_eq_true rfl⟩) hS hP (fun bz3 H locs hP hS => ?_)
      refine lv_if_ne (tgt := 23) hx hb dX6_put_17 (by decide) (fun c4 => ?_) (fun c4 => ?_)
      · replace hf := oel c4 hf
        refine lv_aload_n hx hb dX6_put_23 rfl (lv_at hl 0 rfl) ?_
        refine va_get (D := D) (ci := 6) (v := .ref (w 1)) (C := RX6) (T := TX6) (N := 12) hx hb hts hI_X6 hown hK hP 0 rfl rfl 0 (by decide) gf7 (fun _ h9 => h9) rfl dX6_put_24 ?_
        refine lv_sipush (v := 170) hx hb dX6_put_27 (by decide) ?_
        refine va_lald hx hb hK hP 1 1 rfl rfl (ib_in (by decide)) dX6_put_30 ?_
        refine lv_l2i (v := (Int64.toInt32 (w_w (Int32.toNatClampNeg 170)))) hx hb dX6_put_31 rfl ?_
        refine lv_topi (fun y6 ey6 => ?_)
        replace hf := onm ey6 hf
        refine lv_istore (lv' := [(4, .int y6), (0, .ref (w 0)), (1, .int x1), (2, .int x2), (3, .int x3)]) hx hb dX6_put_32 hl (by decide) rfl (fun ls hl => ?_)
        refine lv_iload_n hx hb dX6_put_34 rfl (lv_at hl 4 rfl) ?_
        refine lv_iconst (v := 1) hx hb dX6_put_35 (by decide) ?_
        refine lv_icmp_ne (tgt := 49) hx hb dX6_put_36 (by decide) (fun c7 => ?_) (fun c7 => ?_)
        · replace hf := oel c7 hf
          refine lv_aload_n hx hb dX6_put_49 rfl (lv_at hl 1 rfl) ?_
          refine lv_iload_n hx hb dX6_put_50 rfl (lv_at hl 2 rfl) ?_
          refine lv_iload_n hx hb dX6_put_51 rfl (lv_at hl 3 rfl) ?_
          refine lv_i2l (v := (Int32.toInt64 x2)) hx hb dX6_put_52 rfl ?_
          obtain ⟨z8, hz8, hf⟩ := obd hf
          refine kI (runV (As := [.int x1, .long (Int32.toInt64 x2)]) (rest := []) C0 hE hAb hP ((hD.weaken (fun _ _ _ h9 => hAb _ h9)).addr rfl) hS [0, 1] (wc := [oX6 w w_undos w_seed w_entries, aJ cJ (w 1) 3420 w_w]) (by decide) rfl 0 rfl rfl (c_X6_lacks l D cI cJ cZ cQ bs H.size w w_undos w_seed w_entries w_w x1 (Int32.toInt64 x2) z8 hz8) (cwV 2 hts gX6_put_X6_lacks rfl rfl rfl (by decide +kernel) ⟨Nat.le_of_ble_eq_true rfl, Nat.le_of_ble_eq_true rfl⟩) rfl hl.1 rfl (Nat.le_of_ble_eq_true rfl) dX6_put_53 ⟨Nat.le_of_ble_eq_true rfl, Nat.le_of_ble_eq_true rfl⟩) hS hP (fun H locs hP hS => ?_)
          refine lv_istore (lv' := [(5, .int z8), (4, .int y6), (0, .ref (w 0)), (1, .int x1), (2, .int x2), (3, .int x3)]) hx hb dX6_put_56 hl (by decide) rfl (fun ls hl => ?_)
          refine lv_iload hx hb dX6_put_58 (lv_at hl 0 rfl) ?_
          refine lv_if_ne (tgt := 100) hx hb dX6_put_60 (by decide) (fun c9 => ?_) (fun c9 => ?_)
          · replace hf := oel c9 hf
            refine lv_iload hx hb dX6_put_100 (lv_at hl 0 rfl) ?_
            refine lv_istore (lv' := [(5, .int z8), (4, .int y6), (0, .ref (w 0)), (1, .int x1), (2, .int x2), (3, .int x3)]) hx hb dX6_put_102 hl (by decide) rfl (fun ls hl => ?_)
            refine lv_iload hx hb dX6_put_104 (lv_at hl 0 rfl) ?_
            refine lv_if_ne (tgt := 129) hx hb dX6_put_106 (by decide) (fun c10 => ?_) (fun c10 => ?_)
            · replace hf := oel c10 hf
              refine lv_iload hx hb dX6_put_129 (lv_at hl 0 rfl) ?_
              have er := Option.some.inj hf
              exact rwI (wm := (fun u => [oX6 w u.2 w_seed w_entries, aJ cJ (w 1) 3420 u.1])) hx hb hr hS dX6_put_131 hP er hlocks
            · replace hf := oif c10 hf
              refine lv_aload_n hx hb dX6_put_109 rfl (lv_at hl 2 rfl) ?_
              obtain ⟨z11, hz11, hf⟩ := obd hf
              refine kwV (runV (As := []) (rest := []) C0 hE hAb hP ((hD.weaken (fun _ _ _ h9 => hAb _ h9)).addr rfl) hS [0, 1] (wc := [oX6 w w_undos w_seed w_entries, aJ cJ (w 1) 3420 w_w]) (by decide) rfl 0 rfl rfl (c_X6_minds l D cI cJ cZ cQ bs H.size w w_undos w_seed w_entries w_w z11 hz11) (cwV 0 hts gX6_put_X6_minds rfl rfl rfl (by decide +kernel) ⟨Nat.le_of_ble_eq_true rfl, Nat.le_of_ble_eq_true rfl⟩) rfl hl.1 rfl (Nat.le_of_ble_eq_true rfl) dX6_put_110 ⟨Nat.le_of_ble_eq_true rfl, Nat.le_of_ble_eq_true rfl⟩) hS hP (hD.addr rfl) hA [0, 1] rfl rfl (ws' := [oX6 w z11.2 w_seed w_entries, aJ cJ (w 1) 3420 z11.1]) rfl rfl (fun H locs hP hS => ?_)
              refine lv_aload_n hx hb dX6_put_113 rfl (lv_at hl 2 rfl) ?_
              refine lv_iload_n hx hb dX6_put_114 rfl (lv_at hl 3 rfl) ?_
              refine lv_iload_n hx hb dX6_put_115 rfl (lv_at hl 4 rfl) ?_
              refine lv_iload hx hb dX6_put_116 (lv_at hl 1 rfl) ?_
              refine lv_aload_n hx hb dX6_put_118 rfl (lv_at hl 2 rfl) ?_
              refine va_get (D := D) (ci := 6) (v := .ref (w 1)) (C := RX6) (T := TX6) (N := 12) hx hb hts hI_X6 hown hK hP 0 rfl rfl 0 (by decide) gf7 (fun _ h9 => h9) rfl dX6_put_119 ?_
              refine lv_sipush (v := 171) hx hb dX6_put_122 (by decide) ?_
              refine va_lald hx hb hK hP 1 1 rfl rfl (ib_in (by decide)) dX6_put_125 ?_
              obtain ⟨z13, hz13, hf⟩ := obd hf
              refine kwV (runV (As := [.int x1, .int x2, .int y6, .long (z11.1 (Int32.toNatClampNeg 171))]) (rest := []) C0 hE hAb hP ((hD.weaken (fun _ _ _ h9 => hAb _ h9)).addr rfl) hS [0, 1] (wc := [oX6 w z11.2 w_seed w_entries, aJ cJ (w 1) 3420 z11.1]) (by decide) rfl 0 rfl rfl (c_X6_sets l D cI cJ cZ cQ bs H.size w z11.2 w_seed w_entries z11.1 x1 x2 y6 (z11.1 (Int32.toNatClampNeg 171)) z13 hz13) (cwV 4 hts gX6_put_X6_sets rfl rfl rfl (by decide +kernel) ⟨Nat.le_of_ble_eq_true rfl, Nat.le_of_ble_eq_true rfl⟩) rfl hl.1 rfl (Nat.le_of_ble_eq_true rfl) dX6_put_126 ⟨Nat.le_of_ble_eq_true rfl, Nat.le_of_ble_eq_true rfl⟩) hS hP (hD.addr rfl) hA [0, 1] rfl rfl (ws' := [oX6 w z11.2 w_seed w_entries, aJ cJ (w 1) 3420 z13]) rfl rfl (fun H locs hP hS => ?_)
              refine lv_iload hx hb dX6_put_129 (lv_at hl 0 rfl) ?_
              have er := Option.some.inj hf
              exact rwI (wm := (fun u => [oX6 w u.2 w_seed w_entries, aJ cJ (w 1) 3420 u.1])) hx hb hr hS dX6_put_131 hP er hlocks
          · replace hf := oif c9 hf
            refine lv_iload_n hx hb dX6_put_63 rfl (lv_at hl 5 rfl) ?_
            refine lv_iconst (v := 1) hx hb dX6_put_64 (by decide) ?_
            refine lv_icmp_ne (tgt := 78) hx hb dX6_put_65 (by decide) (fun c14 => ?_) (fun c14 => ?_)
            · replace hf := oel c14 hf
              refine lv_aload_n hx hb dX6_put_78 rfl (lv_at hl 2 rfl) ?_
              refine lv_iload_n hx hb dX6_put_79 rfl (lv_at hl 3 rfl) ?_
              refine lv_iload hx hb dX6_put_80 (lv_at hl 1 rfl) ?_
              refine lv_aload_n hx hb dX6_put_82 rfl (lv_at hl 2 rfl) ?_
              refine va_get (D := D) (ci := 6) (v := .ref (w 1)) (C := RX6) (T := TX6) (N := 12) hx hb hts hI_X6 hown hK hP 0 rfl rfl 0 (by decide) gf7 (fun _ h9 => h9) rfl dX6_put_83 ?_
              refine lv_sipush (v := 171) hx hb dX6_put_86 (by decide) ?_
              refine va_lald hx hb hK hP 1 1 rfl rfl (ib_in (by decide)) dX6_put_89 ?_
              obtain ⟨z16, hz16, hf⟩ := obd hf
              refine kZ (runV (As := [.int x1, .int y6, .long (w_w (Int32.toNatClampNeg 171))]) (rest := []) C0 hE hAb hP ((hD.weaken (fun _ _ _ h9 => hAb _ h9)).addr rfl) hS [0, 1] (wc := [oX6 w w_undos w_seed w_entries, aJ cJ (w 1) 3420 w_w]) (by decide) rfl 0 rfl rfl (c_X6_takes l D cI cJ cZ cQ bs H.size w w_undos w_seed w_entries w_w x1 y6 (w_w (Int32.toNatClampNeg 171)) z16 hz16) (cwV 3 hts gX6_put_X6_takes rfl rfl rfl (by decide +kernel) ⟨Nat.le_of_ble_eq_true rfl, Nat.le_of_ble_eq_true rfl⟩) rfl hl.1 rfl (Nat.le_of_ble_eq_true rfl) dX6_put_90 ⟨Nat.le_of_ble_eq_true rfl, Nat.le_of_ble_eq_true rfl⟩) hS hP (fun bz16 H locs hP hS => ?_)
              refine lv_if_ne (tgt := 100) hx hb dX6_put_93 (by decide) (fun c17 => ?_) (fun c17 => ?_)
              · replace hf := oel c17 hf
                refine lv_iload hx hb dX6_put_100 (lv_at hl 0 rfl) ?_
                refine lv_istore (lv' := [(5, .int z8), (4, .int y6), (0, .ref (w 0)), (1, .int x1), (2, .int x2), (3, .int x3)]) hx hb dX6_put_102 hl (by decide) rfl (fun ls hl => ?_)
                refine lv_iload hx hb dX6_put_104 (lv_at hl 0 rfl) ?_
                refine lv_if_ne (tgt := 129) hx hb dX6_put_106 (by decide) (fun c18 => ?_) (fun c18 => ?_)
                · replace hf := oel c18 hf
                  refine lv_iload hx hb dX6_put_129 (lv_at hl 0 rfl) ?_
                  have er := Option.some.inj hf
                  exact rwI (wm := (fun u => [oX6 w u.2 w_seed w_entries, aJ cJ (w 1) 3420 u.1])) hx hb hr hS dX6_put_131 hP er hlocks
                · replace hf := oif c18 hf
                  refine lv_aload_n hx hb dX6_put_109 rfl (lv_at hl 2 rfl) ?_
                  obtain ⟨z19, hz19, hf⟩ := obd hf
                  refine kwV (runV (As := []) (rest := []) C0 hE hAb hP ((hD.weaken (fun _ _ _ h9 => hAb _ h9)).addr rfl) hS [0, 1] (wc := [oX6 w w_undos w_seed w_entries, aJ cJ (w 1) 3420 w_w]) (by decide) rfl 0 rfl rfl (c_X6_minds l D cI cJ cZ cQ bs H.size w w_undos w_seed w_entries w_w z19 hz19) (cwV 0 hts gX6_put_X6_minds rfl rfl rfl (by decide +kernel) ⟨Nat.le_of_ble_eq_true rfl, Nat.le_of_ble_eq_true rfl⟩) rfl hl.1 rfl (Nat.le_of_ble_eq_true rfl) dX6_put_110 ⟨Nat.le_of_ble_eq_true rfl, Nat.le_of_ble_eq_true rfl⟩) hS hP (hD.addr rfl) hA [0, 1] rfl rfl (ws' := [oX6 w z19.2 w_seed w_entries, aJ cJ (w 1) 3420 z19.1]) rfl rfl (fun H locs hP hS => ?_)
                  refine lv_aload_n hx hb dX6_put_113 rfl (lv_at hl 2 rfl) ?_
                  refine lv_iload_n hx hb dX6_put_114 rfl (lv_at hl 3 rfl) ?_
                  refine lv_iload_n hx hb dX6_put_115 rfl (lv_at hl 4 rfl) ?_
                  refine lv_iload hx hb dX6_put_116 (lv_at hl 1 rfl) ?_
                  refine lv_aload_n hx hb dX6_put_118 rfl (lv_at hl 2 rfl) ?_
                  refine va_get (D := D) (ci := 6) (v := .ref (w 1)) (C := RX6) (T := TX6) (N := 12) hx hb hts hI_X6 hown hK hP 0 rfl rfl 0 (by decide) gf7 (fun _ h9 => h9) rfl dX6_put_119 ?_
                  refine lv_sipush (v := 171) hx hb dX6_put_122 (by decide) ?_
                  refine va_lald hx hb hK hP 1 1 rfl rfl (ib_in (by decide)) dX6_put_125 ?_
                  obtain ⟨z21, hz21, hf⟩ := obd hf
                  refine kwV (runV (As := [.int x1, .int x2, .int y6, .long (z19.1 (Int32.toNatClampNeg 171))]) (rest := []) C0 hE hAb hP ((hD.weaken (fun _ _ _ h9 => hAb _ h9)).addr rfl) hS [0, 1] (wc := [oX6 w z19.2 w_seed w_entries, aJ cJ (w 1) 3420 z19.1]) (by decide) rfl 0 rfl rfl (c_X6_sets l D cI cJ cZ cQ bs H.size w z19.2 w_seed w_entries z19.1 x1 x2 y6 (z19.1 (Int32.toNatClampNeg 171)) z21 hz21) (cwV 4 hts gX6_put_X6_sets rfl rfl rfl (by decide +kernel) ⟨Nat.le_of_ble_eq_true rfl, Nat.le_of_ble_eq_true rfl⟩) rfl hl.1 rfl (Nat.le_of_ble_eq_true rfl) dX6_put_126 ⟨Nat.le_of_ble_eq_true rfl, Nat.le_of_ble_eq_true rfl⟩) hS hP (hD.addr rfl) hA [0, 1] rfl rfl (ws' := [oX6 w z19.2 w_seed w_entries, aJ cJ (w 1) 3420 z21]) rfl rfl (fun H locs hP hS => ?_)
                  refine lv_iload hx hb dX6_put_129 (lv_at hl 0 rfl) ?_
                  have er := Option.some.inj hf
                  exact rwI (wm := (fun u => [oX6 w u.2 w_seed w_entries, aJ cJ (w 1) 3420 u.1])) hx hb hr hS dX6_put_131 hP er hlocks
              · replace hf := oif c17 hf
                refine lv_iconst (v := 4) hx hb dX6_put_96 (by decide) ?_
                refine lv_goto (tgt := 102) hx hb dX6_put_97 (by decide) ?_
                refine lv_istore (lv' := [(5, .int 4), (4, .int y6), (0, .ref (w 0)), (1, .int x1), (2, .int x2), (3, .int x3)]) hx hb dX6_put_102 hl (by decide) rfl (fun ls hl => ?_)
                refine lv_iload hx hb dX6_put_104 (lv_at hl 0 rfl) ?_
                refine lv_if_ne (tgt := 129) hx hb dX6_put_106 (by decide) (fun _ => ?_) (fun h9 => absurd h9 (by decide))
                refine lv_iload hx hb dX6_put_129 (lv_at hl 0 rfl) ?_
                have er := Option.some.inj hf
                exact rwI (wm := (fun u => [oX6 w u.2 w_seed w_entries, aJ cJ (w 1) 3420 u.1])) hx hb hr hS dX6_put_131 hP er hlocks
            · replace hf := oif c14 hf
              refine lv_aload_n hx hb dX6_put_68 rfl (lv_at hl 2 rfl) ?_
              refine lv_iload_n hx hb dX6_put_69 rfl (lv_at hl 3 rfl) ?_
              obtain ⟨z23, hz23, hf⟩ := obd hf
              refine kI (runV (As := [.int x1]) (rest := []) C0 hE hAb hP ((hD.weaken (fun _ _ _ h9 => hAb _ h9)).addr rfl) hS [0, 1] (wc := [oX6 w w_undos w_seed w_entries, aJ cJ (w 1) 3420 w_w]) (by decide) rfl 0 rfl rfl (c_X6_kind l D cI cJ cZ cQ bs H.size w w_undos w_seed w_entries w_w x1 z23 hz23) (cwV 1 hts gX6_put_X6_kind rfl rfl rfl (by decide +kernel) ⟨Nat.le_of_ble_eq_true rfl, Nat.le_of_ble_eq_true rfl⟩) rfl hl.1 rfl (Nat.le_of_ble_eq_true rfl) dX6_put_70 ⟨Nat.le_of_ble_eq_true rfl, Nat.le_of_ble_eq_true rfl⟩) hS hP (fun H locs hP hS => ?_)
              refine lv_bipush (v := 7) hx hb dX6_put_73 (by decide) ?_
              refine lv_icmp_gt (tgt := 96) hx hb dX6_put_75 (by decide) (fun c24 => ?_) (fun c24 => ?_)
              · replace hf := oif c24 hf
                refine lv_iconst (v := 4) hx hb dX6_put_96 (by decide) ?_
                refine lv_goto (tgt := 102) hx hb dX6_put_97 (by decide) ?_
                refine lv_istore (lv' := [(5, .int 4), (4, .int y6), (0, .ref (w 0)), (1, .int x1), (2, .int x2), (3, .int x3)]) hx hb dX6_put_102 hl (by decide) rfl (fun ls hl => ?_)
                refine lv_iload hx hb dX6_put_104 (lv_at hl 0 rfl) ?_
                refine lv_if_ne (tgt := 129) hx hb dX6_put_106 (by decide) (fun _ => ?_) (fun h9 => absurd h9 (by decide))
                refine lv_iload hx hb dX6_put_129 (lv_at hl 0 rfl) ?_
                have er := Option.some.inj hf
                exact rwI (wm := (fun u => [oX6 w u.2 w_seed w_entries, aJ cJ (w 1) 3420 u.1])) hx hb hr hS dX6_put_131 hP er hlocks
              · replace hf := oel c24 hf
                refine lv_aload_n hx hb dX6_put_78 rfl (lv_at hl 2 rfl) ?_
                refine lv_iload_n hx hb dX6_put_79 rfl (lv_at hl 3 rfl) ?_
                refine lv_iload hx hb dX6_put_80 (lv_at hl 1 rfl) ?_
                refine lv_aload_n hx hb dX6_put_82 rfl (lv_at hl 2 rfl) ?_
                refine va_get (D := D) (ci := 6) (v := .ref (w 1)) (C := RX6) (T := TX6) (N := 12) hx hb hts hI_X6 hown hK hP 0 rfl rfl 0 (by decide) gf7 (fun _ h9 => h9) rfl dX6_put_83 ?_
                refine lv_sipush (v := 171) hx hb dX6_put_86 (by decide) ?_
                refine va_lald hx hb hK hP 1 1 rfl rfl (ib_in (by decide)) dX6_put_89 ?_
                obtain ⟨z27, hz27, hf⟩ := obd hf
                refine kZ (runV (As := [.int x1, .int y6, .long (w_w (Int32.toNatClampNeg 171))]) (rest := []) C0 hE hAb hP ((hD.weaken (fun _ _ _ h9 => hAb _ h9)).addr rfl) hS [0, 1] (wc := [oX6 w w_undos w_seed w_entries, aJ cJ (w 1) 3420 w_w]) (by decide) rfl 0 rfl rfl (c_X6_takes l D cI cJ cZ cQ bs H.size w w_undos w_seed w_entries w_w x1 y6 (w_w (Int32.toNatClampNeg 171)) z27 hz27) (cwV 3 hts gX6_put_X6_takes rfl rfl rfl (by decide +kernel) ⟨Nat.le_of_ble_eq_true rfl, Nat.le_of_ble_eq_true rfl⟩) rfl hl.1 rfl (Nat.le_of_ble_eq_true rfl) dX6_put_90 ⟨Nat.le_of_ble_eq_true rfl, Nat.le_of_ble_eq_true rfl⟩) hS hP (fun bz27 H locs hP hS => ?_)
                refine lv_if_ne (tgt := 100) hx hb dX6_put_93 (by decide) (fun c28 => ?_) (fun c28 => ?_)
                · replace hf := oel c28 hf
                  refine lv_iload hx hb dX6_put_100 (lv_at hl 0 rfl) ?_
                  refine lv_istore (lv' := [(5, .int z8), (4, .int y6), (0, .ref (w 0)), (1, .int x1), (2, .int x2), (3, .int x3)]) hx hb dX6_put_102 hl (by decide) rfl (fun ls hl => ?_)
                  refine lv_iload hx hb dX6_put_104 (lv_at hl 0 rfl) ?_
                  refine lv_if_ne (tgt := 129) hx hb dX6_put_106 (by decide) (fun c29 => ?_) (fun c29 => ?_)
                  · replace hf := oel c29 hf
                    refine lv_iload hx hb dX6_put_129 (lv_at hl 0 rfl) ?_
                    have er := Option.some.inj hf
                    exact rwI (wm := (fun u => [oX6 w u.2 w_seed w_entries, aJ cJ (w 1) 3420 u.1])) hx hb hr hS dX6_put_131 hP er hlocks
                  · replace hf := oif c29 hf
                    refine lv_aload_n hx hb dX6_put_109 rfl (lv_at hl 2 rfl) ?_
                    obtain ⟨z30, hz30, hf⟩ := obd hf
                    refine kwV (runV (As := []) (rest := []) C0 hE hAb hP ((hD.weaken (fun _ _ _ h9 => hAb _ h9)).addr rfl) hS [0, 1] (wc := [oX6 w w_undos w_seed w_entries, aJ cJ (w 1) 3420 w_w]) (by decide) rfl 0 rfl rfl (c_X6_minds l D cI cJ cZ cQ bs H.size w w_undos w_seed w_entries w_w z30 hz30) (cwV 0 hts gX6_put_X6_minds rfl rfl rfl (by decide +kernel) ⟨Nat.le_of_ble_eq_true rfl, Nat.le_of_ble_eq_true rfl⟩) rfl hl.1 rfl (Nat.le_of_ble_eq_true rfl) dX6_put_110 ⟨Nat.le_of_ble_eq_true rfl, Nat.le_of_ble_eq_true rfl⟩) hS hP (hD.addr rfl) hA [0, 1] rfl rfl (ws' := [oX6 w z30.2 w_seed w_entries, aJ cJ (w 1) 3420 z30.1]) rfl rfl (fun H locs hP hS => ?_)
                    refine lv_aload_n hx hb dX6_put_113 rfl (lv_at hl 2 rfl) ?_
                    refine lv_iload_n hx hb dX6_put_114 rfl (lv_at hl 3 rfl) ?_
                    refine lv_iload_n hx hb dX6_put_115 rfl (lv_at hl 4 rfl) ?_
                    refine lv_iload hx hb dX6_put_116 (lv_at hl 1 rfl) ?_
                    refine lv_aload_n hx hb dX6_put_118 rfl (lv_at hl 2 rfl) ?_
                    refine va_get (D := D) (ci := 6) (v := .ref (w 1)) (C := RX6) (T := TX6) (N := 12) hx hb hts hI_X6 hown hK hP 0 rfl rfl 0 (by decide) gf7 (fun _ h9 => h9) rfl dX6_put_119 ?_
                    refine lv_sipush (v := 171) hx hb dX6_put_122 (by decide) ?_
                    refine va_lald hx hb hK hP 1 1 rfl rfl (ib_in (by decide)) dX6_put_125 ?_
                    obtain ⟨z32, hz32, hf⟩ := obd hf
                    refine kwV (runV (As := [.int x1, .int x2, .int y6, .long (z30.1 (Int32.toNatClampNeg 171))]) (rest := []) C0 hE hAb hP ((hD.weaken (fun _ _ _ h9 => hAb _ h9)).addr rfl) hS [0, 1] (wc := [oX6 w z30.2 w_seed w_entries, aJ cJ (w 1) 3420 z30.1]) (by decide) rfl 0 rfl rfl (c_X6_sets l D cI cJ cZ cQ bs H.size w z30.2 w_seed w_entries z30.1 x1 x2 y6 (z30.1 (Int32.toNatClampNeg 171)) z32 hz32) (cwV 4 hts gX6_put_X6_sets rfl rfl rfl (by decide +kernel) ⟨Nat.le_of_ble_eq_true rfl, Nat.le_of_ble_eq_true rfl⟩) rfl hl.1 rfl (Nat.le_of_ble_eq_true rfl) dX6_put_126 ⟨Nat.le_of_ble_eq_true rfl, Nat.le_of_ble_eq_true rfl⟩) hS hP (hD.addr rfl) hA [0, 1] rfl rfl (ws' := [oX6 w z30.2 w_seed w_entries, aJ cJ (w 1) 3420 z32]) rfl rfl (fun H locs hP hS => ?_)
                    refine lv_iload hx hb dX6_put_129 (lv_at hl 0 rfl) ?_
                    have er := Option.some.inj hf
                    exact rwI (wm := (fun u => [oX6 w u.2 w_seed w_entries, aJ cJ (w 1) 3420 u.1])) hx hb hr hS dX6_put_131 hP er hlocks
                · replace hf := oif c28 hf
                  refine lv_iconst (v := 4) hx hb dX6_put_96 (by decide) ?_
                  refine lv_goto (tgt := 102) hx hb dX6_put_97 (by decide) ?_
                  refine lv_istore (lv' := [(5, .int 4), (4, .int y6), (0, .ref (w 0)), (1, .int x1), (2, .int x2), (3, .int x3)]) hx hb dX6_put_102 hl (by decide) rfl (fun ls hl => ?_)
                  refine lv_iload hx hb dX6_put_104 (lv_at hl 0 rfl) ?_
                  refine lv_if_ne (tgt := 129) hx hb dX6_put_106 (by decide) (fun _ => ?_) (fun h9 => absurd h9 (by decide))
                  refine lv_iload hx hb dX6_put_129 (lv_at hl 0 rfl) ?_
                  have er := Option.some.inj hf
                  exact rwI (wm := (fun u => [oX6 w u.2 w_seed w_entries, aJ cJ (w 1) 3420 u.1])) hx hb hr hS dX6_put_131 hP er hlocks
        · replace hf := oif c7 hf
          refine lv_iload hx hb dX6_put_39 (lv_at hl 0 rfl) ?_
          refine lv_bipush (v := 7) hx hb dX6_put_41 (by decide) ?_
          refine lv_icmp_le (tgt := 49) hx hb dX6_put_43 (by decide) (fun c34 => ?_) (fun c34 => ?_)
          · replace hf := oif c34 hf
            refine lv_aload_n hx hb dX6_put_49 rfl (lv_at hl 1 rfl) ?_
            refine lv_iload_n hx hb dX6_put_50 rfl (lv_at hl 2 rfl) ?_
            refine lv_iload_n hx hb dX6_put_51 rfl (lv_at hl 3 rfl) ?_
            refine lv_i2l (v := (Int32.toInt64 x2)) hx hb dX6_put_52 rfl ?_
            obtain ⟨z35, hz35, hf⟩ := obd hf
            refine kI (runV (As := [.int x1, .long (Int32.toInt64 x2)]) (rest := []) C0 hE hAb hP ((hD.weaken (fun _ _ _ h9 => hAb _ h9)).addr rfl) hS [0, 1] (wc := [oX6 w w_undos w_seed w_entries, aJ cJ (w 1) 3420 w_w]) (by decide) rfl 0 rfl rfl (c_X6_lacks l D cI cJ cZ cQ bs H.size w w_undos w_seed w_entries w_w x1 (Int32.toInt64 x2) z35 hz35) (cwV 2 hts gX6_put_X6_lacks rfl rfl rfl (by decide +kernel) ⟨Nat.le_of_ble_eq_true rfl, Nat.le_of_ble_eq_true rfl⟩) rfl hl.1 rfl (Nat.le_of_ble_eq_true rfl) dX6_put_53 ⟨Nat.le_of_ble_eq_true rfl, Nat.le_of_ble_eq_true rfl⟩) hS hP (fun H locs hP hS => ?_)
            refine lv_istore (lv' := [(5, .int z35), (4, .int y6), (0, .ref (w 0)), (1, .int x1), (2, .int x2), (3, .int x3)]) hx hb dX6_put_56 hl (by decide) rfl (fun ls hl => ?_)
            refine lv_iload hx hb dX6_put_58 (lv_at hl 0 rfl) ?_
            refine lv_if_ne (tgt := 100) hx hb dX6_put_60 (by decide) (fun c36 => ?_) (fun c36 => ?_)
            · replace hf := oel c36 hf
              refine lv_iload hx hb dX6_put_100 (lv_at hl 0 rfl) ?_
              refine lv_istore (lv' := [(5, .int z35), (4, .int y6), (0, .ref (w 0)), (1, .int x1), (2, .int x2), (3, .int x3)]) hx hb dX6_put_102 hl (by decide) rfl (fun ls hl => ?_)
              refine lv_iload hx hb dX6_put_104 (lv_at hl 0 rfl) ?_
              refine lv_if_ne (tgt := 129) hx hb dX6_put_106 (by decide) (fun c37 => ?_) (fun c37 => ?_)
              · replace hf := oel c37 hf
                refine lv_iload hx hb dX6_put_129 (lv_at hl 0 rfl) ?_
                have er := Option.some.inj hf
                exact rwI (wm := (fun u => [oX6 w u.2 w_seed w_entries, aJ cJ (w 1) 3420 u.1])) hx hb hr hS dX6_put_131 hP er hlocks
              · replace hf := oif c37 hf
                refine lv_aload_n hx hb dX6_put_109 rfl (lv_at hl 2 rfl) ?_
                obtain ⟨z38, hz38, hf⟩ := obd hf
                refine kwV (runV (As := []) (rest := []) C0 hE hAb hP ((hD.weaken (fun _ _ _ h9 => hAb _ h9)).addr rfl) hS [0, 1] (wc := [oX6 w w_undos w_seed w_entries, aJ cJ (w 1) 3420 w_w]) (by decide) rfl 0 rfl rfl (c_X6_minds l D cI cJ cZ cQ bs H.size w w_undos w_seed w_entries w_w z38 hz38) (cwV 0 hts gX6_put_X6_minds rfl rfl rfl (by decide +kernel) ⟨Nat.le_of_ble_eq_true rfl, Nat.le_of_ble_eq_true rfl⟩) rfl hl.1 rfl (Nat.le_of_ble_eq_true rfl) dX6_put_110 ⟨Nat.le_of_ble_eq_true rfl, Nat.le_of_ble_eq_true rfl⟩) hS hP (hD.addr rfl) hA [0, 1] rfl rfl (ws' := [oX6 w z38.2 w_seed w_entries, aJ cJ (w 1) 3420 z38.1]) rfl rfl (fun H locs hP hS => ?_)
                refine lv_aload_n hx hb dX6_put_113 rfl (lv_at hl 2 rfl) ?_
                refine lv_iload_n hx hb dX6_put_114 rfl (lv_at hl 3 rfl) ?_
                refine lv_iload_n hx hb dX6_put_115 rfl (lv_at hl 4 rfl) ?_
                refine lv_iload hx hb dX6_put_116 (lv_at hl 1 rfl) ?_
                refine lv_aload_n hx hb dX6_put_118 rfl (lv_at hl 2 rfl) ?_
                refine va_get (D := D) (ci := 6) (v := .ref (w 1)) (C := RX6) (T := TX6) (N := 12) hx hb hts hI_X6 hown hK hP 0 rfl rfl 0 (by decide) gf7 (fun _ h9 => h9) rfl dX6_put_119 ?_
                refine lv_sipush (v := 171) hx hb dX6_put_122 (by decide) ?_
                refine va_lald hx hb hK hP 1 1 rfl rfl (ib_in (by decide)) dX6_put_125 ?_
                obtain ⟨z40, hz40, hf⟩ := obd hf
                refine kwV (runV (As := [.int x1, .int x2, .int y6, .long (z38.1 (Int32.toNatClampNeg 171))]) (rest := []) C0 hE hAb hP ((hD.weaken (fun _ _ _ h9 => hAb _ h9)).addr rfl) hS [0, 1] (wc := [oX6 w z38.2 w_seed w_entries, aJ cJ (w 1) 3420 z38.1]) (by decide) rfl 0 rfl rfl (c_X6_sets l D cI cJ cZ cQ bs H.size w z38.2 w_seed w_entries z38.1 x1 x2 y6 (z38.1 (Int32.toNatClampNeg 171)) z40 hz40) (cwV 4 hts gX6_put_X6_sets rfl rfl rfl (by decide +kernel) ⟨Nat.le_of_ble_eq_true rfl, Nat.le_of_ble_eq_true rfl⟩) rfl hl.1 rfl (Nat.le_of_ble_eq_true rfl) dX6_put_126 ⟨Nat.le_of_ble_eq_true rfl, Nat.le_of_ble_eq_true rfl⟩) hS hP (hD.addr rfl) hA [0, 1] rfl rfl (ws' := [oX6 w z38.2 w_seed w_entries, aJ cJ (w 1) 3420 z40]) rfl rfl (fun H locs hP hS => ?_)
                refine lv_iload hx hb dX6_put_129 (lv_at hl 0 rfl) ?_
                have er := Option.some.inj hf
                exact rwI (wm := (fun u => [oX6 w u.2 w_seed w_entries, aJ cJ (w 1) 3420 u.1])) hx hb hr hS dX6_put_131 hP er hlocks
            · replace hf := oif c36 hf
              refine lv_iload_n hx hb dX6_put_63 rfl (lv_at hl 5 rfl) ?_
              refine lv_iconst (v := 1) hx hb dX6_put_64 (by decide) ?_
              refine lv_icmp_ne (tgt := 78) hx hb dX6_put_65 (by decide) (fun c41 => ?_) (fun c41 => ?_)
              · replace hf := oel c41 hf
                refine lv_aload_n hx hb dX6_put_78 rfl (lv_at hl 2 rfl) ?_
                refine lv_iload_n hx hb dX6_put_79 rfl (lv_at hl 3 rfl) ?_
                refine lv_iload hx hb dX6_put_80 (lv_at hl 1 rfl) ?_
                refine lv_aload_n hx hb dX6_put_82 rfl (lv_at hl 2 rfl) ?_
                refine va_get (D := D) (ci := 6) (v := .ref (w 1)) (C := RX6) (T := TX6) (N := 12) hx hb hts hI_X6 hown hK hP 0 rfl rfl 0 (by decide) gf7 (fun _ h9 => h9) rfl dX6_put_83 ?_
                refine lv_sipush (v := 171) hx hb dX6_put_86 (by decide) ?_
                refine va_lald hx hb hK hP 1 1 rfl rfl (ib_in (by decide)) dX6_put_89 ?_
                obtain ⟨z43, hz43, hf⟩ := obd hf
                refine kZ (runV (As := [.int x1, .int y6, .long (w_w (Int32.toNatClampNeg 171))]) (rest := []) C0 hE hAb hP ((hD.weaken (fun _ _ _ h9 => hAb _ h9)).addr rfl) hS [0, 1] (wc := [oX6 w w_undos w_seed w_entries, aJ cJ (w 1) 3420 w_w]) (by decide) rfl 0 rfl rfl (c_X6_takes l D cI cJ cZ cQ bs H.size w w_undos w_seed w_entries w_w x1 y6 (w_w (Int32.toNatClampNeg 171)) z43 hz43) (cwV 3 hts gX6_put_X6_takes rfl rfl rfl (by decide +kernel) ⟨Nat.le_of_ble_eq_true rfl, Nat.le_of_ble_eq_true rfl⟩) rfl hl.1 rfl (Nat.le_of_ble_eq_true rfl) dX6_put_90 ⟨Nat.le_of_ble_eq_true rfl, Nat.le_of_ble_eq_true rfl⟩) hS hP (fun bz43 H locs hP hS => ?_)
                refine lv_if_ne (tgt := 100) hx hb dX6_put_93 (by decide) (fun c44 => ?_) (fun c44 => ?_)
                · replace hf := oel c44 hf
                  refine lv_iload hx hb dX6_put_100 (lv_at hl 0 rfl) ?_
                  refine lv_istore (lv' := [(5, .int z35), (4, .int y6), (0, .ref (w 0)), (1, .int x1), (2, .int x2), (3, .int x3)]) hx hb dX6_put_102 hl (by decide) rfl (fun ls hl => ?_)
                  refine lv_iload hx hb dX6_put_104 (lv_at hl 0 rfl) ?_
                  refine lv_if_ne (tgt := 129) hx hb dX6_put_106 (by decide) (fun c45 => ?_) (fun c45 => ?_)
                  · replace hf := oel c45 hf
                    refine lv_iload hx hb dX6_put_129 (lv_at hl 0 rfl) ?_
                    have er := Option.some.inj hf
                    exact rwI (wm := (fun u => [oX6 w u.2 w_seed w_entries, aJ cJ (w 1) 3420 u.1])) hx hb hr hS dX6_put_131 hP er hlocks
                  · replace hf := oif c45 hf
                    refine lv_aload_n hx hb dX6_put_109 rfl (lv_at hl 2 rfl) ?_
                    obtain ⟨z46, hz46, hf⟩ := obd hf
                    refine kwV (runV (As := []) (rest := []) C0 hE hAb hP ((hD.weaken (fun _ _ _ h9 => hAb _ h9)).addr rfl) hS [0, 1] (wc := [oX6 w w_undos w_seed w_entries, aJ cJ (w 1) 3420 w_w]) (by decide) rfl 0 rfl rfl (c_X6_minds l D cI cJ cZ cQ bs H.size w w_undos w_seed w_entries w_w z46 hz46) (cwV 0 hts gX6_put_X6_minds rfl rfl rfl (by decide +kernel) ⟨Nat.le_of_ble_eq_true rfl, Nat.le_of_ble_eq_true rfl⟩) rfl hl.1 rfl (Nat.le_of_ble_eq_true rfl) dX6_put_110 ⟨Nat.le_of_ble_eq_true rfl, Nat.le_of_ble_eq_true rfl⟩) hS hP (hD.addr rfl) hA [0, 1] rfl rfl (ws' := [oX6 w z46.2 w_seed w_entries, aJ cJ (w 1) 3420 z46.1]) rfl rfl (fun H locs hP hS => ?_)
                    refine lv_aload_n hx hb dX6_put_113 rfl (lv_at hl 2 rfl) ?_
                    refine lv_iload_n hx hb dX6_put_114 rfl (lv_at hl 3 rfl) ?_
                    refine lv_iload_n hx hb dX6_put_115 rfl (lv_at hl 4 rfl) ?_
                    refine lv_iload hx hb dX6_put_116 (lv_at hl 1 rfl) ?_
                    refine lv_aload_n hx hb dX6_put_118 rfl (lv_at hl 2 rfl) ?_
                    refine va_get (D := D) (ci := 6) (v := .ref (w 1)) (C := RX6) (T := TX6) (N := 12) hx hb hts hI_X6 hown hK hP 0 rfl rfl 0 (by decide) gf7 (fun _ h9 => h9) rfl dX6_put_119 ?_
                    refine lv_sipush (v := 171) hx hb dX6_put_122 (by decide) ?_
                    refine va_lald hx hb hK hP 1 1 rfl rfl (ib_in (by decide)) dX6_put_125 ?_
                    obtain ⟨z48, hz48, hf⟩ := obd hf
                    refine kwV (runV (As := [.int x1, .int x2, .int y6, .long (z46.1 (Int32.toNatClampNeg 171))]) (rest := []) C0 hE hAb hP ((hD.weaken (fun _ _ _ h9 => hAb _ h9)).addr rfl) hS [0, 1] (wc := [oX6 w z46.2 w_seed w_entries, aJ cJ (w 1) 3420 z46.1]) (by decide) rfl 0 rfl rfl (c_X6_sets l D cI cJ cZ cQ bs H.size w z46.2 w_seed w_entries z46.1 x1 x2 y6 (z46.1 (Int32.toNatClampNeg 171)) z48 hz48) (cwV 4 hts gX6_put_X6_sets rfl rfl rfl (by decide +kernel) ⟨Nat.le_of_ble_eq_true rfl, Nat.le_of_ble_eq_true rfl⟩) rfl hl.1 rfl (Nat.le_of_ble_eq_true rfl) dX6_put_126 ⟨Nat.le_of_ble_eq_true rfl, Nat.le_of_ble_eq_true rfl⟩) hS hP (hD.addr rfl) hA [0, 1] rfl rfl (ws' := [oX6 w z46.2 w_seed w_entries, aJ cJ (w 1) 3420 z48]) rfl rfl (fun H locs hP hS => ?_)
                    refine lv_iload hx hb dX6_put_129 (lv_at hl 0 rfl) ?_
                    have er := Option.some.inj hf
                    exact rwI (wm := (fun u => [oX6 w u.2 w_seed w_entries, aJ cJ (w 1) 3420 u.1])) hx hb hr hS dX6_put_131 hP er hlocks
                · replace hf := oif c44 hf
                  refine lv_iconst (v := 4) hx hb dX6_put_96 (by decide) ?_
                  refine lv_goto (tgt := 102) hx hb dX6_put_97 (by decide) ?_
                  refine lv_istore (lv' := [(5, .int 4), (4, .int y6), (0, .ref (w 0)), (1, .int x1), (2, .int x2), (3, .int x3)]) hx hb dX6_put_102 hl (by decide) rfl (fun ls hl => ?_)
                  refine lv_iload hx hb dX6_put_104 (lv_at hl 0 rfl) ?_
                  refine lv_if_ne (tgt := 129) hx hb dX6_put_106 (by decide) (fun _ => ?_) (fun h9 => absurd h9 (by decide))
                  refine lv_iload hx hb dX6_put_129 (lv_at hl 0 rfl) ?_
                  have er := Option.some.inj hf
                  exact rwI (wm := (fun u => [oX6 w u.2 w_seed w_entries, aJ cJ (w 1) 3420 u.1])) hx hb hr hS dX6_put_131 hP er hlocks
              · replace hf := oif c41 hf
                refine lv_aload_n hx hb dX6_put_68 rfl (lv_at hl 2 rfl) ?_
                refine lv_iload_n hx hb dX6_put_69 rfl (lv_at hl 3 rfl) ?_
                obtain ⟨z50, hz50, hf⟩ := obd hf
                refine kI (runV (As := [.int x1]) (rest := []) C0 hE hAb hP ((hD.weaken (fun _ _ _ h9 => hAb _ h9)).addr rfl) hS [0, 1] (wc := [oX6 w w_undos w_seed w_entries, aJ cJ (w 1) 3420 w_w]) (by decide) rfl 0 rfl rfl (c_X6_kind l D cI cJ cZ cQ bs H.size w w_undos w_seed w_entries w_w x1 z50 hz50) (cwV 1 hts gX6_put_X6_kind rfl rfl rfl (by decide +kernel) ⟨Nat.le_of_ble_eq_true rfl, Nat.le_of_ble_eq_true rfl⟩) rfl hl.1 rfl (Nat.le_of_ble_eq_true rfl) dX6_put_70 ⟨Nat.le_of_ble_eq_true rfl, Nat.le_of_ble_eq_true rfl⟩) hS hP (fun H locs hP hS => ?_)
                refine lv_bipush (v := 7) hx hb dX6_put_73 (by decide) ?_
                refine lv_icmp_gt (tgt := 96) hx hb dX6_put_75 (by decide) (fun c51 => ?_) (fun c51 => ?_)
                · replace hf := oif c51 hf
                  refine lv_iconst (v := 4) hx hb dX6_put_96 (by decide) ?_
                  refine lv_goto (tgt := 102) hx hb dX6_put_97 (by decide) ?_
                  refine lv_istore (lv' := [(5, .int 4), (4, .int y6), (0, .ref (w 0)), (1, .int x1), (2, .int x2), (3, .int x3)]) hx hb dX6_put_102 hl (by decide) rfl (fun ls hl => ?_)
                  refine lv_iload hx hb dX6_put_104 (lv_at hl 0 rfl) ?_
                  refine lv_if_ne (tgt := 129) hx hb dX6_put_106 (by decide) (fun _ => ?_) (fun h9 => absurd h9 (by decide))
                  refine lv_iload hx hb dX6_put_129 (lv_at hl 0 rfl) ?_
                  have er := Option.some.inj hf
                  exact rwI (wm := (fun u => [oX6 w u.2 w_seed w_entries, aJ cJ (w 1) 3420 u.1])) hx hb hr hS dX6_put_131 hP er hlocks
                · replace hf := oel c51 hf
                  refine lv_aload_n hx hb dX6_put_78 rfl (lv_at hl 2 rfl) ?_
                  refine lv_iload_n hx hb dX6_put_79 rfl (lv_at hl 3 rfl) ?_
                  refine lv_iload hx hb dX6_put_80 (lv_at hl 1 rfl) ?_
                  refine lv_aload_n hx hb dX6_put_82 rfl (lv_at hl 2 rfl) ?_
                  refine va_get (D := D) (ci := 6) (v := .ref (w 1)) (C := RX6) (T := TX6) (N := 12) hx hb hts hI_X6 hown hK hP 0 rfl rfl 0 (by decide) gf7 (fun _ h9 => h9) rfl dX6_put_83 ?_
                  refine lv_sipush (v := 171) hx hb dX6_put_86 (by decide) ?_
                  refine va_lald hx hb hK hP 1 1 rfl rfl (ib_in (by decide)) dX6_put_89 ?_
                  obtain ⟨z54, hz54, hf⟩ := obd hf
                  refine kZ (runV (As := [.int x1, .int y6, .long (w_w (Int32.toNatClampNeg 171))]) (rest := []) C0 hE hAb hP ((hD.weaken (fun _ _ _ h9 => hAb _ h9)).addr rfl) hS [0, 1] (wc := [oX6 w w_undos w_seed w_entries, aJ cJ (w 1) 3420 w_w]) (by decide) rfl 0 rfl rfl (c_X6_takes l D cI cJ cZ cQ bs H.size w w_undos w_seed w_entries w_w x1 y6 (w_w (Int32.toNatClampNeg 171)) z54 hz54) (cwV 3 hts gX6_put_X6_takes rfl rfl rfl (by decide +kernel) ⟨Nat.le_of_ble_eq_true rfl, Nat.le_of_ble_eq_true rfl⟩) rfl hl.1 rfl (Nat.le_of_ble_eq_true rfl) dX6_put_90 ⟨Nat.le_of_ble_eq_true rfl, Nat.le_of_ble_eq_true rfl⟩) hS hP (fun bz54 H locs hP hS => ?_)
                  refine lv_if_ne (tgt := 100) hx hb dX6_put_93 (by decide) (fun c55 => ?_) (fun c55 => ?_)
                  · replace hf := oel c55 hf
                    refine lv_iload hx hb dX6_put_100 (lv_at hl 0 rfl) ?_
                    refine lv_istore (lv' := [(5, .int z35), (4, .int y6), (0, .ref (w 0)), (1, .int x1), (2, .int x2), (3, .int x3)]) hx hb dX6_put_102 hl (by decide) rfl (fun ls hl => ?_)
                    refine lv_iload hx hb dX6_put_104 (lv_at hl 0 rfl) ?_
                    refine lv_if_ne (tgt := 129) hx hb dX6_put_106 (by decide) (fun c56 => ?_) (fun c56 => ?_)
                    · replace hf := oel c56 hf
                      refine lv_iload hx hb dX6_put_129 (lv_at hl 0 rfl) ?_
                      have er := Option.some.inj hf
                      exact rwI (wm := (fun u => [oX6 w u.2 w_seed w_entries, aJ cJ (w 1) 3420 u.1])) hx hb hr hS dX6_put_131 hP er hlocks
                    · replace hf := oif c56 hf
                      refine lv_aload_n hx hb dX6_put_109 rfl (lv_at hl 2 rfl) ?_
                      obtain ⟨z57, hz57, hf⟩ := obd hf
                      refine kwV (runV (As := []) (rest := []) C0 hE hAb hP ((hD.weaken (fun _ _ _ h9 => hAb _ h9)).addr rfl) hS [0, 1] (wc := [oX6 w w_undos w_seed w_entries, aJ cJ (w 1) 3420 w_w]) (by decide) rfl 0 rfl rfl (c_X6_minds l D cI cJ cZ cQ bs H.size w w_undos w_seed w_entries w_w z57 hz57) (cwV 0 hts gX6_put_X6_minds rfl rfl rfl (by decide +kernel) ⟨Nat.le_of_ble_eq_true rfl, Nat.le_of_ble_eq_true rfl⟩) rfl hl.1 rfl (Nat.le_of_ble_eq_true rfl) dX6_put_110 ⟨Nat.le_of_ble_eq_true rfl, Nat.le_of_ble_eq_true rfl⟩) hS hP (hD.addr rfl) hA [0, 1] rfl rfl (ws' := [oX6 w z57.2 w_seed w_entries, aJ cJ (w 1) 3420 z57.1]) rfl rfl (fun H locs hP hS => ?_)
                      refine lv_aload_n hx hb dX6_put_113 rfl (lv_at hl 2 rfl) ?_
                      refine lv_iload_n hx hb dX6_put_114 rfl (lv_at hl 3 rfl) ?_
                      refine lv_iload_n hx hb dX6_put_115 rfl (lv_at hl 4 rfl) ?_
                      refine lv_iload hx hb dX6_put_116 (lv_at hl 1 rfl) ?_
                      refine lv_aload_n hx hb dX6_put_118 rfl (lv_at hl 2 rfl) ?_
                      refine va_get (D := D) (ci := 6) (v := .ref (w 1)) (C := RX6) (T := TX6) (N := 12) hx hb hts hI_X6 hown hK hP 0 rfl rfl 0 (by decide) gf7 (fun _ h9 => h9) rfl dX6_put_119 ?_
                      refine lv_sipush (v := 171) hx hb dX6_put_122 (by decide) ?_
                      refine va_lald hx hb hK hP 1 1 rfl rfl (ib_in (by decide)) dX6_put_125 ?_
                      obtain ⟨z59, hz59, hf⟩ := obd hf
                      refine kwV (runV (As := [.int x1, .int x2, .int y6, .long (z57.1 (Int32.toNatClampNeg 171))]) (rest := []) C0 hE hAb hP ((hD.weaken (fun _ _ _ h9 => hAb _ h9)).addr rfl) hS [0, 1] (wc := [oX6 w z57.2 w_seed w_entries, aJ cJ (w 1) 3420 z57.1]) (by decide) rfl 0 rfl rfl (c_X6_sets l D cI cJ cZ cQ bs H.size w z57.2 w_seed w_entries z57.1 x1 x2 y6 (z57.1 (Int32.toNatClampNeg 171)) z59 hz59) (cwV 4 hts gX6_put_X6_sets rfl rfl rfl (by decide +kernel) ⟨Nat.le_of_ble_eq_true rfl, Nat.le_of_ble_eq_true rfl⟩) rfl hl.1 rfl (Nat.le_of_ble_eq_true rfl) dX6_put_126 ⟨Nat.le_of_ble_eq_true rfl, Nat.le_of_ble_eq_true rfl⟩) hS hP (hD.addr rfl) hA [0, 1] rfl rfl (ws' := [oX6 w z57.2 w_seed w_entries, aJ cJ (w 1) 3420 z59]) rfl rfl (fun H locs hP hS => ?_)
                      refine lv_iload hx hb dX6_put_129 (lv_at hl 0 rfl) ?_
                      have er := Option.some.inj hf
                      exact rwI (wm := (fun u => [oX6 w u.2 w_seed w_entries, aJ cJ (w 1) 3420 u.1])) hx hb hr hS dX6_put_131 hP er hlocks
                  · replace hf := oif c55 hf
                    refine lv_iconst (v := 4) hx hb dX6_put_96 (by decide) ?_
                    refine lv_goto (tgt := 102) hx hb dX6_put_97 (by decide) ?_
                    refine lv_istore (lv' := [(5, .int 4), (4, .int y6), (0, .ref (w 0)), (1, .int x1), (2, .int x2), (3, .int x3)]) hx hb dX6_put_102 hl (by decide) rfl (fun ls hl => ?_)
                    refine lv_iload hx hb dX6_put_104 (lv_at hl 0 rfl) ?_
                    refine lv_if_ne (tgt := 129) hx hb dX6_put_106 (by decide) (fun _ => ?_) (fun h9 => absurd h9 (by decide))
                    refine lv_iload hx hb dX6_put_129 (lv_at hl 0 rfl) ?_
                    have er := Option.some.inj hf
                    exact rwI (wm := (fun u => [oX6 w u.2 w_seed w_entries, aJ cJ (w 1) 3420 u.1])) hx hb hr hS dX6_put_131 hP er hlocks
          · replace hf := oel c34 hf
            refine lv_ldc hx hb hown gk246 dX6_put_46 ?_
            have er := Option.some.inj hf
            exact rwI (wm := (fun u => [oX6 w u.2 w_seed w_entries, aJ cJ (w 1) 3420 u.1])) hx hb hr hS dX6_put_48 hP er hlocks
      · replace hf := oif c4 hf
        refine lv_ldc hx hb hown gk192 dX6_put_20 ?_
        have er := Option.some.inj hf
        exact rwI (wm := (fun u => [oX6 w u.2 w_seed w_entries, aJ cJ (w 1) 3420 u.1])) hx hb hr hS dX6_put_22 hP er hlocks
    · replace hf := oif c2 hf
      refine lv_ldc hx hb hown gk198 dX6_put_7 ?_
      have er := Option.some.inj hf
      exact rwI (wm := (fun u => [oX6 w u.2 w_seed w_entries, aJ cJ (w 1) 3420 u.1])) hx hb hr hS dX6_put_9 hP er hlocks
  exact go s.heap [] hP hS
