noncomputable def f_X6_sets (w_w : Nat → Int64) (x1 : Int32) (x2 : Int32) (x3 : Int32) (x4 : Int64) : Option ((Nat → Int64)) := (f_X6_kind w_w x1).bind (fun z1 => if 7 < z1 then ((f_X6_at x1 x2).bind (fun z3 => if ib ((12 : Int32) + z3) 3420 = true then ((some (vp_updL w_w ((12 : Int32) + z3).toNatClampNeg (Int32.toInt64 x3) : Nat → Int64)).bind (fun h5a => (f_X6_at x1 x2).bind (fun z6 => if ib ((84 : Int32) + z6) 3420 = true then ((some (vp_updL h5a ((84 : Int32) + z6).toNatClampNeg x4 : Nat → Int64)).bind (fun h8a => some (h8a))) else none))) else none)) else ((f_X6_at x1 x2).bind (fun z9 => (f_X6_kind w_w x1).bind (fun z11 => if ib ((12 : Int32) + z9) 3420 = true then ((some (vp_updL w_w ((12 : Int32) + z9).toNatClampNeg (Int32.toInt64 z11) : Nat → Int64)).bind (fun h12a => (f_X6_at x1 x2).bind (fun z13 => (f_X6_kind h12a x1).bind (fun z15 => (f_X6_gone x4 z15).bind (fun z16 => if ib ((84 : Int32) + z13) 3420 = true then ((some (vp_updL h12a ((84 : Int32) + z13).toNatClampNeg z16 : Nat → Int64)).bind (fun h17a => some (h17a))) else none))))) else none))))
set_option maxHeartbeats 4000000 in
set_option maxRecDepth 100000 in
theorem c_X6_sets (l : Launch) (D : va_G) (cI cJ cZ cQ : ClassId) (bs sz : Nat) (w : Nat → Nat) (w_undos : Int32) (w_seed : Int32) (w_entries : Int32) (w_w : Nat → Int64) (x1 : Int32) (x2 : Int32) (x3 : Int32) (x4 : Int64) (zr : (Nat → Int64)) (hf : f_X6_sets w_w x1 x2 x3 x4 = some zr) : Met l yX6_sets wsX6_sets { frames := 2, cells := 0, slots := 0, locals := 56 } (va_Pc [.ref (w 0), .int x1, .int x2, .int x3, .long x4] (Pr D cI cJ cZ cQ bs sz [oX6 w w_undos w_seed w_entries, aJ cJ (w 1) 3420 w_w])) (QwV D zr (fun u => [oX6 w w_undos w_seed w_entries, aJ cJ (w 1) 3420 u]) (va_A [oX6 w w_undos w_seed w_entries, aJ cJ (w 1) 3420 w_w] sz)) 0 0 (va_A [oX6 w w_undos w_seed w_entries, aJ cJ (w 1) 3420 w_w] sz) := by
  refine stW (cc := cX6_sets) (maxL := 7) (ret := none) (Qf := fun A => (QwV D zr (fun u => [oX6 w w_undos w_seed w_entries, aJ cJ (w 1) 3420 u]) A)) (by decide +kernel) rfl (Nat.le_of_ble_eq_true rfl) ?_
  intro p e s m args below meth c A C0 hr hlocks hname hsz hP hD hA hAb hE ls hl
  obtain ⟨hx, hb, hml, hown, hts⟩ := id C0
  have hown : s.vm.findClass RX6 = some m.cls := hown
  obtain ⟨hK, hNW, -, tw, hZ, hT⟩ := id hE
  have hl : lv_has ls 7 [(0, .ref (w 0)), (1, .int x1), (2, .int x2), (3, .int x3), (4, .long x4)] := hl
  have hS : va_S A s.heap s.heap [] := va_S.rf
  have hI_X6 := (show ∀ w ∈ wsX60, w ∈ wsX6_sets by decide +kernel)
  have gf7 := hts (.fieldLink RX6 7 "RowRanksModel" "w" "[J") (by decide +kernel)
  unfold f_X6_sets at hf
  have go : ∀ (H : Heap) (locs : List Loc), va_P D vwCl [oX6 w w_undos w_seed w_entries, aJ cJ (w 1) 3420 w_w] H → va_S A s.heap H locs → W p l e { frames := 2, cells := 0, slots := 0, locals := 56 } s m args below meth c H locs 0 0 (MQ below (QwV D zr (fun u => [oX6 w w_undos w_seed w_entries, aJ cJ (w 1) 3420 u]) A) args s 0 0 A) (F0 m 0 ls []) := by
    intro H locs hP hS
    refine lv_aload_n hx hb dX6_sets_0 rfl (lv_at hl 0 rfl) ?_
    refine lv_iload_n hx hb dX6_sets_1 rfl (lv_at hl 1 rfl) ?_
    obtain ⟨z1, hz1, hf⟩ := obd hf
    refine kI (runV (As := [.int x1]) (rest := []) C0 hE hAb hP ((hD.weaken (fun _ _ _ h9 => hAb _ h9)).addr rfl) hS [0, 1] (wc := [oX6 w w_undos w_seed w_entries, aJ cJ (w 1) 3420 w_w]) (by decide) rfl 0 rfl rfl (c_X6_kind l D cI cJ cZ cQ bs H.size w w_undos w_seed w_entries w_w x1 z1 hz1) (cwV 1 hts gX6_sets_X6_kind rfl rfl rfl (by decide +kernel) ⟨Nat.le_of_ble_eq_true rfl, Nat.le_of_ble_eq_true rfl⟩) rfl hl.1 rfl (Nat.le_of_ble_eq_true rfl) dX6_sets_2 ⟨Nat.le_of_ble_eq_true rfl, Nat.le_of_ble_eq_true rfl⟩) hS hP (fun H locs hP hS => ?_)
    refine lv_bipush (v := 7) hx hb dX6_sets_5 (by decide) ?_
    refine lv_icmp_gt (tgt := 14) hx hb dX6_sets_7 (by decide) (fun c2 => ?_) (fun c2 => ?_)
    · replace hf := oif c2 hf
      refine lv_iconst (v := 0) hx hb dX6_sets_14 (by decide) ?_
      refine lv_istore (lv' := [(6, .int 0), (0, .ref (w 0)), (1, .int x1), (2, .int x2), (3, .int x3), (4, .long x4)]) hx hb dX6_sets_15 hl (by decide) rfl (fun ls hl => ?_)
      refine lv_aload_n hx hb dX6_sets_17 rfl (lv_at hl 1 rfl) ?_
      refine va_get (D := D) (ci := 6) (v := .ref (w 1)) (C := RX6) (T := TX6) (N := 12) hx hb hts hI_X6 hown hK hP 0 rfl rfl 0 (by decide) gf7 (fun _ h9 => h9) rfl dX6_sets_18 ?_
      refine lv_bipush (v := 12) hx hb dX6_sets_21 (by decide) ?_
      refine lv_iload_n hx hb dX6_sets_23 rfl (lv_at hl 2 rfl) ?_
      refine lv_iload_n hx hb dX6_sets_24 rfl (lv_at hl 3 rfl) ?_
      obtain ⟨z3, hz3, hf⟩ := obd hf
      refine kI (runS (As := [.int x1, .int x2]) (rest := [.int 12, .ref (w 1)]) C0 hE hAb hP ((hD.weaken (fun _ _ _ h9 => hAb _ h9)).addr rfl) hS [] (wc := []) (by decide) rfl (c_X6_at l D cI cJ cZ cQ bs H.size x1 x2 z3 hz3) (va_cwS 2 hts gX6_sets_X6_at rfl rfl rfl (by decide +kernel) ⟨Nat.le_of_ble_eq_true rfl, Nat.le_of_ble_eq_true rfl⟩) rfl hl.1 rfl (Nat.le_of_ble_eq_true rfl) dX6_sets_25 ⟨Nat.le_of_ble_eq_true rfl, Nat.le_of_ble_eq_true rfl⟩) hS hP (fun H locs hP hS => ?_)
      refine lv_iadd hx hb dX6_sets_28 ?_
      refine lv_iload hx hb dX6_sets_29 (lv_at hl 0 rfl) ?_
      refine lv_if_eq (tgt := 43) hx hb dX6_sets_31 (by decide) (fun _ => ?_) (fun h9 => absurd (by decide) h9)
      refine lv_iload_n hx hb dX6_sets_43 rfl (lv_at hl 4 rfl) ?_
      refine lv_i2l (v := (Int32.toInt64 x3)) hx hb dX6_sets_44 rfl ?_
      obtain ⟨h5, hf⟩ := ogd hf
      refine va_last hx hb hK hP (hD.addr rfl) hS 1 1 rfl rfl (ib_in h5) dX6_sets_45 (fun H locs hP _ hS => ?_)
      obtain ⟨h5a, eh5a⟩ : ∃ y : Nat → Int64, y = vp_updL w_w ((12 : Int32) + z3).toNatClampNeg (Int32.toInt64 x3) := ⟨_, rfl⟩
      replace hf := onm eh5a hf
      have hP : va_P D vwCl [oX6 w w_undos w_seed w_entries, aJ cJ (w 1) 3420 h5a] H := by rw [eh5a]; exact hP
      refine lv_aload_n hx hb dX6_sets_46 rfl (lv_at hl 1 rfl) ?_
      refine va_get (D := D) (ci := 6) (v := .ref (w 1)) (C := RX6) (T := TX6) (N := 12) hx hb hts hI_X6 hown hK hP 0 rfl rfl 0 (by decide) gf7 (fun _ h9 => h9) rfl dX6_sets_47 ?_
      refine lv_bipush (v := 84) hx hb dX6_sets_50 (by decide) ?_
      refine lv_iload_n hx hb dX6_sets_52 rfl (lv_at hl 2 rfl) ?_
      refine lv_iload_n hx hb dX6_sets_53 rfl (lv_at hl 3 rfl) ?_
      obtain ⟨z6, hz6, hf⟩ := obd hf
      refine kI (runS (As := [.int x1, .int x2]) (rest := [.int 84, .ref (w 1)]) C0 hE hAb hP ((hD.weaken (fun _ _ _ h9 => hAb _ h9)).addr rfl) hS [] (wc := []) (by decide) rfl (c_X6_at l D cI cJ cZ cQ bs H.size x1 x2 z6 hz6) (va_cwS 2 hts gX6_sets_X6_at rfl rfl rfl (by decide +kernel) ⟨Nat.le_of_ble_eq_true rfl, Nat.le_of_ble_eq_true rfl⟩) rfl hl.1 rfl (Nat.le_of_ble_eq_true rfl) dX6_sets_54 ⟨Nat.le_of_ble_eq_true rfl, Nat.le_of_ble_eq_true rfl⟩) hS hP (fun H locs hP hS => ?_)
      refine lv_iadd hx hb dX6_sets_57 ?_
      refine lv_iload hx hb dX6_sets_58 (lv_at hl 0 rfl) ?_
      refine lv_if_eq (tgt := 76) hx hb dX6_sets_60 (by decide) (fun _ => ?_) (fun h9 => absurd (by decide) h9)
      refine lv_lload hx hb dX6_sets_76 (lv_at hl 5 rfl) ?_
      obtain ⟨h8, hf⟩ := ogd hf
      refine va_last hx hb hK hP (hD.addr rfl) hS 1 1 rfl rfl (ib_in h8) dX6_sets_78 (fun H locs hP _ hS => ?_)
      obtain ⟨h8a, eh8a⟩ : ∃ y : Nat → Int64, y = vp_updL h5a ((84 : Int32) + z6).toNatClampNeg x4 := ⟨_, rfl⟩
      replace hf := onm eh8a hf
      have hP : va_P D vwCl [oX6 w w_undos w_seed w_entries, aJ cJ (w 1) 3420 h8a] H := by rw [eh8a]; exact hP
      have er := Option.some.inj hf
      exact rwV (wm := (fun u => [oX6 w w_undos w_seed w_entries, aJ cJ (w 1) 3420 u])) hx hb hr hS dX6_sets_79 hP er hlocks
    · replace hf := oel c2 hf
      refine lv_iconst (v := 1) hx hb dX6_sets_10 (by decide) ?_
      refine lv_goto (tgt := 15) hx hb dX6_sets_11 (by decide) ?_
      refine lv_istore (lv' := [(6, .int 1), (0, .ref (w 0)), (1, .int x1), (2, .int x2), (3, .int x3), (4, .long x4)]) hx hb dX6_sets_15 hl (by decide) rfl (fun ls hl => ?_)
      refine lv_aload_n hx hb dX6_sets_17 rfl (lv_at hl 1 rfl) ?_
      refine va_get (D := D) (ci := 6) (v := .ref (w 1)) (C := RX6) (T := TX6) (N := 12) hx hb hts hI_X6 hown hK hP 0 rfl rfl 0 (by decide) gf7 (fun _ h9 => h9) rfl dX6_sets_18 ?_
      refine lv_bipush (v := 12) hx hb dX6_sets_21 (by decide) ?_
      refine lv_iload_n hx hb dX6_sets_23 rfl (lv_at hl 2 rfl) ?_
      refine lv_iload_n hx hb dX6_sets_24 rfl (lv_at hl 3 rfl) ?_
      obtain ⟨z9, hz9, hf⟩ := obd hf
      refine kI (runS (As := [.int x1, .int x2]) (rest := [.int 12, .ref (w 1)]) C0 hE hAb hP ((hD.weaken (fun _ _ _ h9 => hAb _ h9)).addr rfl) hS [] (wc := []) (by decide) rfl (c_X6_at l D cI cJ cZ cQ bs H.size x1 x2 z9 hz9) (va_cwS 2 hts gX6_sets_X6_at rfl rfl rfl (by decide +kernel) ⟨Nat.le_of_ble_eq_true rfl, Nat.le_of_ble_eq_true rfl⟩) rfl hl.1 rfl (Nat.le_of_ble_eq_true rfl) dX6_sets_25 ⟨Nat.le_of_ble_eq_true rfl, Nat.le_of_ble_eq_true rfl⟩) hS hP (fun H locs hP hS => ?_)
      refine lv_iadd hx hb dX6_sets_28 ?_
      refine lv_iload hx hb dX6_sets_29 (lv_at hl 0 rfl) ?_
      refine lv_if_eq (tgt := 43) hx hb dX6_sets_31 (by decide) (fun h9 => absurd h9 (by decide)) (fun _ => ?_)
      refine lv_aload_n hx hb dX6_sets_34 rfl (lv_at hl 1 rfl) ?_
      refine lv_iload_n hx hb dX6_sets_35 rfl (lv_at hl 2 rfl) ?_
      obtain ⟨z11, hz11, hf⟩ := obd hf
      refine kI (runV (As := [.int x1]) (rest := [.int ((12 : Int32) + z9), .ref (w 1)]) C0 hE hAb hP ((hD.weaken (fun _ _ _ h9 => hAb _ h9)).addr rfl) hS [0, 1] (wc := [oX6 w w_undos w_seed w_entries, aJ cJ (w 1) 3420 w_w]) (by decide) rfl 0 rfl rfl (c_X6_kind l D cI cJ cZ cQ bs H.size w w_undos w_seed w_entries w_w x1 z11 hz11) (cwV 1 hts gX6_sets_X6_kind rfl rfl rfl (by decide +kernel) ⟨Nat.le_of_ble_eq_true rfl, Nat.le_of_ble_eq_true rfl⟩) rfl hl.1 rfl (Nat.le_of_ble_eq_true rfl) dX6_sets_36 ⟨Nat.le_of_ble_eq_true rfl, Nat.le_of_ble_eq_true rfl⟩) hS hP (fun H locs hP hS => ?_)
      refine lv_i2l (v := (Int32.toInt64 z11)) hx hb dX6_sets_39 rfl ?_
      refine lv_goto (tgt := 45) hx hb dX6_sets_40 (by decide) ?_
      obtain ⟨h12, hf⟩ := ogd hf
      refine va_last hx hb hK hP (hD.addr rfl) hS 1 1 rfl rfl (ib_in h12) dX6_sets_45 (fun H locs hP _ hS => ?_)
      obtain ⟨h12a, eh12a⟩ : ∃ y : Nat → Int64, y = vp_updL w_w ((12 : Int32) + z9).toNatClampNeg (Int32.toInt64 z11) := ⟨_, rfl⟩
      replace hf := onm eh12a hf
      have hP : va_P D vwCl [oX6 w w_undos w_seed w_entries, aJ cJ (w 1) 3420 h12a] H := by rw [eh12a]; exact hP
      refine lv_aload_n hx hb dX6_sets_46 rfl (lv_at hl 1 rfl) ?_
      refine va_get (D := D) (ci := 6) (v := .ref (w 1)) (C := RX6) (T := TX6) (N := 12) hx hb hts hI_X6 hown hK hP 0 rfl rfl 0 (by decide) gf7 (fun _ h9 => h9) rfl dX6_sets_47 ?_
      refine lv_bipush (v := 84) hx hb dX6_sets_50 (by decide) ?_
      refine lv_iload_n hx hb dX6_sets_52 rfl (lv_at hl 2 rfl) ?_
      refine lv_iload_n hx hb dX6_sets_53 rfl (lv_at hl 3 rfl) ?_
      obtain ⟨z13, hz13, hf⟩ := obd hf
      refine kI (runS (As := [.int x1, .int x2]) (rest := [.int 84, .ref (w 1)]) C0 hE hAb hP ((hD.weaken (fun _ _ _ h9 => hAb _ h9)).addr rfl) hS [] (wc := []) (by decide) rfl (c_X6_at l D cI cJ cZ cQ bs H.size x1 x2 z13 hz13) (va_cwS 2 hts gX6_sets_X6_at rfl rfl rfl (by decide +kernel) ⟨Nat.le_of_ble_eq_true rfl, Nat.le_of_ble_eq_true rfl⟩) rfl hl.1 rfl (Nat.le_of_ble_eq_true rfl) dX6_sets_54 ⟨Nat.le_of_ble_eq_true rfl, Nat.le_of_ble_eq_true rfl⟩) hS hP (fun H locs hP hS => ?_)
      refine lv_iadd hx hb dX6_sets_57 ?_
      refine lv_iload hx hb dX6_sets_58 (lv_at hl 0 rfl) ?_
      refine lv_if_eq (tgt := 76) hx hb dX6_sets_60 (by decide) (fun h9 => absurd h9 (by decide)) (fun _ => ?_)
      refine lv_lload hx hb dX6_sets_63 (lv_at hl 5 rfl) ?_
      refine lv_aload_n hx hb dX6_sets_65 rfl (lv_at hl 1 rfl) ?_
      refine lv_iload_n hx hb dX6_sets_66 rfl (lv_at hl 2 rfl) ?_
      obtain ⟨z15, hz15, hf⟩ := obd hf
      refine kI (runV (As := [.int x1]) (rest := [.long x4, .int ((84 : Int32) + z13), .ref (w 1)]) C0 hE hAb hP ((hD.weaken (fun _ _ _ h9 => hAb _ h9)).addr rfl) hS [0, 1] (wc := [oX6 w w_undos w_seed w_entries, aJ cJ (w 1) 3420 h12a]) (by decide) rfl 0 rfl rfl (c_X6_kind l D cI cJ cZ cQ bs H.size w w_undos w_seed w_entries h12a x1 z15 hz15) (cwV 1 hts gX6_sets_X6_kind rfl rfl rfl (by decide +kernel) ⟨Nat.le_of_ble_eq_true rfl, Nat.le_of_ble_eq_true rfl⟩) rfl hl.1 rfl (Nat.le_of_ble_eq_true rfl) dX6_sets_67 ⟨Nat.le_of_ble_eq_true rfl, Nat.le_of_ble_eq_true rfl⟩) hS hP (fun H locs hP hS => ?_)
      obtain ⟨z16, hz16, hf⟩ := obd hf
      refine kJ (runS (As := [.long x4, .int z15]) (rest := [.int ((84 : Int32) + z13), .ref (w 1)]) C0 hE hAb hP ((hD.weaken (fun _ _ _ h9 => hAb _ h9)).addr rfl) hS [] (wc := []) (by decide) rfl (c_X6_gone l D cI cJ cZ cQ bs H.size x4 z15 z16 hz16) (va_cwS 2 hts gX6_sets_X6_gone rfl rfl rfl (by decide +kernel) ⟨Nat.le_of_ble_eq_true rfl, Nat.le_of_ble_eq_true rfl⟩) rfl hl.1 rfl (Nat.le_of_ble_eq_true rfl) dX6_sets_70 ⟨Nat.le_of_ble_eq_true rfl, Nat.le_of_ble_eq_true rfl⟩) hS hP (fun H locs hP hS => ?_)
      refine lv_goto (tgt := 78) hx hb dX6_sets_73 (by decide) ?_
      obtain ⟨h17, hf⟩ := ogd hf
      refine va_last hx hb hK hP (hD.addr rfl) hS 1 1 rfl rfl (ib_in h17) dX6_sets_78 (fun H locs hP _ hS => ?_)
      obtain ⟨h17a, eh17a⟩ : ∃ y : Nat → Int64, y = vp_updL h12a ((84 : Int32) + z13).toNatClampNeg z16 := ⟨_, rfl⟩
      replace hf := onm eh17a hf
      have hP : va_P D vwCl [oX6 w w_undos w_seed w_entries, aJ cJ (w 1) 3420 h17a] H := by rw [eh17a]; exact hP
      have er := Option.some.inj hf
      exact rwV (wm := (fun u => [oX6 w w_undos w_seed w_entries, aJ cJ (w 1) 3420 u])) hx hb hr hS dX6_sets_79 hP er hlocks
  exact go s.heap [] hP hS
noncomputable def f_X6_heft (w_w : Nat → Int64) (x1 : Int64) : Option (Int64) := if 0 ≤ (lg_cmp x1 4) then (if ib ((172 : Int32) + (Int64.toInt32 x1)) 3420 = true then (some (((2 : Int64) * (w_w ((172 : Int32) + (Int64.toInt32 x1)).toNatClampNeg)))) else none) else (if ib ((172 : Int32) + (Int64.toInt32 x1)) 3420 = true then (some ((w_w ((172 : Int32) + (Int64.toInt32 x1)).toNatClampNeg))) else none)
set_option maxHeartbeats 4000000 in
set_option maxRecDepth 100000 in
theorem c_X6_heft (l : Launch) (D : va_G) (cI cJ cZ cQ : ClassId) (bs sz : Nat) (w : Nat → Nat) (w_undos : Int32) (w_seed : Int32) (w_entries : Int32) (w_w : Nat → Int64) (x1 : Int64) (zr : Int64) (hf : f_X6_heft w_w x1 = some zr) : Met l yX6_heft wsX6_heft { frames := 0, cells := 0, slots := 0, locals := 0 } (va_Pc [.ref (w 0), .long x1] (Pr D cI cJ cZ cQ bs sz [oX6 w w_undos w_seed w_entries, aJ cJ (w 1) 3420 w_w])) (QrJ zr) 0 0 no := by
  refine stM (cc := cX6_heft) (maxL := 3) (ret := (some .long)) (by decide +kernel) rfl (Nat.le_of_ble_eq_true rfl) ?_
  intro p e s m args below meth c C0 hr hlocks hname hsz hP hDb hE ls hl
  have hAb : ∀ q, no q → bs ≤ q := fun _ h => h.elim
  obtain ⟨hx, hb, hml, hown, hts⟩ := id C0
  have hown : s.vm.findClass RX6 = some m.cls := hown
  obtain ⟨hK, hNW, -, tw, hZ, hT⟩ := id hE
  have hl : lv_has ls 3 [(0, .ref (w 0)), (1, .long x1)] := hl
  have hS : va_S no s.heap s.heap [] := va_S.rf
  have gk88 := hts (.constantLong RX6 88 (4)) (by decide +kernel)
  have gk51 := hts (.constantLong RX6 51 (2)) (by decide +kernel)
  have hI_X6 := (show ∀ w ∈ wsX60, w ∈ wsX6_heft by decide +kernel)
  have gf7 := hts (.fieldLink RX6 7 "RowRanksModel" "w" "[J") (by decide +kernel)
  unfold f_X6_heft at hf
  have go : ∀ (H : Heap) (locs : List Loc), va_P D vwCl [oX6 w w_undos w_seed w_entries, aJ cJ (w 1) 3420 w_w] H → va_S no s.heap H locs → W p l e { frames := 0, cells := 0, slots := 0, locals := 0 } s m args below meth c H locs 0 0 (MQ below (QrJ zr) args s 0 0 no) (F0 m 0 ls []) := by
    intro H locs hP hS
    refine lv_lload_n hx hb dX6_heft_0 rfl (lv_at hl 1 rfl) ?_
    refine lv_ldc2 hx hb hown gk88 dX6_heft_1 ?_
    refine W.lcmp hx hb dX6_heft_4 ?_
    refine lv_if_ge (tgt := 22) hx hb dX6_heft_5 (by decide) (fun c1 => ?_) (fun c1 => ?_)
    · replace hf := oif c1 hf
      refine lv_ldc2 hx hb hown gk51 dX6_heft_22 ?_
      refine lv_aload_n hx hb dX6_heft_25 rfl (lv_at hl 0 rfl) ?_
      refine va_get (D := D) (ci := 6) (v := .ref (w 1)) (C := RX6) (T := TX6) (N := 12) hx hb hts hI_X6 hown hK hP 0 rfl rfl 0 (by decide) gf7 (fun _ h9 => h9) rfl dX6_heft_26 ?_
      refine lv_sipush (v := 172) hx hb dX6_heft_29 (by decide) ?_
      refine lv_lload_n hx hb dX6_heft_32 rfl (lv_at hl 1 rfl) ?_
      refine lv_l2i (v := (Int64.toInt32 x1)) hx hb dX6_heft_33 rfl ?_
      refine lv_iadd hx hb dX6_heft_34 ?_
      obtain ⟨h2, hf⟩ := ogd hf
      refine va_lald hx hb hK hP 1 1 rfl rfl (ib_in h2) dX6_heft_35 ?_
      refine lv_lmul hx hb dX6_heft_36 ?_
      have er := Option.some.inj hf
      exact rtJ hx hb hr hS dX6_heft_37 er hlocks
    · replace hf := oel c1 hf
      refine lv_aload_n hx hb dX6_heft_8 rfl (lv_at hl 0 rfl) ?_
      refine va_get (D := D) (ci := 6) (v := .ref (w 1)) (C := RX6) (T := TX6) (N := 12) hx hb hts hI_X6 hown hK hP 0 rfl rfl 0 (by decide) gf7 (fun _ h9 => h9) rfl dX6_heft_9 ?_
      refine lv_sipush (v := 172) hx hb dX6_heft_12 (by decide) ?_
      refine lv_lload_n hx hb dX6_heft_15 rfl (lv_at hl 1 rfl) ?_
      refine lv_l2i (v := (Int64.toInt32 x1)) hx hb dX6_heft_16 rfl ?_
      refine lv_iadd hx hb dX6_heft_17 ?_
      obtain ⟨h3, hf⟩ := ogd hf
      refine va_lald hx hb hK hP 1 1 rfl rfl (ib_in h3) dX6_heft_18 ?_
      refine lv_goto (tgt := 37) hx hb dX6_heft_19 (by decide) ?_
      have er := Option.some.inj hf
      exact rtJ hx hb hr hS dX6_heft_37 er hlocks
  exact go s.heap [] hP hS
noncomputable def f_X6_against (w_w : Nat → Int64) (x1 : Int32) (x2 : Int64) (x4 : Int32) (x5 : Int64) : Option (Int32) := if x1 = x4 then (if x1 = 8 then ((f_X6_heft w_w x2).bind (fun z9 => if x1 = 8 then ((f_X6_heft w_w x5).bind (fun z13 => if 0 ≤ (lg_cmp z9 z13) then (if (lg_cmp z9 z13) ≤ 0 then (some (0)) else (some (1))) else (some ((-1))))) else (if 0 ≤ (lg_cmp z9 x5) then (if (lg_cmp z9 x5) ≤ 0 then (some (0)) else (some (1))) else (some ((-1)))))) else (if x1 = 8 then ((f_X6_heft w_w x5).bind (fun z6 => if 0 ≤ (lg_cmp x2 z6) then (if (lg_cmp x2 z6) ≤ 0 then (some (0)) else (some (1))) else (some ((-1))))) else (if 0 ≤ (lg_cmp x2 x5) then (if (lg_cmp x2 x5) ≤ 0 then (some (0)) else (some (1))) else (some ((-1)))))) else (if x1 = 9 then (some ((-1))) else (if x4 = 9 then (some (1)) else (if x4 ≤ x1 then (some (1)) else (some ((-1))))))
set_option maxHeartbeats 4000000 in
set_option maxRecDepth 100000 in
theorem c_X6_against (l : Launch) (D : va_G) (cI cJ cZ cQ : ClassId) (bs sz : Nat) (w : Nat → Nat) (w_undos : Int32) (w_seed : Int32) (w_entries : Int32) (w_w : Nat → Int64) (x1 : Int32) (x2 : Int64) (x4 : Int32) (x5 : Int64) (zr : Int32) (hf : f_X6_against w_w x1 x2 x4 x5 = some zr) : Met l yX6_against wsX6_against { frames := 1, cells := 0, slots := 0, locals := 22 } (va_Pc [.ref (w 0), .int x1, .long x2, .int x4, .long x5] (Pr D cI cJ cZ cQ bs sz [oX6 w w_undos w_seed w_entries, aJ cJ (w 1) 3420 w_w])) (QrI zr) 0 0 no := by
  refine stM (cc := cX6_against) (maxL := 11) (ret := (some .int)) (by decide +kernel) rfl (Nat.le_of_ble_eq_true rfl) ?_
  intro p e s m args below meth c C0 hr hlocks hname hsz hP hDb hE ls hl
  have hAb : ∀ q, no q → bs ≤ q := fun _ h => h.elim
  obtain ⟨hx, hb, hml, hown, hts⟩ := id C0
  have hown : s.vm.findClass RX6 = some m.cls := hown
  obtain ⟨hK, hNW, -, tw, hZ, hT⟩ := id hE
  have hl : lv_has ls 11 [(0, .ref (w 0)), (1, .int x1), (2, .long x2), (4, .int x4), (5, .long x5)] := hl
  have hS : va_S no s.heap s.heap [] := va_S.rf
  unfold f_X6_against at hf
  have go : ∀ (H : Heap) (locs : List Loc), va_P D vwCl [oX6 w w_undos w_seed w_entries, aJ cJ (w 1) 3420 w_w] H → va_S no s.heap H locs → W p l e { frames := 1, cells := 0, slots := 0, locals := 22 } s m args below meth c H locs 0 0 (MQ below (QrI zr) args s 0 0 no) (F0 m 0 ls []) := by
    intro H locs hP hS
    refine lv_iload_n hx hb dX6_against_0 rfl (lv_at hl 1 rfl) ?_
    refine lv_iload hx hb dX6_against_1 (lv_at hl 3 rfl) ?_
    refine lv_icmp_eq (tgt := 31) hx hb dX6_against_3 (by decide) (fun c1 => ?_) (fun c1 => ?_)
    · replace hf := oif c1 hf
      refine lv_iload_n hx hb dX6_against_31 rfl (lv_at hl 1 rfl) ?_
      refine lv_bipush (v := 8) hx hb dX6_against_32 (by decide) ?_
      refine lv_icmp_ne (tgt := 45) hx hb dX6_against_34 (by decide) (fun c2 => ?_) (fun c2 => ?_)
      · replace hf := oel c2 hf
        refine lv_lload_n hx hb dX6_against_45 rfl (lv_at hl 2 rfl) ?_
        refine lv_lstore (lv' := [(7, .long x2), (0, .ref (w 0)), (1, .int x1), (2, .long x2), (4, .int x4), (5, .long x5)]) hx hb dX6_against_46 hl (by decide) rfl (fun ls hl => ?_)
        refine lv_iload_n hx hb dX6_against_48 rfl (lv_at hl 2 rfl) ?_
        refine lv_bipush (v := 8) hx hb dX6_against_49 (by decide) ?_
        refine lv_icmp_ne (tgt := 63) hx hb dX6_against_51 (by decide) (fun c3 => ?_) (fun c3 => ?_)
        · replace hf := oel c3 hf
          refine lv_lload hx hb dX6_against_63 (lv_at hl 5 rfl) ?_
          refine lv_lstore (lv' := [(9, .long x5), (7, .long x2), (0, .ref (w 0)), (1, .int x1), (2, .long x2), (4, .int x4), (5, .long x5)]) hx hb dX6_against_65 hl (by decide) rfl (fun ls hl => ?_)
          refine lv_lload hx hb dX6_against_67 (lv_at hl 1 rfl) ?_
          refine lv_lload hx hb dX6_against_69 (lv_at hl 0 rfl) ?_
          refine W.lcmp hx hb dX6_against_71 ?_
          refine lv_if_ge (tgt := 79) hx hb dX6_against_72 (by decide) (fun c4 => ?_) (fun c4 => ?_)
          · replace hf := oif c4 hf
            refine lv_lload hx hb dX6_against_79 (lv_at hl 1 rfl) ?_
            refine lv_lload hx hb dX6_against_81 (lv_at hl 0 rfl) ?_
            refine W.lcmp hx hb dX6_against_83 ?_
            refine lv_if_le (tgt := 91) hx hb dX6_against_84 (by decide) (fun c5 => ?_) (fun c5 => ?_)
            · replace hf := oif c5 hf
              refine lv_iconst (v := 0) hx hb dX6_against_91 (by decide) ?_
              have er := Option.some.inj hf
              exact rtI hx hb hr hS dX6_against_92 er hlocks
            · replace hf := oel c5 hf
              refine lv_iconst (v := 1) hx hb dX6_against_87 (by decide) ?_
              refine lv_goto (tgt := 92) hx hb dX6_against_88 (by decide) ?_
              have er := Option.some.inj hf
              exact rtI hx hb hr hS dX6_against_92 er hlocks
          · replace hf := oel c4 hf
            refine lv_iconst (v := (-1)) hx hb dX6_against_75 (by decide) ?_
            refine lv_goto (tgt := 92) hx hb dX6_against_76 (by decide) ?_
            have er := Option.some.inj hf
            exact rtI hx hb hr hS dX6_against_92 er hlocks
        · replace hf := oif c3 hf
          refine lv_aload_n hx hb dX6_against_54 rfl (lv_at hl 1 rfl) ?_
          refine lv_lload hx hb dX6_against_55 (lv_at hl 5 rfl) ?_
          obtain ⟨z6, hz6, hf⟩ := obd hf
          refine kJ (runV (As := [.long x5]) (rest := []) C0 hE hAb hP (hDb.addr rfl) hS [0, 1] (wc := [oX6 w w_undos w_seed w_entries, aJ cJ (w 1) 3420 w_w]) (by decide) rfl 0 rfl rfl (c_X6_heft l D cI cJ cZ cQ bs H.size w w_undos w_seed w_entries w_w x5 z6 hz6) (cwV 1 hts gX6_against_X6_heft rfl rfl rfl (by decide +kernel) ⟨Nat.le_of_ble_eq_true rfl, Nat.le_of_ble_eq_true rfl⟩) rfl hl.1 rfl (Nat.le_of_ble_eq_true rfl) dX6_against_57 ⟨Nat.le_of_ble_eq_true rfl, Nat.le_of_ble_eq_true rfl⟩) hS hP (fun H locs hP hS => ?_)
          refine lv_goto (tgt := 65) hx hb dX6_against_60 (by decide) ?_
          refine lv_lstore (lv' := [(9, .long z6), (7, .long x2), (0, .ref (w 0)), (1, .int x1), (2, .long x2), (4, .int x4), (5, .long x5)]) hx hb dX6_against_65 hl (by decide) rfl (fun ls hl => ?_)
          refine lv_lload hx hb dX6_against_67 (lv_at hl 1 rfl) ?_
          refine lv_lload hx hb dX6_against_69 (lv_at hl 0 rfl) ?_
          refine W.lcmp hx hb dX6_against_71 ?_
          refine lv_if_ge (tgt := 79) hx hb dX6_against_72 (by decide) (fun c7 => ?_) (fun c7 => ?_)
          · replace hf := oif c7 hf
            refine lv_lload hx hb dX6_against_79 (lv_at hl 1 rfl) ?_
            refine lv_lload hx hb dX6_against_81 (lv_at hl 0 rfl) ?_
            refine W.lcmp hx hb dX6_against_83 ?_
            refine lv_if_le (tgt := 91) hx hb dX6_against_84 (by decide) (fun c8 => ?_) (fun c8 => ?_)
            · replace hf := oif c8 hf
              refine lv_iconst (v := 0) hx hb dX6_against_91 (by decide) ?_
              have er := Option.some.inj hf
              exact rtI hx hb hr hS dX6_against_92 er hlocks
            · replace hf := oel c8 hf
              refine lv_iconst (v := 1) hx hb dX6_against_87 (by decide) ?_
              refine lv_goto (tgt := 92) hx hb dX6_against_88 (by decide) ?_
              have er := Option.some.inj hf
              exact rtI hx hb hr hS dX6_against_92 er hlocks
          · replace hf := oel c7 hf
            refine lv_iconst (v := (-1)) hx hb dX6_against_75 (by decide) ?_
            refine lv_goto (tgt := 92) hx hb dX6_against_76 (by decide) ?_
            have er := Option.some.inj hf
            exact rtI hx hb hr hS dX6_against_92 er hlocks
      · replace hf := oif c2 hf
        refine lv_aload_n hx hb dX6_against_37 rfl (lv_at hl 0 rfl) ?_
        refine lv_lload_n hx hb dX6_against_38 rfl (lv_at hl 2 rfl) ?_
        obtain ⟨z9, hz9, hf⟩ := obd hf
        refine kJ (runV (As := [.long x2]) (rest := []) C0 hE hAb hP (hDb.addr rfl) hS [0, 1] (wc := [oX6 w w_undos w_seed w_entries, aJ cJ (w 1) 3420 w_w]) (by decide) rfl 0 rfl rfl (c_X6_heft l D cI cJ cZ cQ bs H.size w w_undos w_seed w_entries w_w x2 z9 hz9) (cwV 1 hts gX6_against_X6_heft rfl rfl rfl (by decide +kernel) ⟨Nat.le_of_ble_eq_true rfl, Nat.le_of_ble_eq_true rfl⟩) rfl hl.1 rfl (Nat.le_of_ble_eq_true rfl) dX6_against_39 ⟨Nat.le_of_ble_eq_true rfl, Nat.le_of_ble_eq_true rfl⟩) hS hP (fun H locs hP hS => ?_)
        refine lv_goto (tgt := 46) hx hb dX6_against_42 (by decide) ?_
        refine lv_lstore (lv' := [(7, .long z9), (0, .ref (w 0)), (1, .int x1), (2, .long x2), (4, .int x4), (5, .long x5)]) hx hb dX6_against_46 hl (by decide) rfl (fun ls hl => ?_)
        refine lv_iload_n hx hb dX6_against_48 rfl (lv_at hl 2 rfl) ?_
        refine lv_bipush (v := 8) hx hb dX6_against_49 (by decide) ?_
        refine lv_icmp_ne (tgt := 63) hx hb dX6_against_51 (by decide) (fun c10 => ?_) (fun c10 => ?_)
        · replace hf := oel c10 hf
          refine lv_lload hx hb dX6_against_63 (lv_at hl 5 rfl) ?_
          refine lv_lstore (lv' := [(9, .long x5), (7, .long z9), (0, .ref (w 0)), (1, .int x1), (2, .long x2), (4, .int x4), (5, .long x5)]) hx hb dX6_against_65 hl (by decide) rfl (fun ls hl => ?_)
          refine lv_lload hx hb dX6_against_67 (lv_at hl 1 rfl) ?_
          refine lv_lload hx hb dX6_against_69 (lv_at hl 0 rfl) ?_
          refine W.lcmp hx hb dX6_against_71 ?_
          refine lv_if_ge (tgt := 79) hx hb dX6_against_72 (by decide) (fun c11 => ?_) (fun c11 => ?_)
          · replace hf := oif c11 hf
            refine lv_lload hx hb dX6_against_79 (lv_at hl 1 rfl) ?_
            refine lv_lload hx hb dX6_against_81 (lv_at hl 0 rfl) ?_
            refine W.lcmp hx hb dX6_against_83 ?_
            refine lv_if_le (tgt := 91) hx hb dX6_against_84 (by decide) (fun c12 => ?_) (fun c12 => ?_)
            · replace hf := oif c12 hf
              refine lv_iconst (v := 0) hx hb dX6_against_91 (by decide) ?_
              have er := Option.some.inj hf
              exact rtI hx hb hr hS dX6_against_92 er hlocks
            · replace hf := oel c12 hf
              refine lv_iconst (v := 1) hx hb dX6_against_87 (by decide) ?_
              refine lv_goto (tgt := 92) hx hb dX6_against_88 (by decide) ?_
              have er := Option.some.inj hf
              exact rtI hx hb hr hS dX6_against_92 er hlocks
          · replace hf := oel c11 hf
            refine lv_iconst (v := (-1)) hx hb dX6_against_75 (by decide) ?_
            refine lv_goto (tgt := 92) hx hb dX6_against_76 (by decide) ?_
            have er := Option.some.inj hf
            exact rtI hx hb hr hS dX6_against_92 er hlocks
        · replace hf := oif c10 hf
          refine lv_aload_n hx hb dX6_against_54 rfl (lv_at hl 1 rfl) ?_
          refine lv_lload hx hb dX6_against_55 (lv_at hl 5 rfl) ?_
          obtain ⟨z13, hz13, hf⟩ := obd hf
          refine kJ (runV (As := [.long x5]) (rest := []) C0 hE hAb hP (hDb.addr rfl) hS [0, 1] (wc := [oX6 w w_undos w_seed w_entries, aJ cJ (w 1) 3420 w_w]) (by decide) rfl 0 rfl rfl (c_X6_heft l D cI cJ cZ cQ bs H.size w w_undos w_seed w_entries w_w x5 z13 hz13) (cwV 1 hts gX6_against_X6_heft rfl rfl rfl (by decide +kernel) ⟨Nat.le_of_ble_eq_true rfl, Nat.le_of_ble_eq_true rfl⟩) rfl hl.1 rfl (Nat.le_of_ble_eq_true rfl) dX6_against_57 ⟨Nat.le_of_ble_eq_true rfl, Nat.le_of_ble_eq_true rfl⟩) hS hP (fun H locs hP hS => ?_)
          refine lv_goto (tgt := 65) hx hb dX6_against_60 (by decide) ?_
          refine lv_lstore (lv' := [(9, .long z13), (7, .long z9), (0, .ref (w 0)), (1, .int x1), (2, .long x2), (4, .int x4), (5, .long x5)]) hx hb dX6_against_65 hl (by decide) rfl (fun ls hl => ?_)
          refine lv_lload hx hb dX6_against_67 (lv_at hl 1 rfl) ?_
          refine lv_lload hx hb dX6_against_69 (lv_at hl 0 rfl) ?_
          refine W.lcmp hx hb dX6_against_71 ?_
          refine lv_if_ge (tgt := 79) hx hb dX6_against_72 (by decide) (fun c14 => ?_) (fun c14 => ?_)
          · replace hf := oif c14 hf
            refine lv_lload hx hb dX6_against_79 (lv_at hl 1 rfl) ?_
            refine lv_lload hx hb dX6_against_81 (lv_at hl 0 rfl) ?_
            refine W.lcmp hx hb dX6_against_83 ?_
            refine lv_if_le (tgt := 91) hx hb dX6_against_84 (by decide) (fun c15 => ?_) (fun c15 => ?_)
            · replace hf := oif c15 hf
              refine lv_iconst (v := 0) hx hb dX6_against_91 (by decide) ?_
              have er := Option.some.inj hf
              exact rtI hx hb hr hS dX6_against_92 er hlocks
            · replace hf := oel c15 hf
              refine lv_iconst (v := 1) hx hb dX6_against_87 (by decide) ?_
              refine lv_goto (tgt := 92) hx hb dX6_against_88 (by decide) ?_
              have er := Option.some.inj hf
              exact rtI hx hb hr hS dX6_against_92 er hlocks
          · replace hf := oel c14 hf
            refine lv_iconst (v := (-1)) hx hb dX6_against_75 (by decide) ?_
            refine lv_goto (tgt := 92) hx hb dX6_against_76 (by decide) ?_
            have er := Option.some.inj hf
            exact rtI hx hb hr hS dX6_against_92 er hlocks
    · replace hf := oel c1 hf
      refine lv_iload_n hx hb dX6_against_6 rfl (lv_at hl 1 rfl) ?_
      refine lv_bipush (v := 9) hx hb dX6_against_7 (by decide) ?_
      refine lv_icmp_eq (tgt := 25) hx hb dX6_against_9 (by decide) (fun c16 => ?_) (fun c16 => ?_)
      · replace hf := oif c16 hf
        refine lv_iconst (v := (-1)) hx hb dX6_against_25 (by decide) ?_
        refine lv_goto (tgt := 30) hx hb dX6_against_26 (by decide) ?_
        have er := Option.some.inj hf
        exact rtI hx hb hr hS dX6_against_30 er hlocks
      · replace hf := oel c16 hf
        refine lv_iload hx hb dX6_against_12 (lv_at hl 3 rfl) ?_
        refine lv_bipush (v := 9) hx hb dX6_against_14 (by decide) ?_
        refine lv_icmp_eq (tgt := 29) hx hb dX6_against_16 (by decide) (fun c17 => ?_) (fun c17 => ?_)
        · replace hf := oif c17 hf
          refine lv_iconst (v := 1) hx hb dX6_against_29 (by decide) ?_
          have er := Option.some.inj hf
          exact rtI hx hb hr hS dX6_against_30 er hlocks
        · replace hf := oel c17 hf
          refine lv_iload_n hx hb dX6_against_19 rfl (lv_at hl 1 rfl) ?_
          refine lv_iload hx hb dX6_against_20 (lv_at hl 3 rfl) ?_
          refine lv_icmp_ge (tgt := 29) hx hb dX6_against_22 (by decide) (fun c18 => ?_) (fun c18 => ?_)
          · replace hf := oif c18 hf
            refine lv_iconst (v := 1) hx hb dX6_against_29 (by decide) ?_
            have er := Option.some.inj hf
            exact rtI hx hb hr hS dX6_against_30 er hlocks
          · replace hf := oel c18 hf
            refine lv_iconst (v := (-1)) hx hb dX6_against_25 (by decide) ?_
            refine lv_goto (tgt := 30) hx hb dX6_against_26 (by decide) ?_
            have er := Option.some.inj hf
            exact rtI hx hb hr hS dX6_against_30 er hlocks
  exact go s.heap [] hP hS
noncomputable def f_X6_slotOf (w_w : Nat → Int64) (x1 : Int32) : Option (Int32) := if ib ((157 : Int32) + ((3 : Int32) * x1)) 3420 = true then (some ((Int64.toInt32 (w_w ((157 : Int32) + ((3 : Int32) * x1)).toNatClampNeg)))) else none
set_option maxHeartbeats 4000000 in
set_option maxRecDepth 100000 in
theorem c_X6_slotOf (l : Launch) (D : va_G) (cI cJ cZ cQ : ClassId) (bs sz : Nat) (w : Nat → Nat) (w_undos : Int32) (w_seed : Int32) (w_entries : Int32) (w_w : Nat → Int64) (x1 : Int32) (zr : Int32) (hf : f_X6_slotOf w_w x1 = some zr) : Met l yX6_slotOf wsX6_slotOf { frames := 0, cells := 0, slots := 0, locals := 0 } (va_Pc [.ref (w 0), .int x1] (Pr D cI cJ cZ cQ bs sz [oX6 w w_undos w_seed w_entries, aJ cJ (w 1) 3420 w_w])) (QrI zr) 0 0 no := by
  refine stM (cc := cX6_slotOf) (maxL := 2) (ret := (some .int)) (by decide +kernel) rfl (Nat.le_of_ble_eq_true rfl) ?_
  intro p e s m args below meth c C0 hr hlocks hname hsz hP hDb hE ls hl
  have hAb : ∀ q, no q → bs ≤ q := fun _ h => h.elim
  obtain ⟨hx, hb, hml, hown, hts⟩ := id C0
  have hown : s.vm.findClass RX6 = some m.cls := hown
  obtain ⟨hK, hNW, -, tw, hZ, hT⟩ := id hE
  have hl : lv_has ls 2 [(0, .ref (w 0)), (1, .int x1)] := hl
  have hS : va_S no s.heap s.heap [] := va_S.rf
  have hI_X6 := (show ∀ w ∈ wsX60, w ∈ wsX6_slotOf by decide +kernel)
  have gf7 := hts (.fieldLink RX6 7 "RowRanksModel" "w" "[J") (by decide +kernel)
  unfold f_X6_slotOf at hf
  have go : ∀ (H : Heap) (locs : List Loc), va_P D vwCl [oX6 w w_undos w_seed w_entries, aJ cJ (w 1) 3420 w_w] H → va_S no s.heap H locs → W p l e { frames := 0, cells := 0, slots := 0, locals := 0 } s m args below meth c H locs 0 0 (MQ below (QrI zr) args s 0 0 no) (F0 m 0 ls []) := by
    intro H locs hP hS
    refine lv_aload_n hx hb dX6_slotOf_0 rfl (lv_at hl 0 rfl) ?_
    refine va_get (D := D) (ci := 6) (v := .ref (w 1)) (C := RX6) (T := TX6) (N := 12) hx hb hts hI_X6 hown hK hP 0 rfl rfl 0 (by decide) gf7 (fun _ h9 => h9) rfl dX6_slotOf_1 ?_
    refine lv_sipush (v := 157) hx hb dX6_slotOf_4 (by decide) ?_
    refine lv_iconst (v := 3) hx hb dX6_slotOf_7 (by decide) ?_
    refine lv_iload_n hx hb dX6_slotOf_8 rfl (lv_at hl 1 rfl) ?_
    refine lv_imul hx hb dX6_slotOf_9 ?_
    refine lv_iadd hx hb dX6_slotOf_10 ?_
    obtain ⟨h1, hf⟩ := ogd hf
    refine va_lald hx hb hK hP 1 1 rfl rfl (ib_in h1) dX6_slotOf_11 ?_
    refine lv_l2i (v := (Int64.toInt32 (w_w ((157 : Int32) + ((3 : Int32) * x1)).toNatClampNeg))) hx hb dX6_slotOf_12 rfl ?_
    have er := Option.some.inj hf
    exact rtI hx hb hr hS dX6_slotOf_13 er hlocks
  exact go s.heap [] hP hS
noncomputable def f_X6_byOf (w_w : Nat → Int64) (x1 : Int32) : Option (Int32) := if ib (((157 : Int32) + ((3 : Int32) * x1)) + (1 : Int32)) 3420 = true then (some ((Int64.toInt32 (w_w (((157 : Int32) + ((3 : Int32) * x1)) + (1 : Int32)).toNatClampNeg)))) else none
set_option maxHeartbeats 4000000 in
set_option maxRecDepth 100000 in
theorem c_X6_byOf (l : Launch) (D : va_G) (cI cJ cZ cQ : ClassId) (bs sz : Nat) (w : Nat → Nat) (w_undos : Int32) (w_seed : Int32) (w_entries : Int32) (w_w : Nat → Int64) (x1 : Int32) (zr : Int32) (hf : f_X6_byOf w_w x1 = some zr) : Met l yX6_byOf wsX6_byOf { frames := 0, cells := 0, slots := 0, locals := 0 } (va_Pc [.ref (w 0), .int x1] (Pr D cI cJ cZ cQ bs sz [oX6 w w_undos w_seed w_entries, aJ cJ (w 1) 3420 w_w])) (QrI zr) 0 0 no := by
  refine stM (cc := cX6_byOf) (maxL := 2) (ret := (some .int)) (by decide +kernel) rfl (Nat.le_of_ble_eq_true rfl) ?_
  intro p e s m args below meth c C0 hr hlocks hname hsz hP hDb hE ls hl
  have hAb : ∀ q, no q → bs ≤ q := fun _ h => h.elim
  obtain ⟨hx, hb, hml, hown, hts⟩ := id C0
  have hown : s.vm.findClass RX6 = some m.cls := hown
  obtain ⟨hK, hNW, -, tw, hZ, hT⟩ := id hE
  have hl : lv_has ls 2 [(0, .ref (w 0)), (1, .int x1)] := hl
  have hS : va_S no s.heap s.heap [] := va_S.rf
  have hI_X6 := (show ∀ w ∈ wsX60, w ∈ wsX6_byOf by decide +kernel)
  have gf7 := hts (.fieldLink RX6 7 "RowRanksModel" "w" "[J") (by decide +kernel)
  unfold f_X6_byOf at hf
  have go : ∀ (H : Heap) (locs : List Loc), va_P D vwCl [oX6 w w_undos w_seed w_entries, aJ cJ (w 1) 3420 w_w] H → va_S no s.heap H locs → W p l e { frames := 0, cells := 0, slots := 0, locals := 0 } s m args below meth c H locs 0 0 (MQ below (QrI zr) args s 0 0 no) (F0 m 0 ls []) := by
    intro H locs hP hS
    refine lv_aload_n hx hb dX6_byOf_0 rfl (lv_at hl 0 rfl) ?_
    refine va_get (D := D) (ci := 6) (v := .ref (w 1)) (C := RX6) (T := TX6) (N := 12) hx hb hts hI_X6 hown hK hP 0 rfl rfl 0 (by decide) gf7 (fun _ h9 => h9) rfl dX6_byOf_1 ?_
    refine lv_sipush (v := 157) hx hb dX6_byOf_4 (by decide) ?_
    refine lv_iconst (v := 3) hx hb dX6_byOf_7 (by decide) ?_
    refine lv_iload_n hx hb dX6_byOf_8 rfl (lv_at hl 1 rfl) ?_
    refine lv_imul hx hb dX6_byOf_9 ?_
    refine lv_iadd hx hb dX6_byOf_10 ?_
    refine lv_iconst (v := 1) hx hb dX6_byOf_11 (by decide) ?_
    refine lv_iadd hx hb dX6_byOf_12 ?_
    obtain ⟨h1, hf⟩ := ogd hf
    refine va_lald hx hb hK hP 1 1 rfl rfl (ib_in h1) dX6_byOf_13 ?_
    refine lv_l2i (v := (Int64.toInt32 (w_w (((157 : Int32) + ((3 : Int32) * x1)) + (1 : Int32)).toNatClampNeg))) hx hb dX6_byOf_14 rfl ?_
    have er := Option.some.inj hf
    exact rtI hx hb hr hS dX6_byOf_15 er hlocks
  exact go s.heap [] hP hS
noncomputable def f_X6_keys (w_w : Nat → Int64) : Option (Int32) := some ((Int64.toInt32 (w_w (Int32.toNatClampNeg 156))))
set_option maxHeartbeats 4000000 in
set_option maxRecDepth 100000 in
theorem c_X6_keys (l : Launch) (D : va_G) (cI cJ cZ cQ : ClassId) (bs sz : Nat) (w : Nat → Nat) (w_undos : Int32) (w_seed : Int32) (w_entries : Int32) (w_w : Nat → Int64) (zr : Int32) (hf : f_X6_keys w_w = some zr) : Met l yX6_keys wsX6_keys { frames := 0, cells := 0, slots := 0, locals := 0 } (va_Pc [.ref (w 0)] (Pr D cI cJ cZ cQ bs sz [oX6 w w_undos w_seed w_entries, aJ cJ (w 1) 3420 w_w])) (QrI zr) 0 0 no := by
  refine stM (cc := cX6_keys) (maxL := 1) (ret := (some .int)) (by decide +kernel) rfl (Nat.le_of_ble_eq_true rfl) ?_
  intro p e s m args below meth c C0 hr hlocks hname hsz hP hDb hE ls hl
  have hAb : ∀ q, no q → bs ≤ q := fun _ h => h.elim
  obtain ⟨hx, hb, hml, hown, hts⟩ := id C0
  have hown : s.vm.findClass RX6 = some m.cls := hown
  obtain ⟨hK, hNW, -, tw, hZ, hT⟩ := id hE
  have hl : lv_has ls 1 [(0, .ref (w 0))] := hl
  have hS : va_S no s.heap s.heap [] := va_S.rf
  have hI_X6 := (show ∀ w ∈ wsX60, w ∈ wsX6_keys by decide +kernel)
  have gf7 := hts (.fieldLink RX6 7 "RowRanksModel" "w" "[J") (by decide +kernel)
  unfold f_X6_keys at hf
  have go : ∀ (H : Heap) (locs : List Loc), va_P D vwCl [oX6 w w_undos w_seed w_entries, aJ cJ (w 1) 3420 w_w] H → va_S no s.heap H locs → W p l e { frames := 0, cells := 0, slots := 0, locals := 0 } s m args below meth c H locs 0 0 (MQ below (QrI zr) args s 0 0 no) (F0 m 0 ls []) := by
    intro H locs hP hS
    refine lv_aload_n hx hb dX6_keys_0 rfl (lv_at hl 0 rfl) ?_
    refine va_get (D := D) (ci := 6) (v := .ref (w 1)) (C := RX6) (T := TX6) (N := 12) hx hb hts hI_X6 hown hK hP 0 rfl rfl 0 (by decide) gf7 (fun _ h9 => h9) rfl dX6_keys_1 ?_
    refine lv_sipush (v := 156) hx hb dX6_keys_4 (by decide) ?_
    refine va_lald hx hb hK hP 1 1 rfl rfl (ib_in (by decide)) dX6_keys_7 ?_
    refine lv_l2i (v := (Int64.toInt32 (w_w (Int32.toNatClampNeg 156)))) hx hb dX6_keys_8 rfl ?_
    have er := Option.some.inj hf
    exact rtI hx hb hr hS dX6_keys_9 er hlocks
  exact go s.heap [] hP hS
noncomputable def f_X6_sheetNow (w_w : Nat → Int64) : Option (Int32) := some ((Int64.toInt32 (w_w (Int32.toNatClampNeg 169))))
set_option maxHeartbeats 4000000 in
set_option maxRecDepth 100000 in
theorem c_X6_sheetNow (l : Launch) (D : va_G) (cI cJ cZ cQ : ClassId) (bs sz : Nat) (w : Nat → Nat) (w_undos : Int32) (w_seed : Int32) (w_entries : Int32) (w_w : Nat → Int64) (zr : Int32) (hf : f_X6_sheetNow w_w = some zr) : Met l yX6_sheetNow wsX6_sheetNow { frames := 0, cells := 0, slots := 0, locals := 0 } (va_Pc [.ref (w 0)] (Pr D cI cJ cZ cQ bs sz [oX6 w w_undos w_seed w_entries, aJ cJ (w 1) 3420 w_w])) (QrI zr) 0 0 no := by
  refine stM (cc := cX6_sheetNow) (maxL := 1) (ret := (some .int)) (by decide +kernel) rfl (Nat.le_of_ble_eq_true rfl) ?_
  intro p e s m args below meth c C0 hr hlocks hname hsz hP hDb hE ls hl
  have hAb : ∀ q, no q → bs ≤ q := fun _ h => h.elim
  obtain ⟨hx, hb, hml, hown, hts⟩ := id C0
  have hown : s.vm.findClass RX6 = some m.cls := hown
  obtain ⟨hK, hNW, -, tw, hZ, hT⟩ := id hE
  have hl : lv_has ls 1 [(0, .ref (w 0))] := hl
  have hS : va_S no s.heap s.heap [] := va_S.rf
  have hI_X6 := (show ∀ w ∈ wsX60, w ∈ wsX6_sheetNow by decide +kernel)
  have gf7 := hts (.fieldLink RX6 7 "RowRanksModel" "w" "[J") (by decide +kernel)
  unfold f_X6_sheetNow at hf
  have go : ∀ (H : Heap) (locs : List Loc), va_P D vwCl [oX6 w w_undos w_seed w_entries, aJ cJ (w 1) 3420 w_w] H → va_S no s.heap H locs → W p l e { frames := 0, cells := 0, slots := 0, locals := 0 } s m args below meth c H locs 0 0 (MQ below (QrI zr) args s 0 0 no) (F0 m 0 ls []) := by
    intro H locs hP hS
    refine lv_aload_n hx hb dX6_sheetNow_0 rfl (lv_at hl 0 rfl) ?_
    refine va_get (D := D) (ci := 6) (v := .ref (w 1)) (C := RX6) (T := TX6) (N := 12) hx hb hts hI_X6 hown hK hP 0 rfl rfl 0 (by decide) gf7 (fun _ h9 => h9) rfl dX6_sheetNow_1 ?_
    refine lv_sipush (v := 169) hx hb dX6_sheetNow_4 (by decide) ?_
    refine va_lald hx hb hK hP 1 1 rfl rfl (ib_in (by decide)) dX6_sheetNow_7 ?_
    refine lv_l2i (v := (Int64.toInt32 (w_w (Int32.toNatClampNeg 169)))) hx hb dX6_sheetNow_8 rfl ?_
    have er := Option.some.inj hf
    exact rtI hx hb hr hS dX6_sheetNow_9 er hlocks
  exact go s.heap [] hP hS
noncomputable def L_X6_slotsOfAll_7 (w_w : Nat → Int64) : Nat → Int32 → Int32 → Option (Int32)
  | 0, _, _ => none
  | n + 1, v1, v2 => (f_X6_keys w_w).bind (fun z2 => if z2 ≤ v2 then (some (v1)) else ((f_X6_slotOf w_w v2).bind (fun z4 => (some ((v1 ||| ((1 : Int32) <<< (z4 &&& 31))) : Int32)).bind (fun y5 => (some (v2 + 1 : Int32)).bind (fun y6 => L_X6_slotsOfAll_7 w_w n y5 y6)))))
noncomputable def f_X6_slotsOfAll (w_w : Nat → Int64) : Option (Int32) := (f_X6_sheetNow w_w).bind (fun z1 => (L_X6_slotsOfAll_7 w_w 4000 z1 0).bind (fun z7 => some (z7)))
set_option maxHeartbeats 4000000 in
set_option maxRecDepth 100000 in
theorem c_X6_slotsOfAll (l : Launch) (D : va_G) (cI cJ cZ cQ : ClassId) (bs sz : Nat) (w : Nat → Nat) (w_undos : Int32) (w_seed : Int32) (w_entries : Int32) (w_w : Nat → Int64) (zr : Int32) (hf : f_X6_slotsOfAll w_w = some zr) : Met l yX6_slotsOfAll wsX6_slotsOfAll { frames := 1, cells := 0, slots := 0, locals := 21 } (va_Pc [.ref (w 0)] (Pr D cI cJ cZ cQ bs sz [oX6 w w_undos w_seed w_entries, aJ cJ (w 1) 3420 w_w])) (QrI zr) 0 0 no := by
  refine stM (cc := cX6_slotsOfAll) (maxL := 3) (ret := (some .int)) (by decide +kernel) rfl (Nat.le_of_ble_eq_true rfl) ?_
  intro p e s m args below meth c C0 hr hlocks hname hsz hP hDb hE ls hl
  have hAb : ∀ q, no q → bs ≤ q := fun _ h => h.elim
  obtain ⟨hx, hb, hml, hown, hts⟩ := id C0
  have hown : s.vm.findClass RX6 = some m.cls := hown
  obtain ⟨hK, hNW, -, tw, hZ, hT⟩ := id hE
  have hl : lv_has ls 3 [(0, .ref (w 0))] := hl
  have hS : va_S no s.heap s.heap [] := va_S.rf
  have W7 : ∀ (n : Nat) (v1 : Int32) (v2 : Int32) (H : Heap) (locs : List Loc) (ls : Array Slot) (z : Int32), va_P D vwCl [oX6 w w_undos w_seed w_entries, aJ cJ (w 1) 3420 w_w] H → va_S no s.heap H locs → lv_has ls 3 [(0, .ref (w 0)), (1, .int v1), (2, .int v2)] → L_X6_slotsOfAll_7 w_w n v1 v2 = some z → (∀ (H : Heap) (locs : List Loc) (ls : Array Slot), va_P D vwCl [oX6 w w_undos w_seed w_entries, aJ cJ (w 1) 3420 w_w] H → va_S no s.heap H locs → lv_has ls 3 [(1, .int z)] → W p l e { frames := 1, cells := 0, slots := 0, locals := 21 } s m args below meth c H locs 0 0 (MQ below (QrI zr) args s 0 0 no) (F0 m 31 ls [])) → W p l e { frames := 1, cells := 0, slots := 0, locals := 21 } s m args below meth c H locs 0 0 (MQ below (QrI zr) args s 0 0 no) (F0 m 7 ls []) := by
    intro n
    induction n with
    | zero =>
      intro v1 v2 H locs ls z hP hS hl hf
      exact absurd (show (none : Option (Int32)) = some z from hf) (fun h => by cases h)
    | succ n ih =>
      intro v1 v2 H locs ls z hP hS hl hf K
      rw [L_X6_slotsOfAll_7] at hf
      refine lv_iload_n hx hb dX6_slotsOfAll_7 rfl (lv_at hl 2 rfl) ?_
      refine lv_aload_n hx hb dX6_slotsOfAll_8 rfl (lv_at hl 0 rfl) ?_
      obtain ⟨z2, hz2, hf⟩ := obd hf
      refine kI (runV (As := []) (rest := [.int v2]) C0 hE hAb hP (hDb.addr rfl) hS [0, 1] (wc := [oX6 w w_undos w_seed w_entries, aJ cJ (w 1) 3420 w_w]) (by decide) rfl 0 rfl rfl (c_X6_keys l D cI cJ cZ cQ bs H.size w w_undos w_seed w_entries w_w z2 hz2) (cwV 0 hts gX6_slotsOfAll_X6_keys rfl rfl rfl (by decide +kernel) ⟨Nat.le_of_ble_eq_true rfl, Nat.le_of_ble_eq_true rfl⟩) rfl hl.1 rfl (Nat.le_of_ble_eq_true rfl) dX6_slotsOfAll_9 ⟨Nat.le_of_ble_eq_true rfl, Nat.le_of_ble_eq_true rfl⟩) hS hP (fun H locs hP hS => ?_)
      refine lv_icmp_ge (tgt := 31) hx hb dX6_slotsOfAll_12 (by decide) (fun c3 => ?_) (fun c3 => ?_)
      · replace hf := oif c3 hf
        have hf := Option.some.inj hf
        subst hf
        exact K H locs ls hP hS (lv_sub hl [1] rfl)
      · replace hf := oel c3 hf
        refine lv_iload_n hx hb dX6_slotsOfAll_15 rfl (lv_at hl 1 rfl) ?_
        refine lv_iconst (v := 1) hx hb dX6_slotsOfAll_16 (by decide) ?_
        refine lv_aload_n hx hb dX6_slotsOfAll_17 rfl (lv_at hl 0 rfl) ?_
        refine lv_iload_n hx hb dX6_slotsOfAll_18 rfl (lv_at hl 2 rfl) ?_
        obtain ⟨z4, hz4, hf⟩ := obd hf
        refine kI (runV (As := [.int v2]) (rest := [.int 1, .int v1]) C0 hE hAb hP (hDb.addr rfl) hS [0, 1] (wc := [oX6 w w_undos w_seed w_entries, aJ cJ (w 1) 3420 w_w]) (by decide) rfl 0 rfl rfl (c_X6_slotOf l D cI cJ cZ cQ bs H.size w w_undos w_seed w_entries w_w v2 z4 hz4) (cwV 1 hts gX6_slotsOfAll_X6_slotOf rfl rfl rfl (by decide +kernel) ⟨Nat.le_of_ble_eq_true rfl, Nat.le_of_ble_eq_true rfl⟩) rfl hl.1 rfl (Nat.le_of_ble_eq_true rfl) dX6_slotsOfAll_19 ⟨Nat.le_of_ble_eq_true rfl, Nat.le_of_ble_eq_true rfl⟩) hS hP (fun H locs hP hS => ?_)
        refine lv_ishl hx hb dX6_slotsOfAll_22 ?_
        refine lv_ior hx hb dX6_slotsOfAll_23 ?_
        refine lv_topi (fun y5 ey5 => ?_)
        replace hf := onm ey5 hf
        refine lv_istore_n (lv' := [(1, .int y5), (0, .ref (w 0)), (2, .int v2)]) hx hb dX6_slotsOfAll_24 rfl hl (by decide) rfl (fun ls hl => ?_)
        obtain ⟨y6, ey6⟩ : ∃ y : Int32, y = v2 + 1 := ⟨_, rfl⟩
        replace hf := onm ey6 hf
        refine lv_iinc (v := y6) (lv' := [(2, .int y6), (1, .int y5), (0, .ref (w 0))]) hx hb dX6_slotsOfAll_25 hl (k := 2) rfl (by rw [ey6]; rfl) (by decide) rfl (fun ls hl => ?_)
        refine lv_goto (tgt := 7) hx hb dX6_slotsOfAll_28 (by decide) ?_
        exact ih y5 y6 H locs ls z hP hS (lv_sub hl [2, 1, 0] rfl) hf K
  unfold f_X6_slotsOfAll at hf
  have go : ∀ (H : Heap) (locs : List Loc), va_P D vwCl [oX6 w w_undos w_seed w_entries, aJ cJ (w 1) 3420 w_w] H → va_S no s.heap H locs → W p l e { frames := 1, cells := 0, slots := 0, locals := 21 } s m args below meth c H locs 0 0 (MQ below (QrI zr) args s 0 0 no) (F0 m 0 ls []) := by
    intro H locs hP hS
    refine lv_aload_n hx hb dX6_slotsOfAll_0 rfl (lv_at hl 0 rfl) ?_
    obtain ⟨z1, hz1, hf⟩ := obd hf
    refine kI (runV (As := []) (rest := []) C0 hE hAb hP (hDb.addr rfl) hS [0, 1] (wc := [oX6 w w_undos w_seed w_entries, aJ cJ (w 1) 3420 w_w]) (by decide) rfl 0 rfl rfl (c_X6_sheetNow l D cI cJ cZ cQ bs H.size w w_undos w_seed w_entries w_w z1 hz1) (cwV 0 hts gX6_slotsOfAll_X6_sheetNow rfl rfl rfl (by decide +kernel) ⟨Nat.le_of_ble_eq_true rfl, Nat.le_of_ble_eq_true rfl⟩) rfl hl.1 rfl (Nat.le_of_ble_eq_true rfl) dX6_slotsOfAll_1 ⟨Nat.le_of_ble_eq_true rfl, Nat.le_of_ble_eq_true rfl⟩) hS hP (fun H locs hP hS => ?_)
    refine lv_istore_n (lv' := [(1, .int z1), (0, .ref (w 0))]) hx hb dX6_slotsOfAll_4 rfl hl (by decide) rfl (fun ls hl => ?_)
    refine lv_iconst (v := 0) hx hb dX6_slotsOfAll_5 (by decide) ?_
    refine lv_istore_n (lv' := [(2, .int 0), (1, .int z1), (0, .ref (w 0))]) hx hb dX6_slotsOfAll_6 rfl hl (by decide) rfl (fun ls hl => ?_)
    obtain ⟨z7, hz7, hf⟩ := obd hf
    refine W7 4000 z1 0 H locs ls z7 hP hS (lv_sub hl [2, 1, 0] rfl) hz7 (fun H locs ls hP hS hl => ?_)
    refine lv_iload_n hx hb dX6_slotsOfAll_31 rfl (lv_at hl 0 rfl) ?_
    have er := Option.some.inj hf
    exact rtI hx hb hr hS dX6_slotsOfAll_32 er hlocks
  exact go s.heap [] hP hS
noncomputable def L_X6_places_9 (w_w : Nat → Int64) (v1 : Int32) : Nat → Int32 → Int32 → Option ((Int32) ⊕ (Int32))
  | 0, _, _ => none
  | n + 1, v2, v3 => if 6 ≤ v3 then (some (.inl (v2))) else ((f_X6_has v1 v3).bind (fun z3 => if z3 = 0 then ((some (v3 + 1 : Int32)).bind (fun y5 => L_X6_places_9 w_w v1 n v2 y5)) else ((f_X6_isRow w_w v3).bind (fun z6 => if z6 = 0 then (some (.inr ((-1)))) else (if v2 = (-1) then ((f_X6_many w_w v3).bind (fun z9 => (some (v3 + 1 : Int32)).bind (fun y10 => L_X6_places_9 w_w v1 n z9 y10))) else ((f_X6_many w_w v3).bind (fun z11 => if v2 = z11 then ((f_X6_many w_w v3).bind (fun z13 => (some (v3 + 1 : Int32)).bind (fun y14 => L_X6_places_9 w_w v1 n z13 y14))) else (some (.inr ((-1)))))))))))
noncomputable def L_X6_places_61 (w_w : Nat → Int64) (v2 : Int32) : Nat → Int32 → Option ((Unit) ⊕ (Int32))
  | 0, _ => none
  | n + 1, v3 => (f_X6_keys w_w).bind (fun z17 => if z17 ≤ v3 then (some (.inl (()))) else (if v2 ≤ 0 then ((some (v3 + 1 : Int32)).bind (fun y20 => L_X6_places_61 w_w v2 n y20)) else ((f_X6_slotOf w_w v3).bind (fun z21 => (f_X6_byOf w_w v3).bind (fun z22 => (f_X6_reads w_w z21 z22).bind (fun z23 => if z23 = 0 then (some (.inr ((-1)))) else ((some (v3 + 1 : Int32)).bind (fun y25 => L_X6_places_61 w_w v2 n y25))))))))
noncomputable def f_X6_places (w_w : Nat → Int64) : Option (Int32) := (f_X6_slotsOfAll w_w).bind (fun z1 => (L_X6_places_9 w_w z1 4000 (-1) 0).bind (fun z15 => Sum.elim (fun e16 => (L_X6_places_61 w_w e16 4000 0).bind (fun z26 => Sum.elim (fun e27 => some (e16)) (fun r9 => some (r9)) z26)) (fun r9 => some (r9)) z15))
set_option maxHeartbeats 4000000 in
set_option maxRecDepth 100000 in
theorem c_X6_places (l : Launch) (D : va_G) (cI cJ cZ cQ : ClassId) (bs sz : Nat) (w : Nat → Nat) (w_undos : Int32) (w_seed : Int32) (w_entries : Int32) (w_w : Nat → Int64) (zr : Int32) (hf : f_X6_places w_w = some zr) : Met l yX6_places wsX6_places { frames := 2, cells := 0, slots := 0, locals := 43 } (va_Pc [.ref (w 0)] (Pr D cI cJ cZ cQ bs sz [oX6 w w_undos w_seed w_entries, aJ cJ (w 1) 3420 w_w])) (QrI zr) 0 0 no := by
  refine stM (cc := cX6_places) (maxL := 4) (ret := (some .int)) (by decide +kernel) rfl (Nat.le_of_ble_eq_true rfl) ?_
  intro p e s m args below meth c C0 hr hlocks hname hsz hP hDb hE ls hl
  have hAb : ∀ q, no q → bs ≤ q := fun _ h => h.elim
  obtain ⟨hx, hb, hml, hown, hts⟩ := id C0
  have hown : s.vm.findClass RX6 = some m.cls := hown
  obtain ⟨hK, hNW, -, tw, hZ, hT⟩ := id hE
  have hl : lv_has ls 4 [(0, .ref (w 0))] := hl
  have hS : va_S no s.heap s.heap [] := va_S.rf
  have W9 : ∀ (n : Nat) (v1 : Int32) (v2 : Int32) (v3 : Int32) (H : Heap) (locs : List Loc) (ls : Array Slot) (z : (Int32) ⊕ (Int32)), va_P D vwCl [oX6 w w_undos w_seed w_entries, aJ cJ (w 1) 3420 w_w] H → va_S no s.heap H locs → lv_has ls 4 [(0, .ref (w 0)), (1, .int v1), (2, .int v2), (3, .int v3)] → L_X6_places_9 w_w v1 n v2 v3 = some z → (∀ e9, z = Sum.inl e9 → ∀ (H : Heap) (locs : List Loc) (ls : Array Slot), va_P D vwCl [oX6 w w_undos w_seed w_entries, aJ cJ (w 1) 3420 w_w] H → va_S no s.heap H locs → lv_has ls 4 [(0, .ref (w 0)), (2, .int e9)] → W p l e { frames := 2, cells := 0, slots := 0, locals := 43 } s m args below meth c H locs 0 0 (MQ below (QrI zr) args s 0 0 no) (F0 m 59 ls [])) → (∀ r9, z = Sum.inr r9 → r9 = zr) → W p l e { frames := 2, cells := 0, slots := 0, locals := 43 } s m args below meth c H locs 0 0 (MQ below (QrI zr) args s 0 0 no) (F0 m 9 ls []) := by
    intro n
    induction n with
    | zero =>
      intro v1 v2 v3 H locs ls z hP hS hl hf
      exact absurd (show (none : Option ((Int32) ⊕ (Int32))) = some z from hf) (fun h => by cases h)
    | succ n ih =>
      intro v1 v2 v3 H locs ls z hP hS hl hf K K2
      rw [L_X6_places_9] at hf
      refine lv_iload_n hx hb dX6_places_9 rfl (lv_at hl 3 rfl) ?_
      refine lv_bipush (v := 6) hx hb dX6_places_10 (by decide) ?_
      refine lv_icmp_ge (tgt := 59) hx hb dX6_places_12 (by decide) (fun c2 => ?_) (fun c2 => ?_)
      · replace hf := oif c2 hf
        exact K _ (Option.some.inj hf).symm H locs ls hP hS (lv_sub hl [0, 2] rfl)
      · replace hf := oel c2 hf
        refine lv_iload_n hx hb dX6_places_15 rfl (lv_at hl 1 rfl) ?_
        refine lv_iload_n hx hb dX6_places_16 rfl (lv_at hl 3 rfl) ?_
        obtain ⟨z3, hz3, hf⟩ := obd hf
        refine kZ (runS (As := [.int v1, .int v3]) (rest := []) C0 hE hAb hP (hDb.addr rfl) hS [] (wc := []) (by decide) rfl (c_X6_has l D cI cJ cZ cQ bs H.size v1 v3 z3 hz3) (va_cwS 2 hts gX6_places_X6_has rfl rfl rfl (by decide +kernel) ⟨Nat.le_of_ble_eq_true rfl, Nat.le_of_ble_eq_true rfl⟩) rfl hl.1 rfl (Nat.le_of_ble_eq_true rfl) dX6_places_17 ⟨Nat.le_of_ble_eq_true rfl, Nat.le_of_ble_eq_true rfl⟩) hS hP (fun bz3 H locs hP hS => ?_)
        refine lv_if_eq (tgt := 53) hx hb dX6_places_20 (by decide) (fun c4 => ?_) (fun c4 => ?_)
        · replace hf := oif c4 hf
          obtain ⟨y5, ey5⟩ : ∃ y : Int32, y = v3 + 1 := ⟨_, rfl⟩
          replace hf := onm ey5 hf
          refine lv_iinc (v := y5) (lv' := [(3, .int y5), (0, .ref (w 0)), (1, .int v1), (2, .int v2)]) hx hb dX6_places_53 hl (k := 3) rfl (by rw [ey5]; rfl) (by decide) rfl (fun ls hl => ?_)
          refine lv_goto (tgt := 9) hx hb dX6_places_56 (by decide) ?_
          exact ih v1 v2 y5 H locs ls z hP hS (lv_sub hl [1, 2, 3, 0] rfl) hf K K2
        · replace hf := oel c4 hf
          refine lv_aload_n hx hb dX6_places_23 rfl (lv_at hl 0 rfl) ?_
          refine lv_iload_n hx hb dX6_places_24 rfl (lv_at hl 3 rfl) ?_
          obtain ⟨z6, hz6, hf⟩ := obd hf
          refine kZ (runV (As := [.int v3]) (rest := []) C0 hE hAb hP (hDb.addr rfl) hS [0, 1] (wc := [oX6 w w_undos w_seed w_entries, aJ cJ (w 1) 3420 w_w]) (by decide) rfl 0 rfl rfl (c_X6_isRow l D cI cJ cZ cQ bs H.size w w_undos w_seed w_entries w_w v3 z6 hz6) (cwV 1 hts gX6_places_X6_isRow rfl rfl rfl (by decide +kernel) ⟨Nat.le_of_ble_eq_true rfl, Nat.le_of_ble_eq_true rfl⟩) rfl hl.1 rfl (Nat.le_of_ble_eq_true rfl) dX6_places_25 ⟨Nat.le_of_ble_eq_true rfl, Nat.le_of_ble_eq_true rfl⟩) hS hP (fun bz6 H locs hP hS => ?_)
          refine lv_if_eq (tgt := 45) hx hb dX6_places_28 (by decide) (fun c7 => ?_) (fun c7 => ?_)
          · replace hf := oif c7 hf
            refine lv_iconst (v := (-1)) hx hb dX6_places_45 (by decide) ?_
            have er := K2 _ (Option.some.inj hf).symm
            exact rtI hx hb hr hS dX6_places_46 er hlocks
          · replace hf := oel c7 hf
            refine lv_iload_n hx hb dX6_places_31 rfl (lv_at hl 2 rfl) ?_
            refine lv_iconst (v := (-1)) hx hb dX6_places_32 (by decide) ?_
            refine lv_icmp_eq (tgt := 47) hx hb dX6_places_33 (by decide) (fun c8 => ?_) (fun c8 => ?_)
            · replace hf := oif c8 hf
              refine lv_aload_n hx hb dX6_places_47 rfl (lv_at hl 0 rfl) ?_
              refine lv_iload_n hx hb dX6_places_48 rfl (lv_at hl 3 rfl) ?_
              obtain ⟨z9, hz9, hf⟩ := obd hf
              refine kI (runV (As := [.int v3]) (rest := []) C0 hE hAb hP (hDb.addr rfl) hS [0, 1] (wc := [oX6 w w_undos w_seed w_entries, aJ cJ (w 1) 3420 w_w]) (by decide) rfl 0 rfl rfl (c_X6_many l D cI cJ cZ cQ bs H.size w w_undos w_seed w_entries w_w v3 z9 hz9) (cwV 1 hts gX6_places_X6_many rfl rfl rfl (by decide +kernel) ⟨Nat.le_of_ble_eq_true rfl, Nat.le_of_ble_eq_true rfl⟩) rfl hl.1 rfl (Nat.le_of_ble_eq_true rfl) dX6_places_49 ⟨Nat.le_of_ble_eq_true rfl, Nat.le_of_ble_eq_true rfl⟩) hS hP (fun H locs hP hS => ?_)
              refine lv_istore_n (lv' := [(2, .int z9), (0, .ref (w 0)), (1, .int v1), (3, .int v3)]) hx hb dX6_places_52 rfl hl (by decide) rfl (fun ls hl => ?_)
              obtain ⟨y10, ey10⟩ : ∃ y : Int32, y = v3 + 1 := ⟨_, rfl⟩
              replace hf := onm ey10 hf
              refine lv_iinc (v := y10) (lv' := [(3, .int y10), (2, .int z9), (0, .ref (w 0)), (1, .int v1)]) hx hb dX6_places_53 hl (k := 3) rfl (by rw [ey10]; rfl) (by decide) rfl (fun ls hl => ?_)
              refine lv_goto (tgt := 9) hx hb dX6_places_56 (by decide) ?_
              exact ih v1 z9 y10 H locs ls z hP hS (lv_sub hl [2, 3, 1, 0] rfl) hf K K2
            · replace hf := oel c8 hf
              refine lv_iload_n hx hb dX6_places_36 rfl (lv_at hl 2 rfl) ?_
              refine lv_aload_n hx hb dX6_places_37 rfl (lv_at hl 0 rfl) ?_
              refine lv_iload_n hx hb dX6_places_38 rfl (lv_at hl 3 rfl) ?_
              obtain ⟨z11, hz11, hf⟩ := obd hf
              refine kI (runV (As := [.int v3]) (rest := [.int v2]) C0 hE hAb hP (hDb.addr rfl) hS [0, 1] (wc := [oX6 w w_undos w_seed w_entries, aJ cJ (w 1) 3420 w_w]) (by decide) rfl 0 rfl rfl (c_X6_many l D cI cJ cZ cQ bs H.size w w_undos w_seed w_entries w_w v3 z11 hz11) (cwV 1 hts gX6_places_X6_many rfl rfl rfl (by decide +kernel) ⟨Nat.le_of_ble_eq_true rfl, Nat.le_of_ble_eq_true rfl⟩) rfl hl.1 rfl (Nat.le_of_ble_eq_true rfl) dX6_places_39 ⟨Nat.le_of_ble_eq_true rfl, Nat.le_of_ble_eq_true rfl⟩) hS hP (fun H locs hP hS => ?_)
              refine lv_icmp_eq (tgt := 47) hx hb dX6_places_42 (by decide) (fun c12 => ?_) (fun c12 => ?_)
              · replace hf := oif c12 hf
                refine lv_aload_n hx hb dX6_places_47 rfl (lv_at hl 0 rfl) ?_
                refine lv_iload_n hx hb dX6_places_48 rfl (lv_at hl 3 rfl) ?_
                obtain ⟨z13, hz13, hf⟩ := obd hf
                refine kI (runV (As := [.int v3]) (rest := []) C0 hE hAb hP (hDb.addr rfl) hS [0, 1] (wc := [oX6 w w_undos w_seed w_entries, aJ cJ (w 1) 3420 w_w]) (by decide) rfl 0 rfl rfl (c_X6_many l D cI cJ cZ cQ bs H.size w w_undos w_seed w_entries w_w v3 z13 hz13) (cwV 1 hts gX6_places_X6_many rfl rfl rfl (by decide +kernel) ⟨Nat.le_of_ble_eq_true rfl, Nat.le_of_ble_eq_true rfl⟩) rfl hl.1 rfl (Nat.le_of_ble_eq_true rfl) dX6_places_49 ⟨Nat.le_of_ble_eq_true rfl, Nat.le_of_ble_eq_true rfl⟩) hS hP (fun H locs hP hS => ?_)
                refine lv_istore_n (lv' := [(2, .int z13), (0, .ref (w 0)), (1, .int v1), (3, .int v3)]) hx hb dX6_places_52 rfl hl (by decide) rfl (fun ls hl => ?_)
                obtain ⟨y14, ey14⟩ : ∃ y : Int32, y = v3 + 1 := ⟨_, rfl⟩
                replace hf := onm ey14 hf
                refine lv_iinc (v := y14) (lv' := [(3, .int y14), (2, .int z13), (0, .ref (w 0)), (1, .int v1)]) hx hb dX6_places_53 hl (k := 3) rfl (by rw [ey14]; rfl) (by decide) rfl (fun ls hl => ?_)
                refine lv_goto (tgt := 9) hx hb dX6_places_56 (by decide) ?_
                exact ih v1 z13 y14 H locs ls z hP hS (lv_sub hl [2, 3, 1, 0] rfl) hf K K2
              · replace hf := oel c12 hf
                refine lv_iconst (v := (-1)) hx hb dX6_places_45 (by decide) ?_
                have er := K2 _ (Option.some.inj hf).symm
                exact rtI hx hb hr hS dX6_places_46 er hlocks
  have W61 : ∀ (n : Nat) (v2 : Int32) (v3 : Int32) (H : Heap) (locs : List Loc) (ls : Array Slot) (z : (Unit) ⊕ (Int32)), va_P D vwCl [oX6 w w_undos w_seed w_entries, aJ cJ (w 1) 3420 w_w] H → va_S no s.heap H locs → lv_has ls 4 [(0, .ref (w 0)), (2, .int v2), (3, .int v3)] → L_X6_places_61 w_w v2 n v3 = some z → (∀ e9, z = Sum.inl e9 → ∀ (H : Heap) (locs : List Loc) (ls : Array Slot), va_P D vwCl [oX6 w w_undos w_seed w_entries, aJ cJ (w 1) 3420 w_w] H → va_S no s.heap H locs → lv_has ls 4 [(2, .int v2)] → W p l e { frames := 2, cells := 0, slots := 0, locals := 43 } s m args below meth c H locs 0 0 (MQ below (QrI zr) args s 0 0 no) (F0 m 98 ls [])) → (∀ r9, z = Sum.inr r9 → r9 = zr) → W p l e { frames := 2, cells := 0, slots := 0, locals := 43 } s m args below meth c H locs 0 0 (MQ below (QrI zr) args s 0 0 no) (F0 m 61 ls []) := by
    intro n
    induction n with
    | zero =>
      intro v2 v3 H locs ls z hP hS hl hf
      exact absurd (show (none : Option ((Unit) ⊕ (Int32))) = some z from hf) (fun h => by cases h)
    | succ n ih =>
      intro v2 v3 H locs ls z hP hS hl hf K K2
      rw [L_X6_places_61] at hf
      refine lv_iload_n hx hb dX6_places_61 rfl (lv_at hl 2 rfl) ?_
      refine lv_aload_n hx hb dX6_places_62 rfl (lv_at hl 0 rfl) ?_
      obtain ⟨z17, hz17, hf⟩ := obd hf
      refine kI (runV (As := []) (rest := [.int v3]) C0 hE hAb hP (hDb.addr rfl) hS [0, 1] (wc := [oX6 w w_undos w_seed w_entries, aJ cJ (w 1) 3420 w_w]) (by decide) rfl 0 rfl rfl (c_X6_keys l D cI cJ cZ cQ bs H.size w w_undos w_seed w_entries w_w z17 hz17) (cwV 0 hts gX6_places_X6_keys rfl rfl rfl (by decide +kernel) ⟨Nat.le_of_ble_eq_true rfl, Nat.le_of_ble_eq_true rfl⟩) rfl hl.1 rfl (Nat.le_of_ble_eq_true rfl) dX6_places_63 ⟨Nat.le_of_ble_eq_true rfl, Nat.le_of_ble_eq_true rfl⟩) hS hP (fun H locs hP hS => ?_)
      refine lv_icmp_ge (tgt := 98) hx hb dX6_places_66 (by decide) (fun c18 => ?_) (fun c18 => ?_)
      · replace hf := oif c18 hf
        exact K _ (Option.some.inj hf).symm H locs ls hP hS (lv_sub hl [1] rfl)
      · replace hf := oel c18 hf
        refine lv_iload_n hx hb dX6_places_69 rfl (lv_at hl 1 rfl) ?_
        refine lv_if_le (tgt := 92) hx hb dX6_places_70 (by decide) (fun c19 => ?_) (fun c19 => ?_)
        · replace hf := oif c19 hf
          obtain ⟨y20, ey20⟩ : ∃ y : Int32, y = v3 + 1 := ⟨_, rfl⟩
          replace hf := onm ey20 hf
          refine lv_iinc (v := y20) (lv' := [(3, .int y20), (0, .ref (w 0)), (2, .int v2)]) hx hb dX6_places_92 hl (k := 2) rfl (by rw [ey20]; rfl) (by decide) rfl (fun ls hl => ?_)
          refine lv_goto (tgt := 61) hx hb dX6_places_95 (by decide) ?_
          exact ih v2 y20 H locs ls z hP hS (lv_sub hl [1, 2, 0] rfl) hf K K2
        · replace hf := oel c19 hf
          refine lv_aload_n hx hb dX6_places_73 rfl (lv_at hl 0 rfl) ?_
          refine lv_aload_n hx hb dX6_places_74 rfl (lv_at hl 0 rfl) ?_
          refine lv_iload_n hx hb dX6_places_75 rfl (lv_at hl 2 rfl) ?_
          obtain ⟨z21, hz21, hf⟩ := obd hf
          refine kI (runV (As := [.int v3]) (rest := [.ref (w 0)]) C0 hE hAb hP (hDb.addr rfl) hS [0, 1] (wc := [oX6 w w_undos w_seed w_entries, aJ cJ (w 1) 3420 w_w]) (by decide) rfl 0 rfl rfl (c_X6_slotOf l D cI cJ cZ cQ bs H.size w w_undos w_seed w_entries w_w v3 z21 hz21) (cwV 1 hts gX6_places_X6_slotOf rfl rfl rfl (by decide +kernel) ⟨Nat.le_of_ble_eq_true rfl, Nat.le_of_ble_eq_true rfl⟩) rfl hl.1 rfl (Nat.le_of_ble_eq_true rfl) dX6_places_76 ⟨Nat.le_of_ble_eq_true rfl, Nat.le_of_ble_eq_true rfl⟩) hS hP (fun H locs hP hS => ?_)
          refine lv_aload_n hx hb dX6_places_79 rfl (lv_at hl 0 rfl) ?_
          refine lv_iload_n hx hb dX6_places_80 rfl (lv_at hl 2 rfl) ?_
          obtain ⟨z22, hz22, hf⟩ := obd hf
          refine kI (runV (As := [.int v3]) (rest := [.int z21, .ref (w 0)]) C0 hE hAb hP (hDb.addr rfl) hS [0, 1] (wc := [oX6 w w_undos w_seed w_entries, aJ cJ (w 1) 3420 w_w]) (by decide) rfl 0 rfl rfl (c_X6_byOf l D cI cJ cZ cQ bs H.size w w_undos w_seed w_entries w_w v3 z22 hz22) (cwV 1 hts gX6_places_X6_byOf rfl rfl rfl (by decide +kernel) ⟨Nat.le_of_ble_eq_true rfl, Nat.le_of_ble_eq_true rfl⟩) rfl hl.1 rfl (Nat.le_of_ble_eq_true rfl) dX6_places_81 ⟨Nat.le_of_ble_eq_true rfl, Nat.le_of_ble_eq_true rfl⟩) hS hP (fun H locs hP hS => ?_)
          obtain ⟨z23, hz23, hf⟩ := obd hf
          refine kZ (runV (As := [.int z21, .int z22]) (rest := []) C0 hE hAb hP (hDb.addr rfl) hS [0, 1] (wc := [oX6 w w_undos w_seed w_entries, aJ cJ (w 1) 3420 w_w]) (by decide) rfl 0 rfl rfl (c_X6_reads l D cI cJ cZ cQ bs H.size w w_undos w_seed w_entries w_w z21 z22 z23 hz23) (cwV 2 hts gX6_places_X6_reads rfl rfl rfl (by decide +kernel) ⟨Nat.le_of_ble_eq_true rfl, Nat.le_of_ble_eq_true rfl⟩) rfl hl.1 rfl (Nat.le_of_ble_eq_true rfl) dX6_places_84 ⟨Nat.le_of_ble_eq_true rfl, Nat.le_of_ble_eq_true rfl⟩) hS hP (fun bz23 H locs hP hS => ?_)
          refine lv_if_ne (tgt := 92) hx hb dX6_places_87 (by decide) (fun c24 => ?_) (fun c24 => ?_)
          · replace hf := oel c24 hf
            obtain ⟨y25, ey25⟩ : ∃ y : Int32, y = v3 + 1 := ⟨_, rfl⟩
            replace hf := onm ey25 hf
            refine lv_iinc (v := y25) (lv' := [(3, .int y25), (0, .ref (w 0)), (2, .int v2)]) hx hb dX6_places_92 hl (k := 2) rfl (by rw [ey25]; rfl) (by decide) rfl (fun ls hl => ?_)
            refine lv_goto (tgt := 61) hx hb dX6_places_95 (by decide) ?_
            exact ih v2 y25 H locs ls z hP hS (lv_sub hl [1, 2, 0] rfl) hf K K2
          · replace hf := oif c24 hf
            refine lv_iconst (v := (-1)) hx hb dX6_places_90 (by decide) ?_
            have er := K2 _ (Option.some.inj hf).symm
            exact rtI hx hb hr hS dX6_places_91 er hlocks
  unfold f_X6_places at hf
  have go : ∀ (H : Heap) (locs : List Loc), va_P D vwCl [oX6 w w_undos w_seed w_entries, aJ cJ (w 1) 3420 w_w] H → va_S no s.heap H locs → W p l e { frames := 2, cells := 0, slots := 0, locals := 43 } s m args below meth c H locs 0 0 (MQ below (QrI zr) args s 0 0 no) (F0 m 0 ls []) := by
    intro H locs hP hS
    refine lv_aload_n hx hb dX6_places_0 rfl (lv_at hl 0 rfl) ?_
    obtain ⟨z1, hz1, hf⟩ := obd hf
    refine kI (runV (As := []) (rest := []) C0 hE hAb hP (hDb.addr rfl) hS [0, 1] (wc := [oX6 w w_undos w_seed w_entries, aJ cJ (w 1) 3420 w_w]) (by decide) rfl 0 rfl rfl (c_X6_slotsOfAll l D cI cJ cZ cQ bs H.size w w_undos w_seed w_entries w_w z1 hz1) (cwV 0 hts gX6_places_X6_slotsOfAll rfl rfl rfl (by decide +kernel) ⟨Nat.le_of_ble_eq_true rfl, Nat.le_of_ble_eq_true rfl⟩) rfl hl.1 rfl (Nat.le_of_ble_eq_true rfl) dX6_places_1 ⟨Nat.le_of_ble_eq_true rfl, Nat.le_of_ble_eq_true rfl⟩) hS hP (fun H locs hP hS => ?_)
    refine lv_istore_n (lv' := [(1, .int z1), (0, .ref (w 0))]) hx hb dX6_places_4 rfl hl (by decide) rfl (fun ls hl => ?_)
    refine lv_iconst (v := (-1)) hx hb dX6_places_5 (by decide) ?_
    refine lv_istore_n (lv' := [(2, .int (-1)), (1, .int z1), (0, .ref (w 0))]) hx hb dX6_places_6 rfl hl (by decide) rfl (fun ls hl => ?_)
    refine lv_iconst (v := 0) hx hb dX6_places_7 (by decide) ?_
    refine lv_istore_n (lv' := [(3, .int 0), (2, .int (-1)), (1, .int z1), (0, .ref (w 0))]) hx hb dX6_places_8 rfl hl (by decide) rfl (fun ls hl => ?_)
    obtain ⟨z15, hz15, hf⟩ := obd hf
    refine W9 4000 z1 (-1) 0 H locs ls z15 hP hS (lv_sub hl [3, 2, 1, 0] rfl) hz15 (fun e16 ee H locs ls hP hS hl => ?_) (fun r9 er => by subst er; exact Option.some.inj hf)
    subst ee
    replace hf := osl hf
    refine lv_iconst (v := 0) hx hb dX6_places_59 (by decide) ?_
    refine lv_istore_n (lv' := [(3, .int 0), (0, .ref (w 0)), (2, .int e16)]) hx hb dX6_places_60 rfl hl (by decide) rfl (fun ls hl => ?_)
    obtain ⟨z26, hz26, hf⟩ := obd hf
    refine W61 4000 e16 0 H locs ls z26 hP hS (lv_sub hl [1, 2, 0] rfl) hz26 (fun e27 ee H locs ls hP hS hl => ?_) (fun r9 er => by subst er; exact Option.some.inj hf)
    subst ee
    replace hf := osl hf
    refine lv_iload_n hx hb dX6_places_98 rfl (lv_at hl 0 rfl) ?_
    have er := Option.some.inj hf
    exact rtI hx hb hr hS dX6_places_99 er hlocks
  exact go s.heap [] hP hS
noncomputable def f_X6_isPlace (w_w : Nat → Int64) (x1 : Int32) : Option (Int32) := (f_X6_places w_w).bind (fun z1 => (f_X6_in (Int32.toInt64 x1) 0 (Int32.toInt64 (z1 - (1 : Int32)))).bind (fun z2 => some (z2)))
set_option maxHeartbeats 4000000 in
set_option maxRecDepth 100000 in
theorem c_X6_isPlace (l : Launch) (D : va_G) (cI cJ cZ cQ : ClassId) (bs sz : Nat) (w : Nat → Nat) (w_undos : Int32) (w_seed : Int32) (w_entries : Int32) (w_w : Nat → Int64) (x1 : Int32) (zr : Int32) (hf : f_X6_isPlace w_w x1 = some zr) : Met l yX6_isPlace wsX6_isPlace { frames := 3, cells := 0, slots := 0, locals := 66 } (va_Pc [.ref (w 0), .int x1] (Pr D cI cJ cZ cQ bs sz [oX6 w w_undos w_seed w_entries, aJ cJ (w 1) 3420 w_w])) (QrZ zr) 0 0 no := by
  refine stM (cc := cX6_isPlace) (maxL := 2) (ret := (some .boolean)) (by decide +kernel) rfl (Nat.le_of_ble_eq_true rfl) ?_
  intro p e s m args below meth c C0 hr hlocks hname hsz hP hDb hE ls hl
  have hAb : ∀ q, no q → bs ≤ q := fun _ h => h.elim
  obtain ⟨hx, hb, hml, hown, hts⟩ := id C0
  have hown : s.vm.findClass RX6 = some m.cls := hown
  obtain ⟨hK, hNW, -, tw, hZ, hT⟩ := id hE
  have hl : lv_has ls 2 [(0, .ref (w 0)), (1, .int x1)] := hl
  have hS : va_S no s.heap s.heap [] := va_S.rf
  unfold f_X6_isPlace at hf
  have go : ∀ (H : Heap) (locs : List Loc), va_P D vwCl [oX6 w w_undos w_seed w_entries, aJ cJ (w 1) 3420 w_w] H → va_S no s.heap H locs → W p l e { frames := 3, cells := 0, slots := 0, locals := 66 } s m args below meth c H locs 0 0 (MQ below (QrZ zr) args s 0 0 no) (F0 m 0 ls []) := by
    intro H locs hP hS
    refine lv_iload_n hx hb dX6_isPlace_0 rfl (lv_at hl 1 rfl) ?_
    refine lv_i2l (v := (Int32.toInt64 x1)) hx hb dX6_isPlace_1 rfl ?_
    refine lv_lconst (v := 0) hx hb dX6_isPlace_2 (by decide) ?_
    refine lv_aload_n hx hb dX6_isPlace_3 rfl (lv_at hl 0 rfl) ?_
    obtain ⟨z1, hz1, hf⟩ := obd hf
    refine kI (runV (As := []) (rest := [.long 0, .long (Int32.toInt64 x1)]) C0 hE hAb hP (hDb.addr rfl) hS [0, 1] (wc := [oX6 w w_undos w_seed w_entries, aJ cJ (w 1) 3420 w_w]) (by decide) rfl 0 rfl rfl (c_X6_places l D cI cJ cZ cQ bs H.size w w_undos w_seed w_entries w_w z1 hz1) (cwV 0 hts gX6_isPlace_X6_places rfl rfl rfl (by decide +kernel) ⟨Nat.le_of_ble_eq_true rfl, Nat.le_of_ble_eq_true rfl⟩) rfl hl.1 rfl (Nat.le_of_ble_eq_true rfl) dX6_isPlace_4 ⟨Nat.le_of_ble_eq_true rfl, Nat.le_of_ble_eq_true rfl⟩) hS hP (fun H locs hP hS => ?_)
    refine lv_iconst (v := 1) hx hb dX6_isPlace_7 (by decide) ?_
    refine lv_isub hx hb dX6_isPlace_8 ?_
    refine lv_i2l (v := (Int32.toInt64 (z1 - (1 : Int32)))) hx hb dX6_isPlace_9 rfl ?_
    obtain ⟨z2, hz2, hf⟩ := obd hf
    refine kZ (runS (As := [.long (Int32.toInt64 x1), .long 0, .long (Int32.toInt64 (z1 - (1 : Int32)))]) (rest := []) C0 hE hAb hP (hDb.addr rfl) hS [] (wc := []) (by decide) rfl (c_X6_in l D cI cJ cZ cQ bs H.size (Int32.toInt64 x1) 0 (Int32.toInt64 (z1 - (1 : Int32))) z2 hz2) (va_cwS 3 hts gX6_isPlace_X6_in rfl rfl rfl (by decide +kernel) ⟨Nat.le_of_ble_eq_true rfl, Nat.le_of_ble_eq_true rfl⟩) rfl hl.1 rfl (Nat.le_of_ble_eq_true rfl) dX6_isPlace_10 ⟨Nat.le_of_ble_eq_true rfl, Nat.le_of_ble_eq_true rfl⟩) hS hP (fun bz2 H locs hP hS => ?_)
    have er := Option.some.inj hf
    exact rtZ hx hb hr hS dX6_isPlace_13 er bz2 hlocks
  exact go s.heap [] hP hS
noncomputable def f_X6_cells (w_w : Nat → Int64) (x1 : Int32) (x2 : Int32) (x3 : Int32) (x4 : Int32) : Option (Int32) := (f_X6_sortRead w_w x1 x3 x2).bind (fun z1 => (f_X6_numberRead w_w x1 x3 x2).bind (fun z2 => (f_X6_sortRead w_w x1 x4 x2).bind (fun z3 => (f_X6_numberRead w_w x1 x4 x2).bind (fun z4 => (f_X6_against w_w z1 z2 z3 z4).bind (fun z5 => some (z5))))))
set_option maxHeartbeats 4000000 in
set_option maxRecDepth 100000 in
theorem c_X6_cells (l : Launch) (D : va_G) (cI cJ cZ cQ : ClassId) (bs sz : Nat) (w : Nat → Nat) (w_undos : Int32) (w_seed : Int32) (w_entries : Int32) (w_w : Nat → Int64) (x1 : Int32) (x2 : Int32) (x3 : Int32) (x4 : Int32) (zr : Int32) (hf : f_X6_cells w_w x1 x2 x3 x4 = some zr) : Met l yX6_cells wsX6_cells { frames := 3, cells := 0, slots := 0, locals := 81 } (va_Pc [.ref (w 0), .int x1, .int x2, .int x3, .int x4] (Pr D cI cJ cZ cQ bs sz [oX6 w w_undos w_seed w_entries, aJ cJ (w 1) 3420 w_w])) (QrI zr) 0 0 no := by
  refine stM (cc := cX6_cells) (maxL := 5) (ret := (some .int)) (by decide +kernel) rfl (Nat.le_of_ble_eq_true rfl) ?_
  intro p e s m args below meth c C0 hr hlocks hname hsz hP hDb hE ls hl
  have hAb : ∀ q, no q → bs ≤ q := fun _ h => h.elim
  obtain ⟨hx, hb, hml, hown, hts⟩ := id C0
  have hown : s.vm.findClass RX6 = some m.cls := hown
  obtain ⟨hK, hNW, -, tw, hZ, hT⟩ := id hE
  have hl : lv_has ls 5 [(0, .ref (w 0)), (1, .int x1), (2, .int x2), (3, .int x3), (4, .int x4)] := hl
  have hS : va_S no s.heap s.heap [] := va_S.rf
  unfold f_X6_cells at hf
  have go : ∀ (H : Heap) (locs : List Loc), va_P D vwCl [oX6 w w_undos w_seed w_entries, aJ cJ (w 1) 3420 w_w] H → va_S no s.heap H locs → W p l e { frames := 3, cells := 0, slots := 0, locals := 81 } s m args below meth c H locs 0 0 (MQ below (QrI zr) args s 0 0 no) (F0 m 0 ls []) := by
    intro H locs hP hS
    refine lv_aload_n hx hb dX6_cells_0 rfl (lv_at hl 0 rfl) ?_
    refine lv_aload_n hx hb dX6_cells_1 rfl (lv_at hl 0 rfl) ?_
    refine lv_iload_n hx hb dX6_cells_2 rfl (lv_at hl 1 rfl) ?_
    refine lv_iload_n hx hb dX6_cells_3 rfl (lv_at hl 3 rfl) ?_
    refine lv_iload_n hx hb dX6_cells_4 rfl (lv_at hl 2 rfl) ?_
    obtain ⟨z1, hz1, hf⟩ := obd hf
    refine kI (runV (As := [.int x1, .int x3, .int x2]) (rest := [.ref (w 0)]) C0 hE hAb hP (hDb.addr rfl) hS [0, 1] (wc := [oX6 w w_undos w_seed w_entries, aJ cJ (w 1) 3420 w_w]) (by decide) rfl 0 rfl rfl (c_X6_sortRead l D cI cJ cZ cQ bs H.size w w_undos w_seed w_entries w_w x1 x3 x2 z1 hz1) (cwV 3 hts gX6_cells_X6_sortRead rfl rfl rfl (by decide +kernel) ⟨Nat.le_of_ble_eq_true rfl, Nat.le_of_ble_eq_true rfl⟩) rfl hl.1 rfl (Nat.le_of_ble_eq_true rfl) dX6_cells_5 ⟨Nat.le_of_ble_eq_true rfl, Nat.le_of_ble_eq_true rfl⟩) hS hP (fun H locs hP hS => ?_)
    refine lv_aload_n hx hb dX6_cells_8 rfl (lv_at hl 0 rfl) ?_
    refine lv_iload_n hx hb dX6_cells_9 rfl (lv_at hl 1 rfl) ?_
    refine lv_iload_n hx hb dX6_cells_10 rfl (lv_at hl 3 rfl) ?_
    refine lv_iload_n hx hb dX6_cells_11 rfl (lv_at hl 2 rfl) ?_
    obtain ⟨z2, hz2, hf⟩ := obd hf
    refine kJ (runV (As := [.int x1, .int x3, .int x2]) (rest := [.int z1, .ref (w 0)]) C0 hE hAb hP (hDb.addr rfl) hS [0, 1] (wc := [oX6 w w_undos w_seed w_entries, aJ cJ (w 1) 3420 w_w]) (by decide) rfl 0 rfl rfl (c_X6_numberRead l D cI cJ cZ cQ bs H.size w w_undos w_seed w_entries w_w x1 x3 x2 z2 hz2) (cwV 3 hts gX6_cells_X6_numberRead rfl rfl rfl (by decide +kernel) ⟨Nat.le_of_ble_eq_true rfl, Nat.le_of_ble_eq_true rfl⟩) rfl hl.1 rfl (Nat.le_of_ble_eq_true rfl) dX6_cells_12 ⟨Nat.le_of_ble_eq_true rfl, Nat.le_of_ble_eq_true rfl⟩) hS hP (fun H locs hP hS => ?_)
    refine lv_aload_n hx hb dX6_cells_15 rfl (lv_at hl 0 rfl) ?_
    refine lv_iload_n hx hb dX6_cells_16 rfl (lv_at hl 1 rfl) ?_
    refine lv_iload hx hb dX6_cells_17 (lv_at hl 4 rfl) ?_
    refine lv_iload_n hx hb dX6_cells_19 rfl (lv_at hl 2 rfl) ?_
    obtain ⟨z3, hz3, hf⟩ := obd hf
    refine kI (runV (As := [.int x1, .int x4, .int x2]) (rest := [.long z2, .int z1, .ref (w 0)]) C0 hE hAb hP (hDb.addr rfl) hS [0, 1] (wc := [oX6 w w_undos w_seed w_entries, aJ cJ (w 1) 3420 w_w]) (by decide) rfl 0 rfl rfl (c_X6_sortRead l D cI cJ cZ cQ bs H.size w w_undos w_seed w_entries w_w x1 x4 x2 z3 hz3) (cwV 3 hts gX6_cells_X6_sortRead rfl rfl rfl (by decide +kernel) ⟨Nat.le_of_ble_eq_true rfl, Nat.le_of_ble_eq_true rfl⟩) rfl hl.1 rfl (Nat.le_of_ble_eq_true rfl) dX6_cells_20 ⟨Nat.le_of_ble_eq_true rfl, Nat.le_of_ble_eq_true rfl⟩) hS hP (fun H locs hP hS => ?_)
    refine lv_aload_n hx hb dX6_cells_23 rfl (lv_at hl 0 rfl) ?_
    refine lv_iload_n hx hb dX6_cells_24 rfl (lv_at hl 1 rfl) ?_
    refine lv_iload hx hb dX6_cells_25 (lv_at hl 4 rfl) ?_
    refine lv_iload_n hx hb dX6_cells_27 rfl (lv_at hl 2 rfl) ?_
    obtain ⟨z4, hz4, hf⟩ := obd hf
    refine kJ (runV (As := [.int x1, .int x4, .int x2]) (rest := [.int z3, .long z2, .int z1, .ref (w 0)]) C0 hE hAb hP (hDb.addr rfl) hS [0, 1] (wc := [oX6 w w_undos w_seed w_entries, aJ cJ (w 1) 3420 w_w]) (by decide) rfl 0 rfl rfl (c_X6_numberRead l D cI cJ cZ cQ bs H.size w w_undos w_seed w_entries w_w x1 x4 x2 z4 hz4) (cwV 3 hts gX6_cells_X6_numberRead rfl rfl rfl (by decide +kernel) ⟨Nat.le_of_ble_eq_true rfl, Nat.le_of_ble_eq_true rfl⟩) rfl hl.1 rfl (Nat.le_of_ble_eq_true rfl) dX6_cells_28 ⟨Nat.le_of_ble_eq_true rfl, Nat.le_of_ble_eq_true rfl⟩) hS hP (fun H locs hP hS => ?_)
    obtain ⟨z5, hz5, hf⟩ := obd hf
    refine kI (runV (As := [.int z1, .long z2, .int z3, .long z4]) (rest := []) C0 hE hAb hP (hDb.addr rfl) hS [0, 1] (wc := [oX6 w w_undos w_seed w_entries, aJ cJ (w 1) 3420 w_w]) (by decide) rfl 0 rfl rfl (c_X6_against l D cI cJ cZ cQ bs H.size w w_undos w_seed w_entries w_w z1 z2 z3 z4 z5 hz5) (cwV 4 hts gX6_cells_X6_against rfl rfl rfl (by decide +kernel) ⟨Nat.le_of_ble_eq_true rfl, Nat.le_of_ble_eq_true rfl⟩) rfl hl.1 rfl (Nat.le_of_ble_eq_true rfl) dX6_cells_31 ⟨Nat.le_of_ble_eq_true rfl, Nat.le_of_ble_eq_true rfl⟩) hS hP (fun H locs hP hS => ?_)
    have er := Option.some.inj hf
    exact rtI hx hb hr hS dX6_cells_34 er hlocks
  exact go s.heap [] hP hS
noncomputable def L_X6_by_3 (w_w : Nat → Int64) (v1 : Int32) (v2 : Int32) (v3 : Int32) : Nat → Int32 → Option ((Unit) ⊕ (Int32))
  | 0, _ => none
  | n + 1, v4 => (f_X6_keys w_w).bind (fun z1 => if z1 ≤ v4 then (some (.inl (()))) else ((f_X6_has v1 v4).bind (fun z3 => if z3 = 0 then ((some (v4 + 1 : Int32)).bind (fun y6 => L_X6_by_3 w_w v1 v2 v3 n y6)) else ((f_X6_slotOf w_w v4).bind (fun z7 => (f_X6_byOf w_w v4).bind (fun z8 => (f_X6_cells w_w z7 z8 v2 v3).bind (fun z9 => if z9 = 0 then ((some (v4 + 1 : Int32)).bind (fun y11 => L_X6_by_3 w_w v1 v2 v3 n y11)) else (if ib (((157 : Int32) + ((3 : Int32) * v4)) + (2 : Int32)) 3420 = true then (if (lg_cmp (w_w (((157 : Int32) + ((3 : Int32) * v4)) + (2 : Int32)).toNatClampNeg) 1) = 0 then (some (.inr ((-z9)))) else (some (.inr (z9)))) else none))))))))
noncomputable def f_X6_by (w_w : Nat → Int64) (x1 : Int32) (x2 : Int32) (x3 : Int32) : Option (Int32) := (L_X6_by_3 w_w x1 x2 x3 4000 0).bind (fun z14 => Sum.elim (fun e15 => some (0)) (fun r9 => some (r9)) z14)
set_option maxHeartbeats 4000000 in
set_option maxRecDepth 100000 in
theorem c_X6_by (l : Launch) (D : va_G) (cI cJ cZ cQ : ClassId) (bs sz : Nat) (w : Nat → Nat) (w_undos : Int32) (w_seed : Int32) (w_entries : Int32) (w_w : Nat → Int64) (x1 : Int32) (x2 : Int32) (x3 : Int32) (zr : Int32) (hf : f_X6_by w_w x1 x2 x3 = some zr) : Met l yX6_by wsX6_by { frames := 4, cells := 0, slots := 0, locals := 105 } (va_Pc [.ref (w 0), .int x1, .int x2, .int x3] (Pr D cI cJ cZ cQ bs sz [oX6 w w_undos w_seed w_entries, aJ cJ (w 1) 3420 w_w])) (QrI zr) 0 0 no := by
  refine stM (cc := cX6_by) (maxL := 6) (ret := (some .int)) (by decide +kernel) rfl (Nat.le_of_ble_eq_true rfl) ?_
  intro p e s m args below meth c C0 hr hlocks hname hsz hP hDb hE ls hl
  have hAb : ∀ q, no q → bs ≤ q := fun _ h => h.elim
  obtain ⟨hx, hb, hml, hown, hts⟩ := id C0
  have hown : s.vm.findClass RX6 = some m.cls := hown
  obtain ⟨hK, hNW, -, tw, hZ, hT⟩ := id hE
  have hl : lv_has ls 6 [(0, .ref (w 0)), (1, .int x1), (2, .int x2), (3, .int x3)] := hl
  have hS : va_S no s.heap s.heap [] := va_S.rf
  have hI_X6 := (show ∀ w ∈ wsX60, w ∈ wsX6_by by decide +kernel)
  have gf7 := hts (.fieldLink RX6 7 "RowRanksModel" "w" "[J") (by decide +kernel)
  have W3 : ∀ (n : Nat) (v1 : Int32) (v2 : Int32) (v3 : Int32) (v4 : Int32) (H : Heap) (locs : List Loc) (ls : Array Slot) (z : (Unit) ⊕ (Int32)), va_P D vwCl [oX6 w w_undos w_seed w_entries, aJ cJ (w 1) 3420 w_w] H → va_S no s.heap H locs → lv_has ls 6 [(0, .ref (w 0)), (1, .int v1), (2, .int v2), (3, .int v3), (4, .int v4)] → L_X6_by_3 w_w v1 v2 v3 n v4 = some z → (∀ e9, z = Sum.inl e9 → ∀ (H : Heap) (locs : List Loc) (ls : Array Slot), va_P D vwCl [oX6 w w_undos w_seed w_entries, aJ cJ (w 1) 3420 w_w] H → va_S no s.heap H locs → lv_has ls 6 [] → W p l e { frames := 4, cells := 0, slots := 0, locals := 105 } s m args below meth c H locs 0 0 (MQ below (QrI zr) args s 0 0 no) (F0 m 85 ls [])) → (∀ r9, z = Sum.inr r9 → r9 = zr) → W p l e { frames := 4, cells := 0, slots := 0, locals := 105 } s m args below meth c H locs 0 0 (MQ below (QrI zr) args s 0 0 no) (F0 m 3 ls []) := by
    intro n
    induction n with
    | zero =>
      intro v1 v2 v3 v4 H locs ls z hP hS hl hf
      exact absurd (show (none : Option ((Unit) ⊕ (Int32))) = some z from hf) (fun h => by cases h)
    | succ n ih =>
      intro v1 v2 v3 v4 H locs ls z hP hS hl hf K K2
      rw [L_X6_by_3] at hf
      refine lv_iload hx hb dX6_by_3 (lv_at hl 4 rfl) ?_
      refine lv_aload_n hx hb dX6_by_5 rfl (lv_at hl 0 rfl) ?_
      obtain ⟨z1, hz1, hf⟩ := obd hf
      refine kI (runV (As := []) (rest := [.int v4]) C0 hE hAb hP (hDb.addr rfl) hS [0, 1] (wc := [oX6 w w_undos w_seed w_entries, aJ cJ (w 1) 3420 w_w]) (by decide) rfl 0 rfl rfl (c_X6_keys l D cI cJ cZ cQ bs H.size w w_undos w_seed w_entries w_w z1 hz1) (cwV 0 hts gX6_by_X6_keys rfl rfl rfl (by decide +kernel) ⟨Nat.le_of_ble_eq_true rfl, Nat.le_of_ble_eq_true rfl⟩) rfl hl.1 rfl (Nat.le_of_ble_eq_true rfl) dX6_by_6 ⟨Nat.le_of_ble_eq_true rfl, Nat.le_of_ble_eq_true rfl⟩) hS hP (fun H locs hP hS => ?_)
      refine lv_icmp_ge (tgt := 85) hx hb dX6_by_9 (by decide) (fun c2 => ?_) (fun c2 => ?_)
      · replace hf := oif c2 hf
        exact K _ (Option.some.inj hf).symm H locs ls hP hS (lv_sub hl [] rfl)
      · replace hf := oel c2 hf
        refine lv_iload_n hx hb dX6_by_12 rfl (lv_at hl 1 rfl) ?_
        refine lv_iload hx hb dX6_by_13 (lv_at hl 4 rfl) ?_
        obtain ⟨z3, hz3, hf⟩ := obd hf
        refine kZ (runS (As := [.int v1, .int v4]) (rest := []) C0 hE hAb hP (hDb.addr rfl) hS [] (wc := []) (by decide) rfl (c_X6_has l D cI cJ cZ cQ bs H.size v1 v4 z3 hz3) (va_cwS 2 hts gX6_by_X6_has rfl rfl rfl (by decide +kernel) ⟨Nat.le_of_ble_eq_true rfl, Nat.le_of_ble_eq_true rfl⟩) rfl hl.1 rfl (Nat.le_of_ble_eq_true rfl) dX6_by_15 ⟨Nat.le_of_ble_eq_true rfl, Nat.le_of_ble_eq_true rfl⟩) hS hP (fun bz3 H locs hP hS => ?_)
        refine lv_if_eq (tgt := 42) hx hb dX6_by_18 (by decide) (fun c4 => ?_) (fun c4 => ?_)
        · replace hf := oif c4 hf
          refine lv_iconst (v := 0) hx hb dX6_by_42 (by decide) ?_
          refine lv_istore (lv' := [(5, .int 0), (0, .ref (w 0)), (1, .int v1), (2, .int v2), (3, .int v3), (4, .int v4)]) hx hb dX6_by_43 hl (by decide) rfl (fun ls hl => ?_)
          refine lv_iload hx hb dX6_by_45 (lv_at hl 0 rfl) ?_
          refine lv_if_eq (tgt := 79) hx hb dX6_by_47 (by decide) (fun _ => ?_) (fun h9 => absurd (by decide) h9)
          obtain ⟨y6, ey6⟩ : ∃ y : Int32, y = v4 + 1 := ⟨_, rfl⟩
          replace hf := onm ey6 hf
          refine lv_iinc (v := y6) (lv' := [(4, .int y6), (5, .int 0), (0, .ref (w 0)), (1, .int v1), (2, .int v2), (3, .int v3)]) hx hb dX6_by_79 hl (k := 5) rfl (by rw [ey6]; rfl) (by decide) rfl (fun ls hl => ?_)
          refine lv_goto (tgt := 3) hx hb dX6_by_82 (by decide) ?_
          exact ih v1 v2 v3 y6 H locs ls z hP hS (lv_sub hl [2, 3, 4, 5, 0] rfl) hf K K2
        · replace hf := oel c4 hf
          refine lv_aload_n hx hb dX6_by_21 rfl (lv_at hl 0 rfl) ?_
          refine lv_aload_n hx hb dX6_by_22 rfl (lv_at hl 0 rfl) ?_
          refine lv_iload hx hb dX6_by_23 (lv_at hl 4 rfl) ?_
          obtain ⟨z7, hz7, hf⟩ := obd hf
          refine kI (runV (As := [.int v4]) (rest := [.ref (w 0)]) C0 hE hAb hP (hDb.addr rfl) hS [0, 1] (wc := [oX6 w w_undos w_seed w_entries, aJ cJ (w 1) 3420 w_w]) (by decide) rfl 0 rfl rfl (c_X6_slotOf l D cI cJ cZ cQ bs H.size w w_undos w_seed w_entries w_w v4 z7 hz7) (cwV 1 hts gX6_by_X6_slotOf rfl rfl rfl (by decide +kernel) ⟨Nat.le_of_ble_eq_true rfl, Nat.le_of_ble_eq_true rfl⟩) rfl hl.1 rfl (Nat.le_of_ble_eq_true rfl) dX6_by_25 ⟨Nat.le_of_ble_eq_true rfl, Nat.le_of_ble_eq_true rfl⟩) hS hP (fun H locs hP hS => ?_)
          refine lv_aload_n hx hb dX6_by_28 rfl (lv_at hl 0 rfl) ?_
          refine lv_iload hx hb dX6_by_29 (lv_at hl 4 rfl) ?_
          obtain ⟨z8, hz8, hf⟩ := obd hf
          refine kI (runV (As := [.int v4]) (rest := [.int z7, .ref (w 0)]) C0 hE hAb hP (hDb.addr rfl) hS [0, 1] (wc := [oX6 w w_undos w_seed w_entries, aJ cJ (w 1) 3420 w_w]) (by decide) rfl 0 rfl rfl (c_X6_byOf l D cI cJ cZ cQ bs H.size w w_undos w_seed w_entries w_w v4 z8 hz8) (cwV 1 hts gX6_by_X6_byOf rfl rfl rfl (by decide +kernel) ⟨Nat.le_of_ble_eq_true rfl, Nat.le_of_ble_eq_true rfl⟩) rfl hl.1 rfl (Nat.le_of_ble_eq_true rfl) dX6_by_31 ⟨Nat.le_of_ble_eq_true rfl, Nat.le_of_ble_eq_true rfl⟩) hS hP (fun H locs hP hS => ?_)
          refine lv_iload_n hx hb dX6_by_34 rfl (lv_at hl 2 rfl) ?_
          refine lv_iload_n hx hb dX6_by_35 rfl (lv_at hl 3 rfl) ?_
          obtain ⟨z9, hz9, hf⟩ := obd hf
          refine kI (runV (As := [.int z7, .int z8, .int v2, .int v3]) (rest := []) C0 hE hAb hP (hDb.addr rfl) hS [0, 1] (wc := [oX6 w w_undos w_seed w_entries, aJ cJ (w 1) 3420 w_w]) (by decide) rfl 0 rfl rfl (c_X6_cells l D cI cJ cZ cQ bs H.size w w_undos w_seed w_entries w_w z7 z8 v2 v3 z9 hz9) (cwV 4 hts gX6_by_X6_cells rfl rfl rfl (by decide +kernel) ⟨Nat.le_of_ble_eq_true rfl, Nat.le_of_ble_eq_true rfl⟩) rfl hl.1 rfl (Nat.le_of_ble_eq_true rfl) dX6_by_36 ⟨Nat.le_of_ble_eq_true rfl, Nat.le_of_ble_eq_true rfl⟩) hS hP (fun H locs hP hS => ?_)
          refine lv_goto (tgt := 43) hx hb dX6_by_39 (by decide) ?_
          refine lv_istore (lv' := [(5, .int z9), (0, .ref (w 0)), (1, .int v1), (2, .int v2), (3, .int v3), (4, .int v4)]) hx hb dX6_by_43 hl (by decide) rfl (fun ls hl => ?_)
          refine lv_iload hx hb dX6_by_45 (lv_at hl 0 rfl) ?_
          refine lv_if_eq (tgt := 79) hx hb dX6_by_47 (by decide) (fun c10 => ?_) (fun c10 => ?_)
          · replace hf := oif c10 hf
            obtain ⟨y11, ey11⟩ : ∃ y : Int32, y = v4 + 1 := ⟨_, rfl⟩
            replace hf := onm ey11 hf
            refine lv_iinc (v := y11) (lv' := [(4, .int y11), (5, .int z9), (0, .ref (w 0)), (1, .int v1), (2, .int v2), (3, .int v3)]) hx hb dX6_by_79 hl (k := 5) rfl (by rw [ey11]; rfl) (by decide) rfl (fun ls hl => ?_)
            refine lv_goto (tgt := 3) hx hb dX6_by_82 (by decide) ?_
            exact ih v1 v2 v3 y11 H locs ls z hP hS (lv_sub hl [2, 3, 4, 5, 0] rfl) hf K K2
          · replace hf := oel c10 hf
            refine lv_aload_n hx hb dX6_by_50 rfl (lv_at hl 1 rfl) ?_
            refine va_get (D := D) (ci := 6) (v := .ref (w 1)) (C := RX6) (T := TX6) (N := 12) hx hb hts hI_X6 hown hK hP 0 rfl rfl 0 (by decide) gf7 (fun _ h9 => h9) rfl dX6_by_51 ?_
            refine lv_sipush (v := 157) hx hb dX6_by_54 (by decide) ?_
            refine lv_iconst (v := 3) hx hb dX6_by_57 (by decide) ?_
            refine lv_iload hx hb dX6_by_58 (lv_at hl 5 rfl) ?_
            refine lv_imul hx hb dX6_by_60 ?_
            refine lv_iadd hx hb dX6_by_61 ?_
            refine lv_iconst (v := 2) hx hb dX6_by_62 (by decide) ?_
            refine lv_iadd hx hb dX6_by_63 ?_
            obtain ⟨h12, hf⟩ := ogd hf
            refine va_lald hx hb hK hP 1 1 rfl rfl (ib_in h12) dX6_by_64 ?_
            refine lv_lconst (v := 1) hx hb dX6_by_65 (by decide) ?_
            refine W.lcmp hx hb dX6_by_66 ?_
            refine lv_if_ne (tgt := 76) hx hb dX6_by_67 (by decide) (fun c13 => ?_) (fun c13 => ?_)
            · replace hf := oel c13 hf
              refine lv_iload hx hb dX6_by_76 (lv_at hl 0 rfl) ?_
              have er := K2 _ (Option.some.inj hf).symm
              exact rtI hx hb hr hS dX6_by_78 er hlocks
            · replace hf := oif c13 hf
              refine lv_iload hx hb dX6_by_70 (lv_at hl 0 rfl) ?_
              refine lv_ineg hx hb dX6_by_72 ?_
              refine lv_goto (tgt := 78) hx hb dX6_by_73 (by decide) ?_
              have er := K2 _ (Option.some.inj hf).symm
              exact rtI hx hb hr hS dX6_by_78 er hlocks
  unfold f_X6_by at hf
  have go : ∀ (H : Heap) (locs : List Loc), va_P D vwCl [oX6 w w_undos w_seed w_entries, aJ cJ (w 1) 3420 w_w] H → va_S no s.heap H locs → W p l e { frames := 4, cells := 0, slots := 0, locals := 105 } s m args below meth c H locs 0 0 (MQ below (QrI zr) args s 0 0 no) (F0 m 0 ls []) := by
    intro H locs hP hS
    refine lv_iconst (v := 0) hx hb dX6_by_0 (by decide) ?_
    refine lv_istore (lv' := [(4, .int 0), (0, .ref (w 0)), (1, .int x1), (2, .int x2), (3, .int x3)]) hx hb dX6_by_1 hl (by decide) rfl (fun ls hl => ?_)
    obtain ⟨z14, hz14, hf⟩ := obd hf
    refine W3 4000 x1 x2 x3 0 H locs ls z14 hP hS (lv_sub hl [1, 2, 3, 4, 0] rfl) hz14 (fun e15 ee H locs ls hP hS hl => ?_) (fun r9 er => by subst er; exact Option.some.inj hf)
    subst ee
    replace hf := osl hf
    refine lv_iconst (v := 0) hx hb dX6_by_85 (by decide) ?_
    have er := Option.some.inj hf
    exact rtI hx hb hr hS dX6_by_86 er hlocks
  exact go s.heap [] hP hS
noncomputable def f_X6_isLess (w_w : Nat → Int64) (x1 : Int32) (x2 : Int32) : Option (Int32) := (f_X6_by w_w 15 x1 x2).bind (fun z1 => if 0 ≤ z1 then (some (0)) else (some (1)))
set_option maxHeartbeats 4000000 in
set_option maxRecDepth 100000 in
theorem c_X6_isLess (l : Launch) (D : va_G) (cI cJ cZ cQ : ClassId) (bs sz : Nat) (w : Nat → Nat) (w_undos : Int32) (w_seed : Int32) (w_entries : Int32) (w_w : Nat → Int64) (x1 : Int32) (x2 : Int32) (zr : Int32) (hf : f_X6_isLess w_w x1 x2 = some zr) : Met l yX6_isLess wsX6_isLess { frames := 5, cells := 0, slots := 0, locals := 130 } (va_Pc [.ref (w 0), .int x1, .int x2] (Pr D cI cJ cZ cQ bs sz [oX6 w w_undos w_seed w_entries, aJ cJ (w 1) 3420 w_w])) (QrZ zr) 0 0 no := by
  refine stM (cc := cX6_isLess) (maxL := 3) (ret := (some .boolean)) (by decide +kernel) rfl (Nat.le_of_ble_eq_true rfl) ?_
  intro p e s m args below meth c C0 hr hlocks hname hsz hP hDb hE ls hl
  have hAb : ∀ q, no q → bs ≤ q := fun _ h => h.elim
  obtain ⟨hx, hb, hml, hown, hts⟩ := id C0
  have hown : s.vm.findClass RX6 = some m.cls := hown
  obtain ⟨hK, hNW, -, tw, hZ, hT⟩ := id hE
  have hl : lv_has ls 3 [(0, .ref (w 0)), (1, .int x1), (2, .int x2)] := hl
  have hS : va_S no s.heap s.heap [] := va_S.rf
  unfold f_X6_isLess at hf
  have go : ∀ (H : Heap) (locs : List Loc), va_P D vwCl [oX6 w w_undos w_seed w_entries, aJ cJ (w 1) 3420 w_w] H → va_S no s.heap H locs → W p l e { frames := 5, cells := 0, slots := 0, locals := 130 } s m args below meth c H locs 0 0 (MQ below (QrZ zr) args s 0 0 no) (F0 m 0 ls []) := by
    intro H locs hP hS
    refine lv_aload_n hx hb dX6_isLess_0 rfl (lv_at hl 0 rfl) ?_
    refine lv_bipush (v := 15) hx hb dX6_isLess_1 (by decide) ?_
    refine lv_iload_n hx hb dX6_isLess_3 rfl (lv_at hl 1 rfl) ?_
    refine lv_iload_n hx hb dX6_isLess_4 rfl (lv_at hl 2 rfl) ?_
    obtain ⟨z1, hz1, hf⟩ := obd hf
    refine kI (runV (As := [.int 15, .int x1, .int x2]) (rest := []) C0 hE hAb hP (hDb.addr rfl) hS [0, 1] (wc := [oX6 w w_undos w_seed w_entries, aJ cJ (w 1) 3420 w_w]) (by decide) rfl 0 rfl rfl (c_X6_by l D cI cJ cZ cQ bs H.size w w_undos w_seed w_entries w_w 15 x1 x2 z1 hz1) (cwV 3 hts gX6_isLess_X6_by rfl rfl rfl (by decide +kernel) ⟨Nat.le_of_ble_eq_true rfl, Nat.le_of_ble_eq_true rfl⟩) rfl hl.1 rfl (Nat.le_of_ble_eq_true rfl) dX6_isLess_5 ⟨Nat.le_of_ble_eq_true rfl, Nat.le_of_ble_eq_true rfl⟩) hS hP (fun H locs hP hS => ?_)
    refine lv_if_ge (tgt := 15) hx hb dX6_isLess_8 (by decide) (fun c2 => ?_) (fun c2 => ?_)
    · replace hf := oif c2 hf
      refine lv_iconst (v := 0) hx hb dX6_isLess_15 (by decide) ?_
      have er := Option.some.inj hf
      exact rtZ hx hb hr hS dX6_isLess_16 er (by decide) hlocks
    · replace hf := oel c2 hf
      refine lv_iconst (v := 1) hx hb dX6_isLess_11 (by decide) ?_
      refine lv_goto (tgt := 16) hx hb dX6_isLess_12 (by decide) ?_
      have er := Option.some.inj hf
      exact rtZ hx hb hr hS dX6_isLess_16 er (by decide) hlocks
  exact go s.heap [] hP hS
noncomputable def L_X6_position_6 (w_w : Nat → Int64) (v1 : Int32) (v2 : Int32) (v3 : Int32) : Nat → Int32 → Int32 → Option (Int32)
  | 0, _, _ => none
  | n + 1, v4, v5 => if v3 ≤ v5 then (some (v4)) else ((f_X6_by w_w v1 v5 v2).bind (fun z2 => if z2 < 0 then ((some (v5 + 1 : Int32)).bind (fun y4 => L_X6_position_6 w_w v1 v2 v3 n (v4 + (1 : Int32)) y4)) else (if z2 = 0 then (if v2 ≤ v5 then ((some (v5 + 1 : Int32)).bind (fun y8 => L_X6_position_6 w_w v1 v2 v3 n (v4 + (0 : Int32)) y8)) else ((some (v5 + 1 : Int32)).bind (fun y9 => L_X6_position_6 w_w v1 v2 v3 n (v4 + (1 : Int32)) y9))) else ((some (v5 + 1 : Int32)).bind (fun y6 => L_X6_position_6 w_w v1 v2 v3 n (v4 + (0 : Int32)) y6)))))
noncomputable def f_X6_position (w_w : Nat → Int64) (x1 : Int32) (x2 : Int32) (x3 : Int32) : Option (Int32) := (L_X6_position_6 w_w x1 x2 x3 4000 0 0).bind (fun z10 => some (z10))
set_option maxHeartbeats 4000000 in
set_option maxRecDepth 100000 in
theorem c_X6_position (l : Launch) (D : va_G) (cI cJ cZ cQ : ClassId) (bs sz : Nat) (w : Nat → Nat) (w_undos : Int32) (w_seed : Int32) (w_entries : Int32) (w_w : Nat → Int64) (x1 : Int32) (x2 : Int32) (x3 : Int32) (zr : Int32) (hf : f_X6_position w_w x1 x2 x3 = some zr) : Met l yX6_position wsX6_position { frames := 5, cells := 0, slots := 0, locals := 130 } (va_Pc [.ref (w 0), .int x1, .int x2, .int x3] (Pr D cI cJ cZ cQ bs sz [oX6 w w_undos w_seed w_entries, aJ cJ (w 1) 3420 w_w])) (QrI zr) 0 0 no := by
  refine stM (cc := cX6_position) (maxL := 7) (ret := (some .int)) (by decide +kernel) rfl (Nat.le_of_ble_eq_true rfl) ?_
  intro p e s m args below meth c C0 hr hlocks hname hsz hP hDb hE ls hl
  have hAb : ∀ q, no q → bs ≤ q := fun _ h => h.elim
  obtain ⟨hx, hb, hml, hown, hts⟩ := id C0
  have hown : s.vm.findClass RX6 = some m.cls := hown
  obtain ⟨hK, hNW, -, tw, hZ, hT⟩ := id hE
  have hl : lv_has ls 7 [(0, .ref (w 0)), (1, .int x1), (2, .int x2), (3, .int x3)] := hl
  have hS : va_S no s.heap s.heap [] := va_S.rf
  have W6 : ∀ (n : Nat) (v1 : Int32) (v2 : Int32) (v3 : Int32) (v4 : Int32) (v5 : Int32) (H : Heap) (locs : List Loc) (ls : Array Slot) (z : Int32), va_P D vwCl [oX6 w w_undos w_seed w_entries, aJ cJ (w 1) 3420 w_w] H → va_S no s.heap H locs → lv_has ls 7 [(0, .ref (w 0)), (1, .int v1), (2, .int v2), (3, .int v3), (4, .int v4), (5, .int v5)] → L_X6_position_6 w_w v1 v2 v3 n v4 v5 = some z → (∀ (H : Heap) (locs : List Loc) (ls : Array Slot), va_P D vwCl [oX6 w w_undos w_seed w_entries, aJ cJ (w 1) 3420 w_w] H → va_S no s.heap H locs → lv_has ls 7 [(4, .int z)] → W p l e { frames := 5, cells := 0, slots := 0, locals := 130 } s m args below meth c H locs 0 0 (MQ below (QrI zr) args s 0 0 no) (F0 m 54 ls [])) → W p l e { frames := 5, cells := 0, slots := 0, locals := 130 } s m args below meth c H locs 0 0 (MQ below (QrI zr) args s 0 0 no) (F0 m 6 ls []) := by
    intro n
    induction n with
    | zero =>
      intro v1 v2 v3 v4 v5 H locs ls z hP hS hl hf
      exact absurd (show (none : Option (Int32)) = some z from hf) (fun h => by cases h)
    | succ n ih =>
      intro v1 v2 v3 v4 v5 H locs ls z hP hS hl hf K
      rw [L_X6_position_6] at hf
      refine lv_iload hx hb dX6_position_6 (lv_at hl 5 rfl) ?_
      refine lv_iload_n hx hb dX6_position_8 rfl (lv_at hl 3 rfl) ?_
      refine lv_icmp_ge (tgt := 54) hx hb dX6_position_9 (by decide) (fun c1 => ?_) (fun c1 => ?_)
      · replace hf := oif c1 hf
        have hf := Option.some.inj hf
        subst hf
        exact K H locs ls hP hS (lv_sub hl [4] rfl)
      · replace hf := oel c1 hf
        refine lv_aload_n hx hb dX6_position_12 rfl (lv_at hl 0 rfl) ?_
        refine lv_iload_n hx hb dX6_position_13 rfl (lv_at hl 1 rfl) ?_
        refine lv_iload hx hb dX6_position_14 (lv_at hl 5 rfl) ?_
        refine lv_iload_n hx hb dX6_position_16 rfl (lv_at hl 2 rfl) ?_
        obtain ⟨z2, hz2, hf⟩ := obd hf
        refine kI (runV (As := [.int v1, .int v5, .int v2]) (rest := []) C0 hE hAb hP (hDb.addr rfl) hS [0, 1] (wc := [oX6 w w_undos w_seed w_entries, aJ cJ (w 1) 3420 w_w]) (by decide) rfl 0 rfl rfl (c_X6_by l D cI cJ cZ cQ bs H.size w w_undos w_seed w_entries w_w v1 v5 v2 z2 hz2) (cwV 3 hts gX6_position_X6_by rfl rfl rfl (by decide +kernel) ⟨Nat.le_of_ble_eq_true rfl, Nat.le_of_ble_eq_true rfl⟩) rfl hl.1 rfl (Nat.le_of_ble_eq_true rfl) dX6_position_17 ⟨Nat.le_of_ble_eq_true rfl, Nat.le_of_ble_eq_true rfl⟩) hS hP (fun H locs hP hS => ?_)
        refine lv_istore (lv' := [(6, .int z2), (0, .ref (w 0)), (1, .int v1), (2, .int v2), (3, .int v3), (4, .int v4), (5, .int v5)]) hx hb dX6_position_20 hl (by decide) rfl (fun ls hl => ?_)
        refine lv_iload hx hb dX6_position_22 (lv_at hl 5 rfl) ?_
        refine lv_iload hx hb dX6_position_24 (lv_at hl 0 rfl) ?_
        refine lv_if_lt (tgt := 40) hx hb dX6_position_26 (by decide) (fun c3 => ?_) (fun c3 => ?_)
        · replace hf := oif c3 hf
          refine lv_iconst (v := 1) hx hb dX6_position_40 (by decide) ?_
          refine lv_goto (tgt := 45) hx hb dX6_position_41 (by decide) ?_
          refine lv_iadd hx hb dX6_position_45 ?_
          refine lv_istore (lv' := [(4, .int (v4 + (1 : Int32))), (6, .int z2), (0, .ref (w 0)), (1, .int v1), (2, .int v2), (3, .int v3), (5, .int v5)]) hx hb dX6_position_46 hl (by decide) rfl (fun ls hl => ?_)
          obtain ⟨y4, ey4⟩ : ∃ y : Int32, y = v5 + 1 := ⟨_, rfl⟩
          replace hf := onm ey4 hf
          refine lv_iinc (v := y4) (lv' := [(5, .int y4), (4, .int (v4 + (1 : Int32))), (6, .int z2), (0, .ref (w 0)), (1, .int v1), (2, .int v2), (3, .int v3)]) hx hb dX6_position_48 hl (k := 6) rfl (by rw [ey4]; rfl) (by decide) rfl (fun ls hl => ?_)
          refine lv_goto (tgt := 6) hx hb dX6_position_51 (by decide) ?_
          exact ih v1 v2 v3 (v4 + (1 : Int32)) y4 H locs ls z hP hS (lv_sub hl [3, 4, 5, 6, 1, 0] rfl) hf K
        · replace hf := oel c3 hf
          refine lv_iload hx hb dX6_position_29 (lv_at hl 0 rfl) ?_
          refine lv_if_ne (tgt := 44) hx hb dX6_position_31 (by decide) (fun c5 => ?_) (fun c5 => ?_)
          · replace hf := oel c5 hf
            refine lv_iconst (v := 0) hx hb dX6_position_44 (by decide) ?_
            refine lv_iadd hx hb dX6_position_45 ?_
            refine lv_istore (lv' := [(4, .int (v4 + (0 : Int32))), (6, .int z2), (0, .ref (w 0)), (1, .int v1), (2, .int v2), (3, .int v3), (5, .int v5)]) hx hb dX6_position_46 hl (by decide) rfl (fun ls hl => ?_)
            obtain ⟨y6, ey6⟩ : ∃ y : Int32, y = v5 + 1 := ⟨_, rfl⟩
            replace hf := onm ey6 hf
            refine lv_iinc (v := y6) (lv' := [(5, .int y6), (4, .int (v4 + (0 : Int32))), (6, .int z2), (0, .ref (w 0)), (1, .int v1), (2, .int v2), (3, .int v3)]) hx hb dX6_position_48 hl (k := 6) rfl (by rw [ey6]; rfl) (by decide) rfl (fun ls hl => ?_)
            refine lv_goto (tgt := 6) hx hb dX6_position_51 (by decide) ?_
            exact ih v1 v2 v3 (v4 + (0 : Int32)) y6 H locs ls z hP hS (lv_sub hl [3, 4, 5, 6, 1, 0] rfl) hf K
          · replace hf := oif c5 hf
            refine lv_iload hx hb dX6_position_34 (lv_at hl 6 rfl) ?_
            refine lv_iload_n hx hb dX6_position_36 rfl (lv_at hl 3 rfl) ?_
            refine lv_icmp_ge (tgt := 44) hx hb dX6_position_37 (by decide) (fun c7 => ?_) (fun c7 => ?_)
            · replace hf := oif c7 hf
              refine lv_iconst (v := 0) hx hb dX6_position_44 (by decide) ?_
              refine lv_iadd hx hb dX6_position_45 ?_
              refine lv_istore (lv' := [(4, .int (v4 + (0 : Int32))), (6, .int z2), (0, .ref (w 0)), (1, .int v1), (2, .int v2), (3, .int v3), (5, .int v5)]) hx hb dX6_position_46 hl (by decide) rfl (fun ls hl => ?_)
              obtain ⟨y8, ey8⟩ : ∃ y : Int32, y = v5 + 1 := ⟨_, rfl⟩
              replace hf := onm ey8 hf
              refine lv_iinc (v := y8) (lv' := [(5, .int y8), (4, .int (v4 + (0 : Int32))), (6, .int z2), (0, .ref (w 0)), (1, .int v1), (2, .int v2), (3, .int v3)]) hx hb dX6_position_48 hl (k := 6) rfl (by rw [ey8]; rfl) (by decide) rfl (fun ls hl => ?_)
              refine lv_goto (tgt := 6) hx hb dX6_position_51 (by decide) ?_
              exact ih v1 v2 v3 (v4 + (0 : Int32)) y8 H locs ls z hP hS (lv_sub hl [3, 4, 5, 6, 1, 0] rfl) hf K
            · replace hf := oel c7 hf
              refine lv_iconst (v := 1) hx hb dX6_position_40 (by decide) ?_
              refine lv_goto (tgt := 45) hx hb dX6_position_41 (by decide) ?_
              refine lv_iadd hx hb dX6_position_45 ?_
              refine lv_istore (lv' := [(4, .int (v4 + (1 : Int32))), (6, .int z2), (0, .ref (w 0)), (1, .int v1), (2, .int v2), (3, .int v3), (5, .int v5)]) hx hb dX6_position_46 hl (by decide) rfl (fun ls hl => ?_)
              obtain ⟨y9, ey9⟩ : ∃ y : Int32, y = v5 + 1 := ⟨_, rfl⟩
              replace hf := onm ey9 hf
              refine lv_iinc (v := y9) (lv' := [(5, .int y9), (4, .int (v4 + (1 : Int32))), (6, .int z2), (0, .ref (w 0)), (1, .int v1), (2, .int v2), (3, .int v3)]) hx hb dX6_position_48 hl (k := 6) rfl (by rw [ey9]; rfl) (by decide) rfl (fun ls hl => ?_)
              refine lv_goto (tgt := 6) hx hb dX6_position_51 (by decide) ?_
              exact ih v1 v2 v3 (v4 + (1 : Int32)) y9 H locs ls z hP hS (lv_sub hl [3, 4, 5, 6, 1, 0] rfl) hf K
  unfold f_X6_position at hf
  have go : ∀ (H : Heap) (locs : List Loc), va_P D vwCl [oX6 w w_undos w_seed w_entries, aJ cJ (w 1) 3420 w_w] H → va_S no s.heap H locs → W p l e { frames := 5, cells := 0, slots := 0, locals := 130 } s m args below meth c H locs 0 0 (MQ below (QrI zr) args s 0 0 no) (F0 m 0 ls []) := by
    intro H locs hP hS
    refine lv_iconst (v := 0) hx hb dX6_position_0 (by decide) ?_
    refine lv_istore (lv' := [(4, .int 0), (0, .ref (w 0)), (1, .int x1), (2, .int x2), (3, .int x3)]) hx hb dX6_position_1 hl (by decide) rfl (fun ls hl => ?_)
    refine lv_iconst (v := 0) hx hb dX6_position_3 (by decide) ?_
    refine lv_istore (lv' := [(5, .int 0), (4, .int 0), (0, .ref (w 0)), (1, .int x1), (2, .int x2), (3, .int x3)]) hx hb dX6_position_4 hl (by decide) rfl (fun ls hl => ?_)
    obtain ⟨z10, hz10, hf⟩ := obd hf
    refine W6 4000 x1 x2 x3 0 0 H locs ls z10 hP hS (lv_sub hl [2, 3, 4, 5, 1, 0] rfl) hz10 (fun H locs ls hP hS hl => ?_)
    refine lv_iload hx hb dX6_position_54 (lv_at hl 0 rfl) ?_
    have er := Option.some.inj hf
    exact rtI hx hb hr hS dX6_position_56 er hlocks
  exact go s.heap [] hP hS
noncomputable def L_X6_pairs_17 (w_w : Nat → Int64) (v1 : Int32) (v2 : Int32) (v4 : Int32) : Nat → Int32 → Int32 → Option (Int32)
  | 0, _, _ => none
  | n + 1, v3, v5 => if v1 ≤ v5 then (some (v3)) else ((f_X6_by w_w 15 v4 v5).bind (fun z3 => if z3 = v2 then ((some (v5 + 1 : Int32)).bind (fun y6 => L_X6_pairs_17 w_w v1 v2 v4 n (v3 + (1 : Int32)) y6)) else ((some (v5 + 1 : Int32)).bind (fun y5 => L_X6_pairs_17 w_w v1 v2 v4 n (v3 + (0 : Int32)) y5))))
noncomputable def L_X6_pairs_5 (w_w : Nat → Int64) (v1 : Int32) (v2 : Int32) : Nat → Int32 → Int32 → Option (Int32)
  | 0, _, _ => none
  | n + 1, v3, v4 => if v1 ≤ v4 then (some (v3)) else ((L_X6_pairs_17 w_w v1 v2 v4 4000 v3 (v4 + (1 : Int32))).bind (fun z7 => (some (v4 + 1 : Int32)).bind (fun y8 => L_X6_pairs_5 w_w v1 v2 n z7 y8)))
noncomputable def f_X6_pairs (w_w : Nat → Int64) (x1 : Int32) (x2 : Int32) : Option (Int32) := (L_X6_pairs_5 w_w x1 x2 4000 0 0).bind (fun z9 => some (z9))
set_option maxHeartbeats 4000000 in
set_option maxRecDepth 100000 in
theorem c_X6_pairs (l : Launch) (D : va_G) (cI cJ cZ cQ : ClassId) (bs sz : Nat) (w : Nat → Nat) (w_undos : Int32) (w_seed : Int32) (w_entries : Int32) (w_w : Nat → Int64) (x1 : Int32) (x2 : Int32) (zr : Int32) (hf : f_X6_pairs w_w x1 x2 = some zr) : Met l yX6_pairs wsX6_pairs { frames := 5, cells := 0, slots := 0, locals := 130 } (va_Pc [.ref (w 0), .int x1, .int x2] (Pr D cI cJ cZ cQ bs sz [oX6 w w_undos w_seed w_entries, aJ cJ (w 1) 3420 w_w])) (QrI zr) 0 0 no := by
  refine stM (cc := cX6_pairs) (maxL := 6) (ret := (some .int)) (by decide +kernel) rfl (Nat.le_of_ble_eq_true rfl) ?_
  intro p e s m args below meth c C0 hr hlocks hname hsz hP hDb hE ls hl
  have hAb : ∀ q, no q → bs ≤ q := fun _ h => h.elim
  obtain ⟨hx, hb, hml, hown, hts⟩ := id C0
  have hown : s.vm.findClass RX6 = some m.cls := hown
  obtain ⟨hK, hNW, -, tw, hZ, hT⟩ := id hE
  have hl : lv_has ls 6 [(0, .ref (w 0)), (1, .int x1), (2, .int x2)] := hl
  have hS : va_S no s.heap s.heap [] := va_S.rf
  have W17 : ∀ (n : Nat) (v1 : Int32) (v2 : Int32) (v3 : Int32) (v4 : Int32) (v5 : Int32) (H : Heap) (locs : List Loc) (ls : Array Slot) (z : Int32), va_P D vwCl [oX6 w w_undos w_seed w_entries, aJ cJ (w 1) 3420 w_w] H → va_S no s.heap H locs → lv_has ls 6 [(0, .ref (w 0)), (1, .int v1), (2, .int v2), (3, .int v3), (4, .int v4), (5, .int v5)] → L_X6_pairs_17 w_w v1 v2 v4 n v3 v5 = some z → (∀ (H : Heap) (locs : List Loc) (ls : Array Slot), va_P D vwCl [oX6 w w_undos w_seed w_entries, aJ cJ (w 1) 3420 w_w] H → va_S no s.heap H locs → lv_has ls 6 [(0, .ref (w 0)), (1, .int v1), (2, .int v2), (3, .int z), (4, .int v4)] → W p l e { frames := 5, cells := 0, slots := 0, locals := 130 } s m args below meth c H locs 0 0 (MQ below (QrI zr) args s 0 0 no) (F0 m 51 ls [])) → W p l e { frames := 5, cells := 0, slots := 0, locals := 130 } s m args below meth c H locs 0 0 (MQ below (QrI zr) args s 0 0 no) (F0 m 17 ls []) := by
    intro n
    induction n with
    | zero =>
      intro v1 v2 v3 v4 v5 H locs ls z hP hS hl hf
      exact absurd (show (none : Option (Int32)) = some z from hf) (fun h => by cases h)
    | succ n ih =>
      intro v1 v2 v3 v4 v5 H locs ls z hP hS hl hf K
      rw [L_X6_pairs_17] at hf
      refine lv_iload hx hb dX6_pairs_17 (lv_at hl 5 rfl) ?_
      refine lv_iload_n hx hb dX6_pairs_19 rfl (lv_at hl 1 rfl) ?_
      refine lv_icmp_ge (tgt := 51) hx hb dX6_pairs_20 (by decide) (fun c2 => ?_) (fun c2 => ?_)
      · replace hf := oif c2 hf
        have hf := Option.some.inj hf
        subst hf
        exact K H locs ls hP hS (lv_sub hl [0, 1, 2, 3, 4] rfl)
      · replace hf := oel c2 hf
        refine lv_iload_n hx hb dX6_pairs_23 rfl (lv_at hl 3 rfl) ?_
        refine lv_aload_n hx hb dX6_pairs_24 rfl (lv_at hl 0 rfl) ?_
        refine lv_bipush (v := 15) hx hb dX6_pairs_25 (by decide) ?_
        refine lv_iload hx hb dX6_pairs_27 (lv_at hl 4 rfl) ?_
        refine lv_iload hx hb dX6_pairs_29 (lv_at hl 5 rfl) ?_
        obtain ⟨z3, hz3, hf⟩ := obd hf
        refine kI (runV (As := [.int 15, .int v4, .int v5]) (rest := [.int v3]) C0 hE hAb hP (hDb.addr rfl) hS [0, 1] (wc := [oX6 w w_undos w_seed w_entries, aJ cJ (w 1) 3420 w_w]) (by decide) rfl 0 rfl rfl (c_X6_by l D cI cJ cZ cQ bs H.size w w_undos w_seed w_entries w_w 15 v4 v5 z3 hz3) (cwV 3 hts gX6_pairs_X6_by rfl rfl rfl (by decide +kernel) ⟨Nat.le_of_ble_eq_true rfl, Nat.le_of_ble_eq_true rfl⟩) rfl hl.1 rfl (Nat.le_of_ble_eq_true rfl) dX6_pairs_31 ⟨Nat.le_of_ble_eq_true rfl, Nat.le_of_ble_eq_true rfl⟩) hS hP (fun H locs hP hS => ?_)
        refine lv_iload_n hx hb dX6_pairs_34 rfl (lv_at hl 2 rfl) ?_
        refine lv_icmp_ne (tgt := 42) hx hb dX6_pairs_35 (by decide) (fun c4 => ?_) (fun c4 => ?_)
        · replace hf := oel c4 hf
          refine lv_iconst (v := 0) hx hb dX6_pairs_42 (by decide) ?_
          refine lv_iadd hx hb dX6_pairs_43 ?_
          refine lv_istore_n (lv' := [(3, .int (v3 + (0 : Int32))), (0, .ref (w 0)), (1, .int v1), (2, .int v2), (4, .int v4), (5, .int v5)]) hx hb dX6_pairs_44 rfl hl (by decide) rfl (fun ls hl => ?_)
          obtain ⟨y5, ey5⟩ : ∃ y : Int32, y = v5 + 1 := ⟨_, rfl⟩
          replace hf := onm ey5 hf
          refine lv_iinc (v := y5) (lv' := [(5, .int y5), (3, .int (v3 + (0 : Int32))), (0, .ref (w 0)), (1, .int v1), (2, .int v2), (4, .int v4)]) hx hb dX6_pairs_45 hl (k := 5) rfl (by rw [ey5]; rfl) (by decide) rfl (fun ls hl => ?_)
          refine lv_goto (tgt := 17) hx hb dX6_pairs_48 (by decide) ?_
          exact ih v1 v2 (v3 + (0 : Int32)) v4 y5 H locs ls z hP hS (lv_sub hl [2, 3, 4, 1, 5, 0] rfl) hf K
        · replace hf := oif c4 hf
          refine lv_iconst (v := 1) hx hb dX6_pairs_38 (by decide) ?_
          refine lv_goto (tgt := 43) hx hb dX6_pairs_39 (by decide) ?_
          refine lv_iadd hx hb dX6_pairs_43 ?_
          refine lv_istore_n (lv' := [(3, .int (v3 + (1 : Int32))), (0, .ref (w 0)), (1, .int v1), (2, .int v2), (4, .int v4), (5, .int v5)]) hx hb dX6_pairs_44 rfl hl (by decide) rfl (fun ls hl => ?_)
          obtain ⟨y6, ey6⟩ : ∃ y : Int32, y = v5 + 1 := ⟨_, rfl⟩
          replace hf := onm ey6 hf
          refine lv_iinc (v := y6) (lv' := [(5, .int y6), (3, .int (v3 + (1 : Int32))), (0, .ref (w 0)), (1, .int v1), (2, .int v2), (4, .int v4)]) hx hb dX6_pairs_45 hl (k := 5) rfl (by rw [ey6]; rfl) (by decide) rfl (fun ls hl => ?_)
          refine lv_goto (tgt := 17) hx hb dX6_pairs_48 (by decide) ?_
          exact ih v1 v2 (v3 + (1 : Int32)) v4 y6 H locs ls z hP hS (lv_sub hl [2, 3, 4, 1, 5, 0] rfl) hf K
  have W5 : ∀ (n : Nat) (v1 : Int32) (v2 : Int32) (v3 : Int32) (v4 : Int32) (H : Heap) (locs : List Loc) (ls : Array Slot) (z : Int32), va_P D vwCl [oX6 w w_undos w_seed w_entries, aJ cJ (w 1) 3420 w_w] H → va_S no s.heap H locs → lv_has ls 6 [(0, .ref (w 0)), (1, .int v1), (2, .int v2), (3, .int v3), (4, .int v4)] → L_X6_pairs_5 w_w v1 v2 n v3 v4 = some z → (∀ (H : Heap) (locs : List Loc) (ls : Array Slot), va_P D vwCl [oX6 w w_undos w_seed w_entries, aJ cJ (w 1) 3420 w_w] H → va_S no s.heap H locs → lv_has ls 6 [(3, .int z)] → W p l e { frames := 5, cells := 0, slots := 0, locals := 130 } s m args below meth c H locs 0 0 (MQ below (QrI zr) args s 0 0 no) (F0 m 57 ls [])) → W p l e { frames := 5, cells := 0, slots := 0, locals := 130 } s m args below meth c H locs 0 0 (MQ below (QrI zr) args s 0 0 no) (F0 m 5 ls []) := by
    intro n
    induction n with
    | zero =>
      intro v1 v2 v3 v4 H locs ls z hP hS hl hf
      exact absurd (show (none : Option (Int32)) = some z from hf) (fun h => by cases h)
    | succ n ih =>
      intro v1 v2 v3 v4 H locs ls z hP hS hl hf K
      rw [L_X6_pairs_5] at hf
      refine lv_iload hx hb dX6_pairs_5 (lv_at hl 4 rfl) ?_
      refine lv_iload_n hx hb dX6_pairs_7 rfl (lv_at hl 1 rfl) ?_
      refine lv_icmp_ge (tgt := 57) hx hb dX6_pairs_8 (by decide) (fun c1 => ?_) (fun c1 => ?_)
      · replace hf := oif c1 hf
        have hf := Option.some.inj hf
        subst hf
        exact K H locs ls hP hS (lv_sub hl [3] rfl)
      · replace hf := oel c1 hf
        refine lv_iload hx hb dX6_pairs_11 (lv_at hl 4 rfl) ?_
        refine lv_iconst (v := 1) hx hb dX6_pairs_13 (by decide) ?_
        refine lv_iadd hx hb dX6_pairs_14 ?_
        refine lv_istore (lv' := [(5, .int (v4 + (1 : Int32))), (0, .ref (w 0)), (1, .int v1), (2, .int v2), (3, .int v3), (4, .int v4)]) hx hb dX6_pairs_15 hl (by decide) rfl (fun ls hl => ?_)
        obtain ⟨z7, hz7, hf⟩ := obd hf
        refine W17 4000 v1 v2 v3 v4 (v4 + (1 : Int32)) H locs ls z7 hP hS (lv_sub hl [1, 2, 3, 4, 5, 0] rfl) hz7 (fun H locs ls hP hS hl => ?_)
        obtain ⟨y8, ey8⟩ : ∃ y : Int32, y = v4 + 1 := ⟨_, rfl⟩
        replace hf := onm ey8 hf
        refine lv_iinc (v := y8) (lv' := [(4, .int y8), (0, .ref (w 0)), (1, .int v1), (2, .int v2), (3, .int z7)]) hx hb dX6_pairs_51 hl (k := 4) rfl (by rw [ey8]; rfl) (by decide) rfl (fun ls hl => ?_)
        refine lv_goto (tgt := 5) hx hb dX6_pairs_54 (by decide) ?_
        exact ih v1 v2 z7 y8 H locs ls z hP hS (lv_sub hl [1, 2, 3, 4, 0] rfl) hf K
  unfold f_X6_pairs at hf
  have go : ∀ (H : Heap) (locs : List Loc), va_P D vwCl [oX6 w w_undos w_seed w_entries, aJ cJ (w 1) 3420 w_w] H → va_S no s.heap H locs → W p l e { frames := 5, cells := 0, slots := 0, locals := 130 } s m args below meth c H locs 0 0 (MQ below (QrI zr) args s 0 0 no) (F0 m 0 ls []) := by
    intro H locs hP hS
    refine lv_iconst (v := 0) hx hb dX6_pairs_0 (by decide) ?_
    refine lv_istore_n (lv' := [(3, .int 0), (0, .ref (w 0)), (1, .int x1), (2, .int x2)]) hx hb dX6_pairs_1 rfl hl (by decide) rfl (fun ls hl => ?_)
    refine lv_iconst (v := 0) hx hb dX6_pairs_2 (by decide) ?_
    refine lv_istore (lv' := [(4, .int 0), (3, .int 0), (0, .ref (w 0)), (1, .int x1), (2, .int x2)]) hx hb dX6_pairs_3 hl (by decide) rfl (fun ls hl => ?_)
    obtain ⟨z9, hz9, hf⟩ := obd hf
    refine W5 4000 x1 x2 0 0 H locs ls z9 hP hS (lv_sub hl [2, 3, 4, 1, 0] rfl) hz9 (fun H locs ls hP hS hl => ?_)
    refine lv_iload_n hx hb dX6_pairs_57 rfl (lv_at hl 0 rfl) ?_
    have er := Option.some.inj hf
    exact rtI hx hb hr hS dX6_pairs_58 er hlocks
  exact go s.heap [] hP hS
noncomputable def L_X6_runs_12 (w_w : Nat → Int64) (v1 : Int32) : Nat → Int32 → Int32 → Option (Int32)
  | 0, _, _ => none
  | n + 1, v2, v3 => if v1 ≤ v3 then (some (v2)) else ((f_X6_isLess w_w v3 (v3 - (1 : Int32))).bind (fun z3 => if z3 = 0 then ((some (v3 + 1 : Int32)).bind (fun y5 => L_X6_runs_12 w_w v1 n (v2 + (0 : Int32)) y5)) else ((some (v3 + 1 : Int32)).bind (fun y6 => L_X6_runs_12 w_w v1 n (v2 + (1 : Int32)) y6))))
noncomputable def f_X6_runs (w_w : Nat → Int64) (x1 : Int32) : Option (Int32) := if x1 ≤ 0 then ((L_X6_runs_12 w_w x1 4000 0 1).bind (fun z7 => some (z7))) else ((L_X6_runs_12 w_w x1 4000 1 1).bind (fun z8 => some (z8)))
set_option maxHeartbeats 4000000 in
set_option maxRecDepth 100000 in
theorem c_X6_runs (l : Launch) (D : va_G) (cI cJ cZ cQ : ClassId) (bs sz : Nat) (w : Nat → Nat) (w_undos : Int32) (w_seed : Int32) (w_entries : Int32) (w_w : Nat → Int64) (x1 : Int32) (zr : Int32) (hf : f_X6_runs w_w x1 = some zr) : Met l yX6_runs wsX6_runs { frames := 6, cells := 0, slots := 0, locals := 152 } (va_Pc [.ref (w 0), .int x1] (Pr D cI cJ cZ cQ bs sz [oX6 w w_undos w_seed w_entries, aJ cJ (w 1) 3420 w_w])) (QrI zr) 0 0 no := by
  refine stM (cc := cX6_runs) (maxL := 4) (ret := (some .int)) (by decide +kernel) rfl (Nat.le_of_ble_eq_true rfl) ?_
  intro p e s m args below meth c C0 hr hlocks hname hsz hP hDb hE ls hl
  have hAb : ∀ q, no q → bs ≤ q := fun _ h => h.elim
  obtain ⟨hx, hb, hml, hown, hts⟩ := id C0
  have hown : s.vm.findClass RX6 = some m.cls := hown
  obtain ⟨hK, hNW, -, tw, hZ, hT⟩ := id hE
  have hl : lv_has ls 4 [(0, .ref (w 0)), (1, .int x1)] := hl
  have hS : va_S no s.heap s.heap [] := va_S.rf
  have W12 : ∀ (n : Nat) (v1 : Int32) (v2 : Int32) (v3 : Int32) (H : Heap) (locs : List Loc) (ls : Array Slot) (z : Int32), va_P D vwCl [oX6 w w_undos w_seed w_entries, aJ cJ (w 1) 3420 w_w] H → va_S no s.heap H locs → lv_has ls 4 [(0, .ref (w 0)), (1, .int v1), (2, .int v2), (3, .int v3)] → L_X6_runs_12 w_w v1 n v2 v3 = some z → (∀ (H : Heap) (locs : List Loc) (ls : Array Slot), va_P D vwCl [oX6 w w_undos w_seed w_entries, aJ cJ (w 1) 3420 w_w] H → va_S no s.heap H locs → lv_has ls 4 [(2, .int z)] → W p l e { frames := 6, cells := 0, slots := 0, locals := 152 } s m args below meth c H locs 0 0 (MQ below (QrI zr) args s 0 0 no) (F0 m 42 ls [])) → W p l e { frames := 6, cells := 0, slots := 0, locals := 152 } s m args below meth c H locs 0 0 (MQ below (QrI zr) args s 0 0 no) (F0 m 12 ls []) := by
    intro n
    induction n with
    | zero =>
      intro v1 v2 v3 H locs ls z hP hS hl hf
      exact absurd (show (none : Option (Int32)) = some z from hf) (fun h => by cases h)
    | succ n ih =>
      intro v1 v2 v3 H locs ls z hP hS hl hf K
      rw [L_X6_runs_12] at hf
      refine lv_iload_n hx hb dX6_runs_12 rfl (lv_at hl 3 rfl) ?_
      refine lv_iload_n hx hb dX6_runs_13 rfl (lv_at hl 1 rfl) ?_
      refine lv_icmp_ge (tgt := 42) hx hb dX6_runs_14 (by decide) (fun c2 => ?_) (fun c2 => ?_)
      · replace hf := oif c2 hf
        have hf := Option.some.inj hf
        subst hf
        exact K H locs ls hP hS (lv_sub hl [2] rfl)
      · replace hf := oel c2 hf
        refine lv_iload_n hx hb dX6_runs_17 rfl (lv_at hl 2 rfl) ?_
        refine lv_aload_n hx hb dX6_runs_18 rfl (lv_at hl 0 rfl) ?_
        refine lv_iload_n hx hb dX6_runs_19 rfl (lv_at hl 3 rfl) ?_
        refine lv_iload_n hx hb dX6_runs_20 rfl (lv_at hl 3 rfl) ?_
        refine lv_iconst (v := 1) hx hb dX6_runs_21 (by decide) ?_
        refine lv_isub hx hb dX6_runs_22 ?_
        obtain ⟨z3, hz3, hf⟩ := obd hf
        refine kZ (runV (As := [.int v3, .int (v3 - (1 : Int32))]) (rest := [.int v2]) C0 hE hAb hP (hDb.addr rfl) hS [0, 1] (wc := [oX6 w w_undos w_seed w_entries, aJ cJ (w 1) 3420 w_w]) (by decide) rfl 0 rfl rfl (c_X6_isLess l D cI cJ cZ cQ bs H.size w w_undos w_seed w_entries w_w v3 (v3 - (1 : Int32)) z3 hz3) (cwV 2 hts gX6_runs_X6_isLess rfl rfl rfl (by decide +kernel) ⟨Nat.le_of_ble_eq_true rfl, Nat.le_of_ble_eq_true rfl⟩) rfl hl.1 rfl (Nat.le_of_ble_eq_true rfl) dX6_runs_23 ⟨Nat.le_of_ble_eq_true rfl, Nat.le_of_ble_eq_true rfl⟩) hS hP (fun bz3 H locs hP hS => ?_)
        refine lv_if_eq (tgt := 33) hx hb dX6_runs_26 (by decide) (fun c4 => ?_) (fun c4 => ?_)
        · replace hf := oif c4 hf
          refine lv_iconst (v := 0) hx hb dX6_runs_33 (by decide) ?_
          refine lv_iadd hx hb dX6_runs_34 ?_
          refine lv_istore_n (lv' := [(2, .int (v2 + (0 : Int32))), (0, .ref (w 0)), (1, .int v1), (3, .int v3)]) hx hb dX6_runs_35 rfl hl (by decide) rfl (fun ls hl => ?_)
          obtain ⟨y5, ey5⟩ : ∃ y : Int32, y = v3 + 1 := ⟨_, rfl⟩
          replace hf := onm ey5 hf
          refine lv_iinc (v := y5) (lv' := [(3, .int y5), (2, .int (v2 + (0 : Int32))), (0, .ref (w 0)), (1, .int v1)]) hx hb dX6_runs_36 hl (k := 3) rfl (by rw [ey5]; rfl) (by decide) rfl (fun ls hl => ?_)
          refine lv_goto (tgt := 12) hx hb dX6_runs_39 (by decide) ?_
          exact ih v1 (v2 + (0 : Int32)) y5 H locs ls z hP hS (lv_sub hl [2, 3, 1, 0] rfl) hf K
        · replace hf := oel c4 hf
          refine lv_iconst (v := 1) hx hb dX6_runs_29 (by decide) ?_
          refine lv_goto (tgt := 34) hx hb dX6_runs_30 (by decide) ?_
          refine lv_iadd hx hb dX6_runs_34 ?_
          refine lv_istore_n (lv' := [(2, .int (v2 + (1 : Int32))), (0, .ref (w 0)), (1, .int v1), (3, .int v3)]) hx hb dX6_runs_35 rfl hl (by decide) rfl (fun ls hl => ?_)
          obtain ⟨y6, ey6⟩ : ∃ y : Int32, y = v3 + 1 := ⟨_, rfl⟩
          replace hf := onm ey6 hf
          refine lv_iinc (v := y6) (lv' := [(3, .int y6), (2, .int (v2 + (1 : Int32))), (0, .ref (w 0)), (1, .int v1)]) hx hb dX6_runs_36 hl (k := 3) rfl (by rw [ey6]; rfl) (by decide) rfl (fun ls hl => ?_)
          refine lv_goto (tgt := 12) hx hb dX6_runs_39 (by decide) ?_
          exact ih v1 (v2 + (1 : Int32)) y6 H locs ls z hP hS (lv_sub hl [2, 3, 1, 0] rfl) hf K
  unfold f_X6_runs at hf
  have go : ∀ (H : Heap) (locs : List Loc), va_P D vwCl [oX6 w w_undos w_seed w_entries, aJ cJ (w 1) 3420 w_w] H → va_S no s.heap H locs → W p l e { frames := 6, cells := 0, slots := 0, locals := 152 } s m args below meth c H locs 0 0 (MQ below (QrI zr) args s 0 0 no) (F0 m 0 ls []) := by
    intro H locs hP hS
    refine lv_iload_n hx hb dX6_runs_0 rfl (lv_at hl 1 rfl) ?_
    refine lv_if_le (tgt := 8) hx hb dX6_runs_1 (by decide) (fun c1 => ?_) (fun c1 => ?_)
    · replace hf := oif c1 hf
      refine lv_iconst (v := 0) hx hb dX6_runs_8 (by decide) ?_
      refine lv_istore_n (lv' := [(2, .int 0), (0, .ref (w 0)), (1, .int x1)]) hx hb dX6_runs_9 rfl hl (by decide) rfl (fun ls hl => ?_)
      refine lv_iconst (v := 1) hx hb dX6_runs_10 (by decide) ?_
      refine lv_istore_n (lv' := [(3, .int 1), (2, .int 0), (0, .ref (w 0)), (1, .int x1)]) hx hb dX6_runs_11 rfl hl (by decide) rfl (fun ls hl => ?_)
      obtain ⟨z7, hz7, hf⟩ := obd hf
      refine W12 4000 x1 0 1 H locs ls z7 hP hS (lv_sub hl [2, 3, 1, 0] rfl) hz7 (fun H locs ls hP hS hl => ?_)
      refine lv_iload_n hx hb dX6_runs_42 rfl (lv_at hl 0 rfl) ?_
      have er := Option.some.inj hf
      exact rtI hx hb hr hS dX6_runs_43 er hlocks
    · replace hf := oel c1 hf
      refine lv_iconst (v := 1) hx hb dX6_runs_4 (by decide) ?_
      refine lv_goto (tgt := 9) hx hb dX6_runs_5 (by decide) ?_
      refine lv_istore_n (lv' := [(2, .int 1), (0, .ref (w 0)), (1, .int x1)]) hx hb dX6_runs_9 rfl hl (by decide) rfl (fun ls hl => ?_)
      refine lv_iconst (v := 1) hx hb dX6_runs_10 (by decide) ?_
      refine lv_istore_n (lv' := [(3, .int 1), (2, .int 1), (0, .ref (w 0)), (1, .int x1)]) hx hb dX6_runs_11 rfl hl (by decide) rfl (fun ls hl => ?_)
      obtain ⟨z8, hz8, hf⟩ := obd hf
      refine W12 4000 x1 1 1 H locs ls z8 hP hS (lv_sub hl [2, 3, 1, 0] rfl) hz8 (fun H locs ls hP hS hl => ?_)
      refine lv_iload_n hx hb dX6_runs_42 rfl (lv_at hl 0 rfl) ?_
      have er := Option.some.inj hf
      exact rtI hx hb hr hS dX6_runs_43 er hlocks
  exact go s.heap [] hP hS
noncomputable def L_X6_staying_19 (w_w : Nat → Int64) (v3 : Int32) : Nat → Int32 → (Nat → Int32) → Option ((Nat → Int32))
  | 0, _, _ => none
  | n + 1, v4, w_scratch => if v3 ≤ v4 then (some (w_scratch)) else ((f_X6_isLess w_w v3 v4).bind (fun z4 => if z4 = 0 then (if ib v4 12 = true then (if ib v3 12 = true then (if (w_scratch v4.toNatClampNeg) < (w_scratch v3.toNatClampNeg) then (if ib v3 12 = true then (if ib v3 12 = true then ((some (upd w_scratch v3.toNatClampNeg (w_scratch v3.toNatClampNeg) : Nat → Int32)).bind (fun h13a => (some (v4 + 1 : Int32)).bind (fun y14 => L_X6_staying_19 w_w v3 n y14 h13a))) else none) else none) else (if ib v4 12 = true then (if ib v3 12 = true then ((some (upd w_scratch v3.toNatClampNeg ((w_scratch v4.toNatClampNeg) + (1 : Int32)) : Nat → Int32)).bind (fun h16a => (some (v4 + 1 : Int32)).bind (fun y17 => L_X6_staying_19 w_w v3 n y17 h16a))) else none) else none)) else none) else none) else (if ib v3 12 = true then (if ib v3 12 = true then ((some (upd w_scratch v3.toNatClampNeg (w_scratch v3.toNatClampNeg) : Nat → Int32)).bind (fun h7a => (some (v4 + 1 : Int32)).bind (fun y8 => L_X6_staying_19 w_w v3 n y8 h7a))) else none) else none)))
noncomputable def L_X6_staying_4 (w_w : Nat → Int64) (v1 : Int32) : Nat → Int32 → Int32 → (Nat → Int32) → Option (Int32 × (Nat → Int32))
  | 0, _, _, _ => none
  | n + 1, v2, v3, w_scratch => if v1 ≤ v3 then (some ((v2, w_scratch))) else (if ib v3 12 = true then ((some (upd w_scratch v3.toNatClampNeg 1 : Nat → Int32)).bind (fun h2a => (L_X6_staying_19 w_w v3 4000 0 h2a).bind (fun z18 => if ib v3 12 = true then (if (z18 v3.toNatClampNeg) ≤ v2 then ((some (v3 + 1 : Int32)).bind (fun y21 => L_X6_staying_4 w_w v1 n v2 y21 z18)) else (if ib v3 12 = true then ((some (v3 + 1 : Int32)).bind (fun y23 => L_X6_staying_4 w_w v1 n (z18 v3.toNatClampNeg) y23 z18)) else none)) else none))) else none)
noncomputable def f_X6_staying (w_w : Nat → Int64) (w_scratch : Nat → Int32) (x1 : Int32) : Option (Int32 × (Nat → Int32)) := (L_X6_staying_4 w_w x1 4000 0 0 w_scratch).bind (fun z24 => some ((z24.1, z24.2)))
set_option maxHeartbeats 4000000 in
set_option maxRecDepth 100000 in
theorem c_X6_staying (l : Launch) (D : va_G) (cI cJ cZ cQ : ClassId) (bs sz : Nat) (w : Nat → Nat) (w_undos : Int32) (w_seed : Int32) (w_entries : Int32) (w_w : Nat → Int64) (w_scratch : Nat → Int32) (x1 : Int32) (zr : Int32 × (Nat → Int32)) (hf : f_X6_staying w_w w_scratch x1 = some zr) : Met l yX6_staying wsX6_staying { frames := 6, cells := 0, slots := 0, locals := 152 } (va_Pc [.ref (w 0), .int x1] (Pr D cI cJ cZ cQ bs sz [oX6 w w_undos w_seed w_entries, aJ cJ (w 1) 3420 w_w, aI cI (w 6) 12 w_scratch])) (QwI D zr (fun u => [oX6 w w_undos w_seed w_entries, aJ cJ (w 1) 3420 w_w, aI cI (w 6) 12 u]) (va_A [oX6 w w_undos w_seed w_entries, aJ cJ (w 1) 3420 w_w, aI cI (w 6) 12 w_scratch] sz)) 0 0 (va_A [oX6 w w_undos w_seed w_entries, aJ cJ (w 1) 3420 w_w, aI cI (w 6) 12 w_scratch] sz) := by
  refine stW (cc := cX6_staying) (maxL := 5) (ret := (some .int)) (Qf := fun A => (QwI D zr (fun u => [oX6 w w_undos w_seed w_entries, aJ cJ (w 1) 3420 w_w, aI cI (w 6) 12 u]) A)) (by decide +kernel) rfl (Nat.le_of_ble_eq_true rfl) ?_
  intro p e s m args below meth c A C0 hr hlocks hname hsz hP hD hA hAb hE ls hl
  obtain ⟨hx, hb, hml, hown, hts⟩ := id C0
  have hown : s.vm.findClass RX6 = some m.cls := hown
  obtain ⟨hK, hNW, -, tw, hZ, hT⟩ := id hE
  have hl : lv_has ls 5 [(0, .ref (w 0)), (1, .int x1)] := hl
  have hS : va_S A s.heap s.heap [] := va_S.rf
  have hI_X6 := (show ∀ w ∈ wsX60, w ∈ wsX6_staying by decide +kernel)
  have gf27 := hts (.fieldLink RX6 27 "RowRanksModel" "scratch" "[I") (by decide +kernel)
  have W19 : ∀ (n : Nat) (v1 : Int32) (v2 : Int32) (v3 : Int32) (v4 : Int32) (w_scratch : Nat → Int32) (H : Heap) (locs : List Loc) (ls : Array Slot) (z : (Nat → Int32)), va_P D vwCl [oX6 w w_undos w_seed w_entries, aJ cJ (w 1) 3420 w_w, aI cI (w 6) 12 w_scratch] H → va_S A s.heap H locs → lv_has ls 5 [(0, .ref (w 0)), (1, .int v1), (2, .int v2), (3, .int v3), (4, .int v4)] → L_X6_staying_19 w_w v3 n v4 w_scratch = some z → (∀ (H : Heap) (locs : List Loc) (ls : Array Slot), va_P D vwCl [oX6 w w_undos w_seed w_entries, aJ cJ (w 1) 3420 w_w, aI cI (w 6) 12 z] H → va_S A s.heap H locs → lv_has ls 5 [(0, .ref (w 0)), (1, .int v1), (2, .int v2), (3, .int v3)] → W p l e { frames := 6, cells := 0, slots := 0, locals := 152 } s m args below meth c H locs 0 0 (MQ below (QwI D zr (fun u => [oX6 w w_undos w_seed w_entries, aJ cJ (w 1) 3420 w_w, aI cI (w 6) 12 u]) A) args s 0 0 A) (F0 m 81 ls [])) → W p l e { frames := 6, cells := 0, slots := 0, locals := 152 } s m args below meth c H locs 0 0 (MQ below (QwI D zr (fun u => [oX6 w w_undos w_seed w_entries, aJ cJ (w 1) 3420 w_w, aI cI (w 6) 12 u]) A) args s 0 0 A) (F0 m 19 ls []) := by
    intro n
    induction n with
    | zero =>
      intro v1 v2 v3 v4 w_scratch H locs ls z hP hS hl hf
      exact absurd (show (none : Option ((Nat → Int32))) = some z from hf) (fun h => by cases h)
    | succ n ih =>
      intro v1 v2 v3 v4 w_scratch H locs ls z hP hS hl hf K
      rw [L_X6_staying_19] at hf
      refine lv_iload hx hb dX6_staying_19 (lv_at hl 4 rfl) ?_
      refine lv_iload_n hx hb dX6_staying_21 rfl (lv_at hl 3 rfl) ?_
      refine lv_icmp_ge (tgt := 81) hx hb dX6_staying_22 (by decide) (fun c3 => ?_) (fun c3 => ?_)
      · replace hf := oif c3 hf
        have hf := Option.some.inj hf
        subst hf
        exact K H locs ls hP hS (lv_sub hl [0, 1, 2, 3] rfl)
      · replace hf := oel c3 hf
        refine lv_aload_n hx hb dX6_staying_25 rfl (lv_at hl 0 rfl) ?_
        refine va_get (D := D) (ci := 6) (v := .ref (w 6)) (C := RX6) (T := TX6) (N := 12) hx hb hts hI_X6 hown hK hP 0 rfl rfl 8 (by decide) gf27 (fun _ h9 => h9) rfl dX6_staying_26 ?_
        refine lv_iload_n hx hb dX6_staying_29 rfl (lv_at hl 3 rfl) ?_
        refine lv_aload_n hx hb dX6_staying_30 rfl (lv_at hl 0 rfl) ?_
        refine lv_iload_n hx hb dX6_staying_31 rfl (lv_at hl 3 rfl) ?_
        refine lv_iload hx hb dX6_staying_32 (lv_at hl 4 rfl) ?_
        obtain ⟨z4, hz4, hf⟩ := obd hf
        refine kZ (runV (As := [.int v3, .int v4]) (rest := [.int v3, .ref (w 6)]) C0 hE hAb hP ((hD.weaken (fun _ _ _ h9 => hAb _ h9)).addr rfl) hS [0, 1] (wc := [oX6 w w_undos w_seed w_entries, aJ cJ (w 1) 3420 w_w]) (by decide) rfl 0 rfl rfl (c_X6_isLess l D cI cJ cZ cQ bs H.size w w_undos w_seed w_entries w_w v3 v4 z4 hz4) (cwV 2 hts gX6_staying_X6_isLess rfl rfl rfl (by decide +kernel) ⟨Nat.le_of_ble_eq_true rfl, Nat.le_of_ble_eq_true rfl⟩) rfl hl.1 rfl (Nat.le_of_ble_eq_true rfl) dX6_staying_34 ⟨Nat.le_of_ble_eq_true rfl, Nat.le_of_ble_eq_true rfl⟩) hS hP (fun bz4 H locs hP hS => ?_)
        refine lv_if_ne (tgt := 68) hx hb dX6_staying_37 (by decide) (fun c5 => ?_) (fun c5 => ?_)
        · replace hf := oel c5 hf
          refine lv_aload_n hx hb dX6_staying_68 rfl (lv_at hl 0 rfl) ?_
          refine va_get (D := D) (ci := 6) (v := .ref (w 6)) (C := RX6) (T := TX6) (N := 12) hx hb hts hI_X6 hown hK hP 0 rfl rfl 8 (by decide) gf27 (fun _ h9 => h9) rfl dX6_staying_69 ?_
          refine lv_iload_n hx hb dX6_staying_72 rfl (lv_at hl 3 rfl) ?_
          obtain ⟨h6, hf⟩ := ogd hf
          refine va_iald hx hb hK hP 2 0 rfl rfl (ib_in h6) dX6_staying_73 ?_
          obtain ⟨h7, hf⟩ := ogd hf
          refine va_iast hx hb hK hP (hD.addr rfl) hS 2 0 rfl rfl (ib_in h7) dX6_staying_74 (fun H locs hP _ hS => ?_)
          obtain ⟨h7a, eh7a⟩ : ∃ y : Nat → Int32, y = upd w_scratch v3.toNatClampNeg (w_scratch v3.toNatClampNeg) := ⟨_, rfl⟩
          replace hf := onm eh7a hf
          have hP : va_P D vwCl [oX6 w w_undos w_seed w_entries, aJ cJ (w 1) 3420 w_w, aI cI (w 6) 12 h7a] H := by rw [eh7a]; exact hP
          obtain ⟨y8, ey8⟩ : ∃ y : Int32, y = v4 + 1 := ⟨_, rfl⟩
          replace hf := onm ey8 hf
          refine lv_iinc (v := y8) (lv' := [(4, .int y8), (0, .ref (w 0)), (1, .int v1), (2, .int v2), (3, .int v3)]) hx hb dX6_staying_75 hl (k := 4) rfl (by rw [ey8]; rfl) (by decide) rfl (fun ls hl => ?_)
          refine lv_goto (tgt := 19) hx hb dX6_staying_78 (by decide) ?_
          exact ih v1 v2 v3 y8 h7a H locs ls z hP hS (lv_sub hl [1, 2, 3, 4, 0] rfl) hf K
        · replace hf := oif c5 hf
          refine lv_aload_n hx hb dX6_staying_40 rfl (lv_at hl 0 rfl) ?_
          refine va_get (D := D) (ci := 6) (v := .ref (w 6)) (C := RX6) (T := TX6) (N := 12) hx hb hts hI_X6 hown hK hP 0 rfl rfl 8 (by decide) gf27 (fun _ h9 => h9) rfl dX6_staying_41 ?_
          refine lv_iload hx hb dX6_staying_44 (lv_at hl 4 rfl) ?_
          obtain ⟨h9, hf⟩ := ogd hf
          refine va_iald hx hb hK hP 2 0 rfl rfl (ib_in h9) dX6_staying_46 ?_
          refine lv_aload_n hx hb dX6_staying_47 rfl (lv_at hl 0 rfl) ?_
          refine va_get (D := D) (ci := 6) (v := .ref (w 6)) (C := RX6) (T := TX6) (N := 12) hx hb hts hI_X6 hown hK hP 0 rfl rfl 8 (by decide) gf27 (fun _ h9 => h9) rfl dX6_staying_48 ?_
          refine lv_iload_n hx hb dX6_staying_51 rfl (lv_at hl 3 rfl) ?_
          obtain ⟨h10, hf⟩ := ogd hf
          refine va_iald hx hb hK hP 2 0 rfl rfl (ib_in h10) dX6_staying_52 ?_
          refine lv_icmp_lt (tgt := 68) hx hb dX6_staying_53 (by decide) (fun c11 => ?_) (fun c11 => ?_)
          · replace hf := oif c11 hf
            refine lv_aload_n hx hb dX6_staying_68 rfl (lv_at hl 0 rfl) ?_
            refine va_get (D := D) (ci := 6) (v := .ref (w 6)) (C := RX6) (T := TX6) (N := 12) hx hb hts hI_X6 hown hK hP 0 rfl rfl 8 (by decide) gf27 (fun _ h9 => h9) rfl dX6_staying_69 ?_
            refine lv_iload_n hx hb dX6_staying_72 rfl (lv_at hl 3 rfl) ?_
            obtain ⟨h12, hf⟩ := ogd hf
            refine va_iald hx hb hK hP 2 0 rfl rfl (ib_in h12) dX6_staying_73 ?_
            obtain ⟨h13, hf⟩ := ogd hf
            refine va_iast hx hb hK hP (hD.addr rfl) hS 2 0 rfl rfl (ib_in h13) dX6_staying_74 (fun H locs hP _ hS => ?_)
            obtain ⟨h13a, eh13a⟩ : ∃ y : Nat → Int32, y = upd w_scratch v3.toNatClampNeg (w_scratch v3.toNatClampNeg) := ⟨_, rfl⟩
            replace hf := onm eh13a hf
            have hP : va_P D vwCl [oX6 w w_undos w_seed w_entries, aJ cJ (w 1) 3420 w_w, aI cI (w 6) 12 h13a] H := by rw [eh13a]; exact hP
            obtain ⟨y14, ey14⟩ : ∃ y : Int32, y = v4 + 1 := ⟨_, rfl⟩
            replace hf := onm ey14 hf
            refine lv_iinc (v := y14) (lv' := [(4, .int y14), (0, .ref (w 0)), (1, .int v1), (2, .int v2), (3, .int v3)]) hx hb dX6_staying_75 hl (k := 4) rfl (by rw [ey14]; rfl) (by decide) rfl (fun ls hl => ?_)
            refine lv_goto (tgt := 19) hx hb dX6_staying_78 (by decide) ?_
            exact ih v1 v2 v3 y14 h13a H locs ls z hP hS (lv_sub hl [1, 2, 3, 4, 0] rfl) hf K
          · replace hf := oel c11 hf
            refine lv_aload_n hx hb dX6_staying_56 rfl (lv_at hl 0 rfl) ?_
            refine va_get (D := D) (ci := 6) (v := .ref (w 6)) (C := RX6) (T := TX6) (N := 12) hx hb hts hI_X6 hown hK hP 0 rfl rfl 8 (by decide) gf27 (fun _ h9 => h9) rfl dX6_staying_57 ?_
            refine lv_iload hx hb dX6_staying_60 (lv_at hl 4 rfl) ?_
            obtain ⟨h15, hf⟩ := ogd hf
            refine va_iald hx hb hK hP 2 0 rfl rfl (ib_in h15) dX6_staying_62 ?_
            refine lv_iconst (v := 1) hx hb dX6_staying_63 (by decide) ?_
            refine lv_iadd hx hb dX6_staying_64 ?_
            refine lv_goto (tgt := 74) hx hb dX6_staying_65 (by decide) ?_
            obtain ⟨h16, hf⟩ := ogd hf
            refine va_iast hx hb hK hP (hD.addr rfl) hS 2 0 rfl rfl (ib_in h16) dX6_staying_74 (fun H locs hP _ hS => ?_)
            obtain ⟨h16a, eh16a⟩ : ∃ y : Nat → Int32, y = upd w_scratch v3.toNatClampNeg ((w_scratch v4.toNatClampNeg) + (1 : Int32)) := ⟨_, rfl⟩
            replace hf := onm eh16a hf
            have hP : va_P D vwCl [oX6 w w_undos w_seed w_entries, aJ cJ (w 1) 3420 w_w, aI cI (w 6) 12 h16a] H := by rw [eh16a]; exact hP
            obtain ⟨y17, ey17⟩ : ∃ y : Int32, y = v4 + 1 := ⟨_, rfl⟩
            replace hf := onm ey17 hf
            refine lv_iinc (v := y17) (lv' := [(4, .int y17), (0, .ref (w 0)), (1, .int v1), (2, .int v2), (3, .int v3)]) hx hb dX6_staying_75 hl (k := 4) rfl (by rw [ey17]; rfl) (by decide) rfl (fun ls hl => ?_)
            refine lv_goto (tgt := 19) hx hb dX6_staying_78 (by decide) ?_
            exact ih v1 v2 v3 y17 h16a H locs ls z hP hS (lv_sub hl [1, 2, 3, 4, 0] rfl) hf K
  have W4 : ∀ (n : Nat) (v1 : Int32) (v2 : Int32) (v3 : Int32) (w_scratch : Nat → Int32) (H : Heap) (locs : List Loc) (ls : Array Slot) (z : Int32 × (Nat → Int32)), va_P D vwCl [oX6 w w_undos w_seed w_entries, aJ cJ (w 1) 3420 w_w, aI cI (w 6) 12 w_scratch] H → va_S A s.heap H locs → lv_has ls 5 [(0, .ref (w 0)), (1, .int v1), (2, .int v2), (3, .int v3)] → L_X6_staying_4 w_w v1 n v2 v3 w_scratch = some z → (∀ (H : Heap) (locs : List Loc) (ls : Array Slot), va_P D vwCl [oX6 w w_undos w_seed w_entries, aJ cJ (w 1) 3420 w_w, aI cI (w 6) 12 z.2] H → va_S A s.heap H locs → lv_has ls 5 [(2, .int z.1)] → W p l e { frames := 6, cells := 0, slots := 0, locals := 152 } s m args below meth c H locs 0 0 (MQ below (QwI D zr (fun u => [oX6 w w_undos w_seed w_entries, aJ cJ (w 1) 3420 w_w, aI cI (w 6) 12 u]) A) args s 0 0 A) (F0 m 108 ls [])) → W p l e { frames := 6, cells := 0, slots := 0, locals := 152 } s m args below meth c H locs 0 0 (MQ below (QwI D zr (fun u => [oX6 w w_undos w_seed w_entries, aJ cJ (w 1) 3420 w_w, aI cI (w 6) 12 u]) A) args s 0 0 A) (F0 m 4 ls []) := by
    intro n
    induction n with
    | zero =>
      intro v1 v2 v3 w_scratch H locs ls z hP hS hl hf
      exact absurd (show (none : Option (Int32 × (Nat → Int32))) = some z from hf) (fun h => by cases h)
    | succ n ih =>
      intro v1 v2 v3 w_scratch H locs ls z hP hS hl hf K
      rw [L_X6_staying_4] at hf
      refine lv_iload_n hx hb dX6_staying_4 rfl (lv_at hl 3 rfl) ?_
      refine lv_iload_n hx hb dX6_staying_5 rfl (lv_at hl 1 rfl) ?_
      refine lv_icmp_ge (tgt := 108) hx hb dX6_staying_6 (by decide) (fun c1 => ?_) (fun c1 => ?_)
      · replace hf := oif c1 hf
        have hf := Option.some.inj hf
        subst hf
        exact K H locs ls hP hS (lv_sub hl [2] rfl)
      · replace hf := oel c1 hf
        refine lv_aload_n hx hb dX6_staying_9 rfl (lv_at hl 0 rfl) ?_
        refine va_get (D := D) (ci := 6) (v := .ref (w 6)) (C := RX6) (T := TX6) (N := 12) hx hb hts hI_X6 hown hK hP 0 rfl rfl 8 (by decide) gf27 (fun _ h9 => h9) rfl dX6_staying_10 ?_
        refine lv_iload_n hx hb dX6_staying_13 rfl (lv_at hl 3 rfl) ?_
        refine lv_iconst (v := 1) hx hb dX6_staying_14 (by decide) ?_
        obtain ⟨h2, hf⟩ := ogd hf
        refine va_iast hx hb hK hP (hD.addr rfl) hS 2 0 rfl rfl (ib_in h2) dX6_staying_15 (fun H locs hP _ hS => ?_)
        obtain ⟨h2a, eh2a⟩ : ∃ y : Nat → Int32, y = upd w_scratch v3.toNatClampNeg 1 := ⟨_, rfl⟩
        replace hf := onm eh2a hf
        have hP : va_P D vwCl [oX6 w w_undos w_seed w_entries, aJ cJ (w 1) 3420 w_w, aI cI (w 6) 12 h2a] H := by rw [eh2a]; exact hP
        refine lv_iconst (v := 0) hx hb dX6_staying_16 (by decide) ?_
        refine lv_istore (lv' := [(4, .int 0), (0, .ref (w 0)), (1, .int v1), (2, .int v2), (3, .int v3)]) hx hb dX6_staying_17 hl (by decide) rfl (fun ls hl => ?_)
        obtain ⟨z18, hz18, hf⟩ := obd hf
        refine W19 4000 v1 v2 v3 0 h2a H locs ls z18 hP hS (lv_sub hl [1, 2, 3, 4, 0] rfl) hz18 (fun H locs ls hP hS hl => ?_)
        refine lv_aload_n hx hb dX6_staying_81 rfl (lv_at hl 0 rfl) ?_
        refine va_get (D := D) (ci := 6) (v := .ref (w 6)) (C := RX6) (T := TX6) (N := 12) hx hb hts hI_X6 hown hK hP 0 rfl rfl 8 (by decide) gf27 (fun _ h9 => h9) rfl dX6_staying_82 ?_
        refine lv_iload_n hx hb dX6_staying_85 rfl (lv_at hl 3 rfl) ?_
        obtain ⟨h19, hf⟩ := ogd hf
        refine va_iald hx hb hK hP 2 0 rfl rfl (ib_in h19) dX6_staying_86 ?_
        refine lv_iload_n hx hb dX6_staying_87 rfl (lv_at hl 2 rfl) ?_
        refine lv_icmp_le (tgt := 100) hx hb dX6_staying_88 (by decide) (fun c20 => ?_) (fun c20 => ?_)
        · replace hf := oif c20 hf
          refine lv_iload_n hx hb dX6_staying_100 rfl (lv_at hl 2 rfl) ?_
          refine lv_istore_n (lv' := [(2, .int v2), (0, .ref (w 0)), (1, .int v1), (3, .int v3)]) hx hb dX6_staying_101 rfl hl (by decide) rfl (fun ls hl => ?_)
          obtain ⟨y21, ey21⟩ : ∃ y : Int32, y = v3 + 1 := ⟨_, rfl⟩
          replace hf := onm ey21 hf
          refine lv_iinc (v := y21) (lv' := [(3, .int y21), (2, .int v2), (0, .ref (w 0)), (1, .int v1)]) hx hb dX6_staying_102 hl (k := 3) rfl (by rw [ey21]; rfl) (by decide) rfl (fun ls hl => ?_)
          refine lv_goto (tgt := 4) hx hb dX6_staying_105 (by decide) ?_
          exact ih v1 v2 y21 z18 H locs ls z hP hS (lv_sub hl [2, 3, 1, 0] rfl) hf K
        · replace hf := oel c20 hf
          refine lv_aload_n hx hb dX6_staying_91 rfl (lv_at hl 0 rfl) ?_
          refine va_get (D := D) (ci := 6) (v := .ref (w 6)) (C := RX6) (T := TX6) (N := 12) hx hb hts hI_X6 hown hK hP 0 rfl rfl 8 (by decide) gf27 (fun _ h9 => h9) rfl dX6_staying_92 ?_
          refine lv_iload_n hx hb dX6_staying_95 rfl (lv_at hl 3 rfl) ?_
          obtain ⟨h22, hf⟩ := ogd hf
          refine va_iald hx hb hK hP 2 0 rfl rfl (ib_in h22) dX6_staying_96 ?_
          refine lv_goto (tgt := 101) hx hb dX6_staying_97 (by decide) ?_
          refine lv_istore_n (lv' := [(2, .int (z18 v3.toNatClampNeg)), (0, .ref (w 0)), (1, .int v1), (3, .int v3)]) hx hb dX6_staying_101 rfl hl (by decide) rfl (fun ls hl => ?_)
          obtain ⟨y23, ey23⟩ : ∃ y : Int32, y = v3 + 1 := ⟨_, rfl⟩
          replace hf := onm ey23 hf
          refine lv_iinc (v := y23) (lv' := [(3, .int y23), (2, .int (z18 v3.toNatClampNeg)), (0, .ref (w 0)), (1, .int v1)]) hx hb dX6_staying_102 hl (k := 3) rfl (by rw [ey23]; rfl) (by decide) rfl (fun ls hl => ?_)
          refine lv_goto (tgt := 4) hx hb dX6_staying_105 (by decide) ?_
          exact ih v1 (z18 v3.toNatClampNeg) y23 z18 H locs ls z hP hS (lv_sub hl [2, 3, 1, 0] rfl) hf K
  unfold f_X6_staying at hf
  have go : ∀ (H : Heap) (locs : List Loc), va_P D vwCl [oX6 w w_undos w_seed w_entries, aJ cJ (w 1) 3420 w_w, aI cI (w 6) 12 w_scratch] H → va_S A s.heap H locs → W p l e { frames := 6, cells := 0, slots := 0, locals := 152 } s m args below meth c H locs 0 0 (MQ below (QwI D zr (fun u => [oX6 w w_undos w_seed w_entries, aJ cJ (w 1) 3420 w_w, aI cI (w 6) 12 u]) A) args s 0 0 A) (F0 m 0 ls []) := by
    intro H locs hP hS
    refine lv_iconst (v := 0) hx hb dX6_staying_0 (by decide) ?_
    refine lv_istore_n (lv' := [(2, .int 0), (0, .ref (w 0)), (1, .int x1)]) hx hb dX6_staying_1 rfl hl (by decide) rfl (fun ls hl => ?_)
    refine lv_iconst (v := 0) hx hb dX6_staying_2 (by decide) ?_
    refine lv_istore_n (lv' := [(3, .int 0), (2, .int 0), (0, .ref (w 0)), (1, .int x1)]) hx hb dX6_staying_3 rfl hl (by decide) rfl (fun ls hl => ?_)
    obtain ⟨z24, hz24, hf⟩ := obd hf
    refine W4 4000 x1 0 0 w_scratch H locs ls z24 hP hS (lv_sub hl [2, 3, 1, 0] rfl) hz24 (fun H locs ls hP hS hl => ?_)
    refine lv_iload_n hx hb dX6_staying_108 rfl (lv_at hl 0 rfl) ?_
    have er := Option.some.inj hf
    exact rwI (wm := (fun u => [oX6 w w_undos w_seed w_entries, aJ cJ (w 1) 3420 w_w, aI cI (w 6) 12 u])) hx hb hr hS dX6_staying_109 hP er hlocks
  exact go s.heap [] hP hS
noncomputable def L_X6_swaps_34 (w_w : Nat → Int64) (v1 : Int32) : Nat → Int32 → Int32 → Int32 → Option (Int32 × Int32)
  | 0, _, _, _ => none
  | n + 1, v2, v3, v5 => (f_X6_has v2 v5).bind (fun z5 => if z5 = 0 then ((some ((v2 ||| ((1 : Int32) <<< (v5 &&& 31))) : Int32)).bind (fun y7 => (some (v3 + 1 : Int32)).bind (fun y8 => (f_X6_position w_w 15 v5 v1).bind (fun z9 => L_X6_swaps_34 w_w v1 n y7 y8 z9)))) else (some ((v2, v3))))
noncomputable def L_X6_swaps_7 (w_w : Nat → Int64) (v1 : Int32) : Nat → Int32 → Int32 → Int32 → Option (Int32)
  | 0, _, _, _ => none
  | n + 1, v2, v3, v4 => if v1 ≤ v4 then (some (v3)) else ((f_X6_has v2 v4).bind (fun z2 => if z2 = 0 then ((some ((v3 + ((-1) : Int32)) : Int32)).bind (fun y4 => (L_X6_swaps_34 w_w v1 4000 v2 y4 v4).bind (fun z10 => (some (v4 + 1 : Int32)).bind (fun y11 => L_X6_swaps_7 w_w v1 n z10.1 z10.2 y11)))) else ((L_X6_swaps_34 w_w v1 4000 v2 (v3 + (0 : Int32)) v4).bind (fun z12 => (some (v4 + 1 : Int32)).bind (fun y13 => L_X6_swaps_7 w_w v1 n z12.1 z12.2 y13)))))
noncomputable def f_X6_swaps (w_w : Nat → Int64) (x1 : Int32) : Option (Int32) := (L_X6_swaps_7 w_w x1 4000 0 0 0).bind (fun z14 => some (z14))
set_option maxHeartbeats 4000000 in
set_option maxRecDepth 100000 in
theorem c_X6_swaps (l : Launch) (D : va_G) (cI cJ cZ cQ : ClassId) (bs sz : Nat) (w : Nat → Nat) (w_undos : Int32) (w_seed : Int32) (w_entries : Int32) (w_w : Nat → Int64) (x1 : Int32) (zr : Int32) (hf : f_X6_swaps w_w x1 = some zr) : Met l yX6_swaps wsX6_swaps { frames := 6, cells := 0, slots := 0, locals := 156 } (va_Pc [.ref (w 0), .int x1] (Pr D cI cJ cZ cQ bs sz [oX6 w w_undos w_seed w_entries, aJ cJ (w 1) 3420 w_w])) (QrI zr) 0 0 no := by
  refine stM (cc := cX6_swaps) (maxL := 6) (ret := (some .int)) (by decide +kernel) rfl (Nat.le_of_ble_eq_true rfl) ?_
  intro p e s m args below meth c C0 hr hlocks hname hsz hP hDb hE ls hl
  have hAb : ∀ q, no q → bs ≤ q := fun _ h => h.elim
  obtain ⟨hx, hb, hml, hown, hts⟩ := id C0
  have hown : s.vm.findClass RX6 = some m.cls := hown
  obtain ⟨hK, hNW, -, tw, hZ, hT⟩ := id hE
  have hl : lv_has ls 6 [(0, .ref (w 0)), (1, .int x1)] := hl
  have hS : va_S no s.heap s.heap [] := va_S.rf
  have W34 : ∀ (n : Nat) (v1 : Int32) (v2 : Int32) (v3 : Int32) (v4 : Int32) (v5 : Int32) (H : Heap) (locs : List Loc) (ls : Array Slot) (z : Int32 × Int32), va_P D vwCl [oX6 w w_undos w_seed w_entries, aJ cJ (w 1) 3420 w_w] H → va_S no s.heap H locs → lv_has ls 6 [(0, .ref (w 0)), (1, .int v1), (2, .int v2), (3, .int v3), (4, .int v4), (5, .int v5)] → L_X6_swaps_34 w_w v1 n v2 v3 v5 = some z → (∀ (H : Heap) (locs : List Loc) (ls : Array Slot), va_P D vwCl [oX6 w w_undos w_seed w_entries, aJ cJ (w 1) 3420 w_w] H → va_S no s.heap H locs → lv_has ls 6 [(0, .ref (w 0)), (1, .int v1), (2, .int z.1), (3, .int z.2), (4, .int v4)] → W p l e { frames := 6, cells := 0, slots := 0, locals := 156 } s m args below meth c H locs 0 0 (MQ below (QrI zr) args s 0 0 no) (F0 m 67 ls [])) → W p l e { frames := 6, cells := 0, slots := 0, locals := 156 } s m args below meth c H locs 0 0 (MQ below (QrI zr) args s 0 0 no) (F0 m 34 ls []) := by
    intro n
    induction n with
    | zero =>
      intro v1 v2 v3 v4 v5 H locs ls z hP hS hl hf
      exact absurd (show (none : Option (Int32 × Int32)) = some z from hf) (fun h => by cases h)
    | succ n ih =>
      intro v1 v2 v3 v4 v5 H locs ls z hP hS hl hf K
      rw [L_X6_swaps_34] at hf
      refine lv_iload_n hx hb dX6_swaps_34 rfl (lv_at hl 2 rfl) ?_
      refine lv_iload hx hb dX6_swaps_35 (lv_at hl 5 rfl) ?_
      obtain ⟨z5, hz5, hf⟩ := obd hf
      refine kZ (runS (As := [.int v2, .int v5]) (rest := []) C0 hE hAb hP (hDb.addr rfl) hS [] (wc := []) (by decide) rfl (c_X6_has l D cI cJ cZ cQ bs H.size v2 v5 z5 hz5) (va_cwS 2 hts gX6_swaps_X6_has rfl rfl rfl (by decide +kernel) ⟨Nat.le_of_ble_eq_true rfl, Nat.le_of_ble_eq_true rfl⟩) rfl hl.1 rfl (Nat.le_of_ble_eq_true rfl) dX6_swaps_37 ⟨Nat.le_of_ble_eq_true rfl, Nat.le_of_ble_eq_true rfl⟩) hS hP (fun bz5 H locs hP hS => ?_)
      refine lv_if_ne (tgt := 67) hx hb dX6_swaps_40 (by decide) (fun c6 => ?_) (fun c6 => ?_)
      · replace hf := oel c6 hf
        have hf := Option.some.inj hf
        subst hf
        exact K H locs ls hP hS (lv_sub hl [0, 1, 2, 3, 4] rfl)
      · replace hf := oif c6 hf
        refine lv_iload_n hx hb dX6_swaps_43 rfl (lv_at hl 2 rfl) ?_
        refine lv_iconst (v := 1) hx hb dX6_swaps_44 (by decide) ?_
        refine lv_iload hx hb dX6_swaps_45 (lv_at hl 5 rfl) ?_
        refine lv_ishl hx hb dX6_swaps_47 ?_
        refine lv_ior hx hb dX6_swaps_48 ?_
        refine lv_topi (fun y7 ey7 => ?_)
        replace hf := onm ey7 hf
        refine lv_istore_n (lv' := [(2, .int y7), (0, .ref (w 0)), (1, .int v1), (3, .int v3), (4, .int v4), (5, .int v5)]) hx hb dX6_swaps_49 rfl hl (by decide) rfl (fun ls hl => ?_)
        obtain ⟨y8, ey8⟩ : ∃ y : Int32, y = v3 + 1 := ⟨_, rfl⟩
        replace hf := onm ey8 hf
        refine lv_iinc (v := y8) (lv' := [(3, .int y8), (2, .int y7), (0, .ref (w 0)), (1, .int v1), (4, .int v4), (5, .int v5)]) hx hb dX6_swaps_50 hl (k := 3) rfl (by rw [ey8]; rfl) (by decide) rfl (fun ls hl => ?_)
        refine lv_aload_n hx hb dX6_swaps_53 rfl (lv_at hl 2 rfl) ?_
        refine lv_bipush (v := 15) hx hb dX6_swaps_54 (by decide) ?_
        refine lv_iload hx hb dX6_swaps_56 (lv_at hl 5 rfl) ?_
        refine lv_iload_n hx hb dX6_swaps_58 rfl (lv_at hl 3 rfl) ?_
        obtain ⟨z9, hz9, hf⟩ := obd hf
        refine kI (runV (As := [.int 15, .int v5, .int v1]) (rest := []) C0 hE hAb hP (hDb.addr rfl) hS [0, 1] (wc := [oX6 w w_undos w_seed w_entries, aJ cJ (w 1) 3420 w_w]) (by decide) rfl 0 rfl rfl (c_X6_position l D cI cJ cZ cQ bs H.size w w_undos w_seed w_entries w_w 15 v5 v1 z9 hz9) (cwV 3 hts gX6_swaps_X6_position rfl rfl rfl (by decide +kernel) ⟨Nat.le_of_ble_eq_true rfl, Nat.le_of_ble_eq_true rfl⟩) rfl hl.1 rfl (Nat.le_of_ble_eq_true rfl) dX6_swaps_59 ⟨Nat.le_of_ble_eq_true rfl, Nat.le_of_ble_eq_true rfl⟩) hS hP (fun H locs hP hS => ?_)
        refine lv_istore (lv' := [(5, .int z9), (3, .int y8), (2, .int y7), (0, .ref (w 0)), (1, .int v1), (4, .int v4)]) hx hb dX6_swaps_62 hl (by decide) rfl (fun ls hl => ?_)
        refine lv_goto (tgt := 34) hx hb dX6_swaps_64 (by decide) ?_
        exact ih v1 y7 y8 v4 z9 H locs ls z hP hS (lv_sub hl [3, 4, 2, 1, 5, 0] rfl) hf K
  have W7 : ∀ (n : Nat) (v1 : Int32) (v2 : Int32) (v3 : Int32) (v4 : Int32) (H : Heap) (locs : List Loc) (ls : Array Slot) (z : Int32), va_P D vwCl [oX6 w w_undos w_seed w_entries, aJ cJ (w 1) 3420 w_w] H → va_S no s.heap H locs → lv_has ls 6 [(0, .ref (w 0)), (1, .int v1), (2, .int v2), (3, .int v3), (4, .int v4)] → L_X6_swaps_7 w_w v1 n v2 v3 v4 = some z → (∀ (H : Heap) (locs : List Loc) (ls : Array Slot), va_P D vwCl [oX6 w w_undos w_seed w_entries, aJ cJ (w 1) 3420 w_w] H → va_S no s.heap H locs → lv_has ls 6 [(3, .int z)] → W p l e { frames := 6, cells := 0, slots := 0, locals := 156 } s m args below meth c H locs 0 0 (MQ below (QrI zr) args s 0 0 no) (F0 m 73 ls [])) → W p l e { frames := 6, cells := 0, slots := 0, locals := 156 } s m args below meth c H locs 0 0 (MQ below (QrI zr) args s 0 0 no) (F0 m 7 ls []) := by
    intro n
    induction n with
    | zero =>
      intro v1 v2 v3 v4 H locs ls z hP hS hl hf
      exact absurd (show (none : Option (Int32)) = some z from hf) (fun h => by cases h)
    | succ n ih =>
      intro v1 v2 v3 v4 H locs ls z hP hS hl hf K
      rw [L_X6_swaps_7] at hf
      refine lv_iload hx hb dX6_swaps_7 (lv_at hl 4 rfl) ?_
      refine lv_iload_n hx hb dX6_swaps_9 rfl (lv_at hl 1 rfl) ?_
      refine lv_icmp_ge (tgt := 73) hx hb dX6_swaps_10 (by decide) (fun c1 => ?_) (fun c1 => ?_)
      · replace hf := oif c1 hf
        have hf := Option.some.inj hf
        subst hf
        exact K H locs ls hP hS (lv_sub hl [3] rfl)
      · replace hf := oel c1 hf
        refine lv_iload hx hb dX6_swaps_13 (lv_at hl 4 rfl) ?_
        refine lv_istore (lv' := [(5, .int v4), (0, .ref (w 0)), (1, .int v1), (2, .int v2), (3, .int v3), (4, .int v4)]) hx hb dX6_swaps_15 hl (by decide) rfl (fun ls hl => ?_)
        refine lv_iload_n hx hb dX6_swaps_17 rfl (lv_at hl 4 rfl) ?_
        refine lv_iload_n hx hb dX6_swaps_18 rfl (lv_at hl 3 rfl) ?_
        refine lv_iload hx hb dX6_swaps_19 (lv_at hl 5 rfl) ?_
        obtain ⟨z2, hz2, hf⟩ := obd hf
        refine kZ (runS (As := [.int v2, .int v4]) (rest := [.int v3]) C0 hE hAb hP (hDb.addr rfl) hS [] (wc := []) (by decide) rfl (c_X6_has l D cI cJ cZ cQ bs H.size v2 v4 z2 hz2) (va_cwS 2 hts gX6_swaps_X6_has rfl rfl rfl (by decide +kernel) ⟨Nat.le_of_ble_eq_true rfl, Nat.le_of_ble_eq_true rfl⟩) rfl hl.1 rfl (Nat.le_of_ble_eq_true rfl) dX6_swaps_21 ⟨Nat.le_of_ble_eq_true rfl, Nat.le_of_ble_eq_true rfl⟩) hS hP (fun bz2 H locs hP hS => ?_)
        refine lv_if_eq (tgt := 31) hx hb dX6_swaps_24 (by decide) (fun c3 => ?_) (fun c3 => ?_)
        · replace hf := oif c3 hf
          refine lv_iconst (v := (-1)) hx hb dX6_swaps_31 (by decide) ?_
          refine lv_iadd hx hb dX6_swaps_32 ?_
          refine lv_topi (fun y4 ey4 => ?_)
          replace hf := onm ey4 hf
          refine lv_istore_n (lv' := [(3, .int y4), (5, .int v4), (0, .ref (w 0)), (1, .int v1), (2, .int v2), (4, .int v4)]) hx hb dX6_swaps_33 rfl hl (by decide) rfl (fun ls hl => ?_)
          obtain ⟨z10, hz10, hf⟩ := obd hf
          refine W34 4000 v1 v2 y4 v4 v4 H locs ls z10 hP hS (lv_sub hl [2, 3, 4, 0, 5, 1] rfl) hz10 (fun H locs ls hP hS hl => ?_)
          obtain ⟨y11, ey11⟩ : ∃ y : Int32, y = v4 + 1 := ⟨_, rfl⟩
          replace hf := onm ey11 hf
          refine lv_iinc (v := y11) (lv' := [(4, .int y11), (0, .ref (w 0)), (1, .int v1), (2, .int z10.1), (3, .int z10.2)]) hx hb dX6_swaps_67 hl (k := 4) rfl (by rw [ey11]; rfl) (by decide) rfl (fun ls hl => ?_)
          refine lv_goto (tgt := 7) hx hb dX6_swaps_70 (by decide) ?_
          exact ih v1 z10.1 z10.2 y11 H locs ls z hP hS (lv_sub hl [1, 2, 3, 4, 0] rfl) hf K
        · replace hf := oel c3 hf
          refine lv_iconst (v := 0) hx hb dX6_swaps_27 (by decide) ?_
          refine lv_goto (tgt := 32) hx hb dX6_swaps_28 (by decide) ?_
          refine lv_iadd hx hb dX6_swaps_32 ?_
          refine lv_istore_n (lv' := [(3, .int (v3 + (0 : Int32))), (5, .int v4), (0, .ref (w 0)), (1, .int v1), (2, .int v2), (4, .int v4)]) hx hb dX6_swaps_33 rfl hl (by decide) rfl (fun ls hl => ?_)
          obtain ⟨z12, hz12, hf⟩ := obd hf
          refine W34 4000 v1 v2 (v3 + (0 : Int32)) v4 v4 H locs ls z12 hP hS (lv_sub hl [2, 3, 4, 0, 5, 1] rfl) hz12 (fun H locs ls hP hS hl => ?_)
          obtain ⟨y13, ey13⟩ : ∃ y : Int32, y = v4 + 1 := ⟨_, rfl⟩
          replace hf := onm ey13 hf
          refine lv_iinc (v := y13) (lv' := [(4, .int y13), (0, .ref (w 0)), (1, .int v1), (2, .int z12.1), (3, .int z12.2)]) hx hb dX6_swaps_67 hl (k := 4) rfl (by rw [ey13]; rfl) (by decide) rfl (fun ls hl => ?_)
          refine lv_goto (tgt := 7) hx hb dX6_swaps_70 (by decide) ?_
          exact ih v1 z12.1 z12.2 y13 H locs ls z hP hS (lv_sub hl [1, 2, 3, 4, 0] rfl) hf K
  unfold f_X6_swaps at hf
  have go : ∀ (H : Heap) (locs : List Loc), va_P D vwCl [oX6 w w_undos w_seed w_entries, aJ cJ (w 1) 3420 w_w] H → va_S no s.heap H locs → W p l e { frames := 6, cells := 0, slots := 0, locals := 156 } s m args below meth c H locs 0 0 (MQ below (QrI zr) args s 0 0 no) (F0 m 0 ls []) := by
    intro H locs hP hS
    refine lv_iconst (v := 0) hx hb dX6_swaps_0 (by decide) ?_
    refine lv_istore_n (lv' := [(2, .int 0), (0, .ref (w 0)), (1, .int x1)]) hx hb dX6_swaps_1 rfl hl (by decide) rfl (fun ls hl => ?_)
    refine lv_iconst (v := 0) hx hb dX6_swaps_2 (by decide) ?_
    refine lv_istore_n (lv' := [(3, .int 0), (2, .int 0), (0, .ref (w 0)), (1, .int x1)]) hx hb dX6_swaps_3 rfl hl (by decide) rfl (fun ls hl => ?_)
    refine lv_iconst (v := 0) hx hb dX6_swaps_4 (by decide) ?_
    refine lv_istore (lv' := [(4, .int 0), (3, .int 0), (2, .int 0), (0, .ref (w 0)), (1, .int x1)]) hx hb dX6_swaps_5 hl (by decide) rfl (fun ls hl => ?_)
    obtain ⟨z14, hz14, hf⟩ := obd hf
    refine W7 4000 x1 0 0 0 H locs ls z14 hP hS (lv_sub hl [3, 4, 2, 1, 0] rfl) hz14 (fun H locs ls hP hS hl => ?_)
    refine lv_iload_n hx hb dX6_swaps_73 rfl (lv_at hl 0 rfl) ?_
    have er := Option.some.inj hf
    exact rtI hx hb hr hS dX6_swaps_74 er hlocks
  exact go s.heap [] hP hS
noncomputable def L_X6_passes_15 (w_w : Nat → Int64) (v3 : Int32) : Nat → Int32 → Int32 → Option (Int32)
  | 0, _, _ => none
  | n + 1, v4, v5 => if v3 ≤ v5 then (some (v4)) else ((f_X6_isLess w_w v3 v5).bind (fun z3 => if z3 = 0 then ((some (v5 + 1 : Int32)).bind (fun y5 => L_X6_passes_15 w_w v3 n (v4 + (0 : Int32)) y5)) else ((some (v5 + 1 : Int32)).bind (fun y6 => L_X6_passes_15 w_w v3 n (v4 + (1 : Int32)) y6))))
noncomputable def L_X6_passes_4 (w_w : Nat → Int64) (v1 : Int32) : Nat → Int32 → Int32 → Option (Int32)
  | 0, _, _ => none
  | n + 1, v2, v3 => if v1 ≤ v3 then (some (v2)) else ((L_X6_passes_15 w_w v3 4000 0 0).bind (fun z7 => if z7 ≤ v2 then ((some (v3 + 1 : Int32)).bind (fun y9 => L_X6_passes_4 w_w v1 n v2 y9)) else ((some (v3 + 1 : Int32)).bind (fun y10 => L_X6_passes_4 w_w v1 n z7 y10))))
noncomputable def f_X6_passes (w_w : Nat → Int64) (x1 : Int32) : Option (Int32) := (L_X6_passes_4 w_w x1 4000 0 0).bind (fun z11 => some (z11))
set_option maxHeartbeats 4000000 in
set_option maxRecDepth 100000 in
theorem c_X6_passes (l : Launch) (D : va_G) (cI cJ cZ cQ : ClassId) (bs sz : Nat) (w : Nat → Nat) (w_undos : Int32) (w_seed : Int32) (w_entries : Int32) (w_w : Nat → Int64) (x1 : Int32) (zr : Int32) (hf : f_X6_passes w_w x1 = some zr) : Met l yX6_passes wsX6_passes { frames := 6, cells := 0, slots := 0, locals := 152 } (va_Pc [.ref (w 0), .int x1] (Pr D cI cJ cZ cQ bs sz [oX6 w w_undos w_seed w_entries, aJ cJ (w 1) 3420 w_w])) (QrI zr) 0 0 no := by
  refine stM (cc := cX6_passes) (maxL := 6) (ret := (some .int)) (by decide +kernel) rfl (Nat.le_of_ble_eq_true rfl) ?_
  intro p e s m args below meth c C0 hr hlocks hname hsz hP hDb hE ls hl
  have hAb : ∀ q, no q → bs ≤ q := fun _ h => h.elim
  obtain ⟨hx, hb, hml, hown, hts⟩ := id C0
  have hown : s.vm.findClass RX6 = some m.cls := hown
  obtain ⟨hK, hNW, -, tw, hZ, hT⟩ := id hE
  have hl : lv_has ls 6 [(0, .ref (w 0)), (1, .int x1)] := hl
  have hS : va_S no s.heap s.heap [] := va_S.rf
  have W15 : ∀ (n : Nat) (v1 : Int32) (v2 : Int32) (v3 : Int32) (v4 : Int32) (v5 : Int32) (H : Heap) (locs : List Loc) (ls : Array Slot) (z : Int32), va_P D vwCl [oX6 w w_undos w_seed w_entries, aJ cJ (w 1) 3420 w_w] H → va_S no s.heap H locs → lv_has ls 6 [(0, .ref (w 0)), (1, .int v1), (2, .int v2), (3, .int v3), (4, .int v4), (5, .int v5)] → L_X6_passes_15 w_w v3 n v4 v5 = some z → (∀ (H : Heap) (locs : List Loc) (ls : Array Slot), va_P D vwCl [oX6 w w_undos w_seed w_entries, aJ cJ (w 1) 3420 w_w] H → va_S no s.heap H locs → lv_has ls 6 [(0, .ref (w 0)), (1, .int v1), (2, .int v2), (3, .int v3), (4, .int z)] → W p l e { frames := 6, cells := 0, slots := 0, locals := 152 } s m args below meth c H locs 0 0 (MQ below (QrI zr) args s 0 0 no) (F0 m 47 ls [])) → W p l e { frames := 6, cells := 0, slots := 0, locals := 152 } s m args below meth c H locs 0 0 (MQ below (QrI zr) args s 0 0 no) (F0 m 15 ls []) := by
    intro n
    induction n with
    | zero =>
      intro v1 v2 v3 v4 v5 H locs ls z hP hS hl hf
      exact absurd (show (none : Option (Int32)) = some z from hf) (fun h => by cases h)
    | succ n ih =>
      intro v1 v2 v3 v4 v5 H locs ls z hP hS hl hf K
      rw [L_X6_passes_15] at hf
      refine lv_iload hx hb dX6_passes_15 (lv_at hl 5 rfl) ?_
      refine lv_iload_n hx hb dX6_passes_17 rfl (lv_at hl 3 rfl) ?_
      refine lv_icmp_ge (tgt := 47) hx hb dX6_passes_18 (by decide) (fun c2 => ?_) (fun c2 => ?_)
      · replace hf := oif c2 hf
        have hf := Option.some.inj hf
        subst hf
        exact K H locs ls hP hS (lv_sub hl [0, 1, 2, 3, 4] rfl)
      · replace hf := oel c2 hf
        refine lv_iload hx hb dX6_passes_21 (lv_at hl 4 rfl) ?_
        refine lv_aload_n hx hb dX6_passes_23 rfl (lv_at hl 0 rfl) ?_
        refine lv_iload_n hx hb dX6_passes_24 rfl (lv_at hl 3 rfl) ?_
        refine lv_iload hx hb dX6_passes_25 (lv_at hl 5 rfl) ?_
        obtain ⟨z3, hz3, hf⟩ := obd hf
        refine kZ (runV (As := [.int v3, .int v5]) (rest := [.int v4]) C0 hE hAb hP (hDb.addr rfl) hS [0, 1] (wc := [oX6 w w_undos w_seed w_entries, aJ cJ (w 1) 3420 w_w]) (by decide) rfl 0 rfl rfl (c_X6_isLess l D cI cJ cZ cQ bs H.size w w_undos w_seed w_entries w_w v3 v5 z3 hz3) (cwV 2 hts gX6_passes_X6_isLess rfl rfl rfl (by decide +kernel) ⟨Nat.le_of_ble_eq_true rfl, Nat.le_of_ble_eq_true rfl⟩) rfl hl.1 rfl (Nat.le_of_ble_eq_true rfl) dX6_passes_27 ⟨Nat.le_of_ble_eq_true rfl, Nat.le_of_ble_eq_true rfl⟩) hS hP (fun bz3 H locs hP hS => ?_)
        refine lv_if_eq (tgt := 37) hx hb dX6_passes_30 (by decide) (fun c4 => ?_) (fun c4 => ?_)
        · replace hf := oif c4 hf
          refine lv_iconst (v := 0) hx hb dX6_passes_37 (by decide) ?_
          refine lv_iadd hx hb dX6_passes_38 ?_
          refine lv_istore (lv' := [(4, .int (v4 + (0 : Int32))), (0, .ref (w 0)), (1, .int v1), (2, .int v2), (3, .int v3), (5, .int v5)]) hx hb dX6_passes_39 hl (by decide) rfl (fun ls hl => ?_)
          obtain ⟨y5, ey5⟩ : ∃ y : Int32, y = v5 + 1 := ⟨_, rfl⟩
          replace hf := onm ey5 hf
          refine lv_iinc (v := y5) (lv' := [(5, .int y5), (4, .int (v4 + (0 : Int32))), (0, .ref (w 0)), (1, .int v1), (2, .int v2), (3, .int v3)]) hx hb dX6_passes_41 hl (k := 5) rfl (by rw [ey5]; rfl) (by decide) rfl (fun ls hl => ?_)
          refine lv_goto (tgt := 15) hx hb dX6_passes_44 (by decide) ?_
          exact ih v1 v2 v3 (v4 + (0 : Int32)) y5 H locs ls z hP hS (lv_sub hl [2, 3, 4, 5, 1, 0] rfl) hf K
        · replace hf := oel c4 hf
          refine lv_iconst (v := 1) hx hb dX6_passes_33 (by decide) ?_
          refine lv_goto (tgt := 38) hx hb dX6_passes_34 (by decide) ?_
          refine lv_iadd hx hb dX6_passes_38 ?_
          refine lv_istore (lv' := [(4, .int (v4 + (1 : Int32))), (0, .ref (w 0)), (1, .int v1), (2, .int v2), (3, .int v3), (5, .int v5)]) hx hb dX6_passes_39 hl (by decide) rfl (fun ls hl => ?_)
          obtain ⟨y6, ey6⟩ : ∃ y : Int32, y = v5 + 1 := ⟨_, rfl⟩
          replace hf := onm ey6 hf
          refine lv_iinc (v := y6) (lv' := [(5, .int y6), (4, .int (v4 + (1 : Int32))), (0, .ref (w 0)), (1, .int v1), (2, .int v2), (3, .int v3)]) hx hb dX6_passes_41 hl (k := 5) rfl (by rw [ey6]; rfl) (by decide) rfl (fun ls hl => ?_)
          refine lv_goto (tgt := 15) hx hb dX6_passes_44 (by decide) ?_
          exact ih v1 v2 v3 (v4 + (1 : Int32)) y6 H locs ls z hP hS (lv_sub hl [2, 3, 4, 5, 1, 0] rfl) hf K
  have W4 : ∀ (n : Nat) (v1 : Int32) (v2 : Int32) (v3 : Int32) (H : Heap) (locs : List Loc) (ls : Array Slot) (z : Int32), va_P D vwCl [oX6 w w_undos w_seed w_entries, aJ cJ (w 1) 3420 w_w] H → va_S no s.heap H locs → lv_has ls 6 [(0, .ref (w 0)), (1, .int v1), (2, .int v2), (3, .int v3)] → L_X6_passes_4 w_w v1 n v2 v3 = some z → (∀ (H : Heap) (locs : List Loc) (ls : Array Slot), va_P D vwCl [oX6 w w_undos w_seed w_entries, aJ cJ (w 1) 3420 w_w] H → va_S no s.heap H locs → lv_has ls 6 [(2, .int z)] → W p l e { frames := 6, cells := 0, slots := 0, locals := 152 } s m args below meth c H locs 0 0 (MQ below (QrI zr) args s 0 0 no) (F0 m 66 ls [])) → W p l e { frames := 6, cells := 0, slots := 0, locals := 152 } s m args below meth c H locs 0 0 (MQ below (QrI zr) args s 0 0 no) (F0 m 4 ls []) := by
    intro n
    induction n with
    | zero =>
      intro v1 v2 v3 H locs ls z hP hS hl hf
      exact absurd (show (none : Option (Int32)) = some z from hf) (fun h => by cases h)
    | succ n ih =>
      intro v1 v2 v3 H locs ls z hP hS hl hf K
      rw [L_X6_passes_4] at hf
      refine lv_iload_n hx hb dX6_passes_4 rfl (lv_at hl 3 rfl) ?_
      refine lv_iload_n hx hb dX6_passes_5 rfl (lv_at hl 1 rfl) ?_
      refine lv_icmp_ge (tgt := 66) hx hb dX6_passes_6 (by decide) (fun c1 => ?_) (fun c1 => ?_)
      · replace hf := oif c1 hf
        have hf := Option.some.inj hf
        subst hf
        exact K H locs ls hP hS (lv_sub hl [2] rfl)
      · replace hf := oel c1 hf
        refine lv_iconst (v := 0) hx hb dX6_passes_9 (by decide) ?_
        refine lv_istore (lv' := [(4, .int 0), (0, .ref (w 0)), (1, .int v1), (2, .int v2), (3, .int v3)]) hx hb dX6_passes_10 hl (by decide) rfl (fun ls hl => ?_)
        refine lv_iconst (v := 0) hx hb dX6_passes_12 (by decide) ?_
        refine lv_istore (lv' := [(5, .int 0), (4, .int 0), (0, .ref (w 0)), (1, .int v1), (2, .int v2), (3, .int v3)]) hx hb dX6_passes_13 hl (by decide) rfl (fun ls hl => ?_)
        obtain ⟨z7, hz7, hf⟩ := obd hf
        refine W15 4000 v1 v2 v3 0 0 H locs ls z7 hP hS (lv_sub hl [2, 3, 4, 5, 1, 0] rfl) hz7 (fun H locs ls hP hS hl => ?_)
        refine lv_iload hx hb dX6_passes_47 (lv_at hl 4 rfl) ?_
        refine lv_iload_n hx hb dX6_passes_49 rfl (lv_at hl 2 rfl) ?_
        refine lv_icmp_le (tgt := 58) hx hb dX6_passes_50 (by decide) (fun c8 => ?_) (fun c8 => ?_)
        · replace hf := oif c8 hf
          refine lv_iload_n hx hb dX6_passes_58 rfl (lv_at hl 2 rfl) ?_
          refine lv_istore_n (lv' := [(2, .int v2), (0, .ref (w 0)), (1, .int v1), (3, .int v3), (4, .int z7)]) hx hb dX6_passes_59 rfl hl (by decide) rfl (fun ls hl => ?_)
          obtain ⟨y9, ey9⟩ : ∃ y : Int32, y = v3 + 1 := ⟨_, rfl⟩
          replace hf := onm ey9 hf
          refine lv_iinc (v := y9) (lv' := [(3, .int y9), (2, .int v2), (0, .ref (w 0)), (1, .int v1), (4, .int z7)]) hx hb dX6_passes_60 hl (k := 3) rfl (by rw [ey9]; rfl) (by decide) rfl (fun ls hl => ?_)
          refine lv_goto (tgt := 4) hx hb dX6_passes_63 (by decide) ?_
          exact ih v1 v2 y9 H locs ls z hP hS (lv_sub hl [2, 3, 1, 0] rfl) hf K
        · replace hf := oel c8 hf
          refine lv_iload hx hb dX6_passes_53 (lv_at hl 4 rfl) ?_
          refine lv_goto (tgt := 59) hx hb dX6_passes_55 (by decide) ?_
          refine lv_istore_n (lv' := [(2, .int z7), (0, .ref (w 0)), (1, .int v1), (3, .int v3), (4, .int z7)]) hx hb dX6_passes_59 rfl hl (by decide) rfl (fun ls hl => ?_)
          obtain ⟨y10, ey10⟩ : ∃ y : Int32, y = v3 + 1 := ⟨_, rfl⟩
          replace hf := onm ey10 hf
          refine lv_iinc (v := y10) (lv' := [(3, .int y10), (2, .int z7), (0, .ref (w 0)), (1, .int v1), (4, .int z7)]) hx hb dX6_passes_60 hl (k := 3) rfl (by rw [ey10]; rfl) (by decide) rfl (fun ls hl => ?_)
          refine lv_goto (tgt := 4) hx hb dX6_passes_63 (by decide) ?_
          exact ih v1 z7 y10 H locs ls z hP hS (lv_sub hl [2, 3, 1, 0] rfl) hf K
  unfold f_X6_passes at hf
  have go : ∀ (H : Heap) (locs : List Loc), va_P D vwCl [oX6 w w_undos w_seed w_entries, aJ cJ (w 1) 3420 w_w] H → va_S no s.heap H locs → W p l e { frames := 6, cells := 0, slots := 0, locals := 152 } s m args below meth c H locs 0 0 (MQ below (QrI zr) args s 0 0 no) (F0 m 0 ls []) := by
    intro H locs hP hS
    refine lv_iconst (v := 0) hx hb dX6_passes_0 (by decide) ?_
    refine lv_istore_n (lv' := [(2, .int 0), (0, .ref (w 0)), (1, .int x1)]) hx hb dX6_passes_1 rfl hl (by decide) rfl (fun ls hl => ?_)
    refine lv_iconst (v := 0) hx hb dX6_passes_2 (by decide) ?_
    refine lv_istore_n (lv' := [(3, .int 0), (2, .int 0), (0, .ref (w 0)), (1, .int x1)]) hx hb dX6_passes_3 rfl hl (by decide) rfl (fun ls hl => ?_)
    obtain ⟨z11, hz11, hf⟩ := obd hf
    refine W4 4000 x1 0 0 H locs ls z11 hP hS (lv_sub hl [2, 3, 1, 0] rfl) hz11 (fun H locs ls hP hS hl => ?_)
    refine lv_iload_n hx hb dX6_passes_66 rfl (lv_at hl 0 rfl) ?_
    have er := Option.some.inj hf
    exact rtI hx hb hr hS dX6_passes_67 er hlocks
  exact go s.heap [] hP hS
noncomputable def L_X6_isSameOrder_2 (w_w : Nat → Int64) (v1 : Int32) (v2 : Int32) : Nat → Int32 → Option ((Unit) ⊕ (Int32))
  | 0, _ => none
  | n + 1, v3 => if v2 ≤ v3 then (some (.inl (()))) else ((f_X6_position w_w v1 v3 v2).bind (fun z2 => (f_X6_position w_w 15 v3 v2).bind (fun z3 => if z2 = z3 then ((some (v3 + 1 : Int32)).bind (fun y5 => L_X6_isSameOrder_2 w_w v1 v2 n y5)) else (some (.inr (0))))))
noncomputable def f_X6_isSameOrder (w_w : Nat → Int64) (x1 : Int32) (x2 : Int32) : Option (Int32) := (L_X6_isSameOrder_2 w_w x1 x2 4000 0).bind (fun z6 => Sum.elim (fun e7 => some (1)) (fun r9 => some (r9)) z6)
set_option maxHeartbeats 4000000 in
set_option maxRecDepth 100000 in
theorem c_X6_isSameOrder (l : Launch) (D : va_G) (cI cJ cZ cQ : ClassId) (bs sz : Nat) (w : Nat → Nat) (w_undos : Int32) (w_seed : Int32) (w_entries : Int32) (w_w : Nat → Int64) (x1 : Int32) (x2 : Int32) (zr : Int32) (hf : f_X6_isSameOrder w_w x1 x2 = some zr) : Met l yX6_isSameOrder wsX6_isSameOrder { frames := 6, cells := 0, slots := 0, locals := 156 } (va_Pc [.ref (w 0), .int x1, .int x2] (Pr D cI cJ cZ cQ bs sz [oX6 w w_undos w_seed w_entries, aJ cJ (w 1) 3420 w_w])) (QrZ zr) 0 0 no := by
  refine stM (cc := cX6_isSameOrder) (maxL := 4) (ret := (some .boolean)) (by decide +kernel) rfl (Nat.le_of_ble_eq_true rfl) ?_
  intro p e s m args below meth c C0 hr hlocks hname hsz hP hDb hE ls hl
  have hAb : ∀ q, no q → bs ≤ q := fun _ h => h.elim
  obtain ⟨hx, hb, hml, hown, hts⟩ := id C0
  have hown : s.vm.findClass RX6 = some m.cls := hown
  obtain ⟨hK, hNW, -, tw, hZ, hT⟩ := id hE
  have hl : lv_has ls 4 [(0, .ref (w 0)), (1, .int x1), (2, .int x2)] := hl
  have hS : va_S no s.heap s.heap [] := va_S.rf
  have W2 : ∀ (n : Nat) (v1 : Int32) (v2 : Int32) (v3 : Int32) (H : Heap) (locs : List Loc) (ls : Array Slot) (z : (Unit) ⊕ (Int32)), va_P D vwCl [oX6 w w_undos w_seed w_entries, aJ cJ (w 1) 3420 w_w] H → va_S no s.heap H locs → lv_has ls 4 [(0, .ref (w 0)), (1, .int v1), (2, .int v2), (3, .int v3)] → L_X6_isSameOrder_2 w_w v1 v2 n v3 = some z → (∀ e9, z = Sum.inl e9 → ∀ (H : Heap) (locs : List Loc) (ls : Array Slot), va_P D vwCl [oX6 w w_undos w_seed w_entries, aJ cJ (w 1) 3420 w_w] H → va_S no s.heap H locs → lv_has ls 4 [] → W p l e { frames := 6, cells := 0, slots := 0, locals := 156 } s m args below meth c H locs 0 0 (MQ below (QrZ zr) args s 0 0 no) (F0 m 33 ls [])) → (∀ r9, z = Sum.inr r9 → r9 = zr) → W p l e { frames := 6, cells := 0, slots := 0, locals := 156 } s m args below meth c H locs 0 0 (MQ below (QrZ zr) args s 0 0 no) (F0 m 2 ls []) := by
    intro n
    induction n with
    | zero =>
      intro v1 v2 v3 H locs ls z hP hS hl hf
      exact absurd (show (none : Option ((Unit) ⊕ (Int32))) = some z from hf) (fun h => by cases h)
    | succ n ih =>
      intro v1 v2 v3 H locs ls z hP hS hl hf K K2
      rw [L_X6_isSameOrder_2] at hf
      refine lv_iload_n hx hb dX6_isSameOrder_2 rfl (lv_at hl 3 rfl) ?_
      refine lv_iload_n hx hb dX6_isSameOrder_3 rfl (lv_at hl 2 rfl) ?_
      refine lv_icmp_ge (tgt := 33) hx hb dX6_isSameOrder_4 (by decide) (fun c1 => ?_) (fun c1 => ?_)
      · replace hf := oif c1 hf
        exact K _ (Option.some.inj hf).symm H locs ls hP hS (lv_sub hl [] rfl)
      · replace hf := oel c1 hf
        refine lv_aload_n hx hb dX6_isSameOrder_7 rfl (lv_at hl 0 rfl) ?_
        refine lv_iload_n hx hb dX6_isSameOrder_8 rfl (lv_at hl 1 rfl) ?_
        refine lv_iload_n hx hb dX6_isSameOrder_9 rfl (lv_at hl 3 rfl) ?_
        refine lv_iload_n hx hb dX6_isSameOrder_10 rfl (lv_at hl 2 rfl) ?_
        obtain ⟨z2, hz2, hf⟩ := obd hf
        refine kI (runV (As := [.int v1, .int v3, .int v2]) (rest := []) C0 hE hAb hP (hDb.addr rfl) hS [0, 1] (wc := [oX6 w w_undos w_seed w_entries, aJ cJ (w 1) 3420 w_w]) (by decide) rfl 0 rfl rfl (c_X6_position l D cI cJ cZ cQ bs H.size w w_undos w_seed w_entries w_w v1 v3 v2 z2 hz2) (cwV 3 hts gX6_isSameOrder_X6_position rfl rfl rfl (by decide +kernel) ⟨Nat.le_of_ble_eq_true rfl, Nat.le_of_ble_eq_true rfl⟩) rfl hl.1 rfl (Nat.le_of_ble_eq_true rfl) dX6_isSameOrder_11 ⟨Nat.le_of_ble_eq_true rfl, Nat.le_of_ble_eq_true rfl⟩) hS hP (fun H locs hP hS => ?_)
        refine lv_aload_n hx hb dX6_isSameOrder_14 rfl (lv_at hl 0 rfl) ?_
        refine lv_bipush (v := 15) hx hb dX6_isSameOrder_15 (by decide) ?_
        refine lv_iload_n hx hb dX6_isSameOrder_17 rfl (lv_at hl 3 rfl) ?_
        refine lv_iload_n hx hb dX6_isSameOrder_18 rfl (lv_at hl 2 rfl) ?_
        obtain ⟨z3, hz3, hf⟩ := obd hf
        refine kI (runV (As := [.int 15, .int v3, .int v2]) (rest := [.int z2]) C0 hE hAb hP (hDb.addr rfl) hS [0, 1] (wc := [oX6 w w_undos w_seed w_entries, aJ cJ (w 1) 3420 w_w]) (by decide) rfl 0 rfl rfl (c_X6_position l D cI cJ cZ cQ bs H.size w w_undos w_seed w_entries w_w 15 v3 v2 z3 hz3) (cwV 3 hts gX6_isSameOrder_X6_position rfl rfl rfl (by decide +kernel) ⟨Nat.le_of_ble_eq_true rfl, Nat.le_of_ble_eq_true rfl⟩) rfl hl.1 rfl (Nat.le_of_ble_eq_true rfl) dX6_isSameOrder_19 ⟨Nat.le_of_ble_eq_true rfl, Nat.le_of_ble_eq_true rfl⟩) hS hP (fun H locs hP hS => ?_)
        refine lv_icmp_eq (tgt := 27) hx hb dX6_isSameOrder_22 (by decide) (fun c4 => ?_) (fun c4 => ?_)
        · replace hf := oif c4 hf
          obtain ⟨y5, ey5⟩ : ∃ y : Int32, y = v3 + 1 := ⟨_, rfl⟩
          replace hf := onm ey5 hf
          refine lv_iinc (v := y5) (lv' := [(3, .int y5), (0, .ref (w 0)), (1, .int v1), (2, .int v2)]) hx hb dX6_isSameOrder_27 hl (k := 3) rfl (by rw [ey5]; rfl) (by decide) rfl (fun ls hl => ?_)
          refine lv_goto (tgt := 2) hx hb dX6_isSameOrder_30 (by decide) ?_
          exact ih v1 v2 y5 H locs ls z hP hS (lv_sub hl [1, 2, 3, 0] rfl) hf K K2
        · replace hf := oel c4 hf
          refine lv_iconst (v := 0) hx hb dX6_isSameOrder_25 (by decide) ?_
          have er := K2 _ (Option.some.inj hf).symm
          exact rtZ hx hb hr hS dX6_isSameOrder_26 er (by decide) hlocks
  unfold f_X6_isSameOrder at hf
  have go : ∀ (H : Heap) (locs : List Loc), va_P D vwCl [oX6 w w_undos w_seed w_entries, aJ cJ (w 1) 3420 w_w] H → va_S no s.heap H locs → W p l e { frames := 6, cells := 0, slots := 0, locals := 156 } s m args below meth c H locs 0 0 (MQ below (QrZ zr) args s 0 0 no) (F0 m 0 ls []) := by
    intro H locs hP hS
    refine lv_iconst (v := 0) hx hb dX6_isSameOrder_0 (by decide) ?_
    refine lv_istore_n (lv' := [(3, .int 0), (0, .ref (w 0)), (1, .int x1), (2, .int x2)]) hx hb dX6_isSameOrder_1 rfl hl (by decide) rfl (fun ls hl => ?_)
    obtain ⟨z6, hz6, hf⟩ := obd hf
    refine W2 4000 x1 x2 0 H locs ls z6 hP hS (lv_sub hl [1, 2, 3, 0] rfl) hz6 (fun e7 ee H locs ls hP hS hl => ?_) (fun r9 er => by subst er; exact Option.some.inj hf)
    subst ee
    replace hf := osl hf
    refine lv_iconst (v := 1) hx hb dX6_isSameOrder_33 (by decide) ?_
    have er := Option.some.inj hf
    exact rtZ hx hb hr hS dX6_isSameOrder_34 er (by decide) hlocks
  exact go s.heap [] hP hS
