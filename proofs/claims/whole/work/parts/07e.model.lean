noncomputable def L_X6_pour_40 (v1 : Int32) (v2 : Int32) (v3 : Int32) (v4 : Int32) (v5 : Int32) : Nat → Int32 → (Nat → Int64) → Option (Int32 × (Nat → Int64))
  | 0, _, _ => none
  | n + 1, v6, w_w => if v5 ≤ v6 then (some ((v6, w_w))) else ((f_X6_lacks w_w v1 ((Int32.toInt64 v2) + (Int32.toInt64 v6))).bind (fun z9 => if z9 = 0 then ((f_X6_lacks w_w v3 ((Int32.toInt64 v4) + (Int32.toInt64 v6))).bind (fun z11 => if z11 = 0 then ((f_X6_sortAt w_w v1 (v2 + v6)).bind (fun z13 => (f_X6_at v1 (v2 + v6)).bind (fun z14 => if ib ((84 : Int32) + z14) 3420 = true then ((f_X6_takes w_w v3 z13 (w_w ((84 : Int32) + z14).toNatClampNeg)).bind (fun z16 => if z16 = 0 then (some ((v6, w_w))) else ((f_X6_sortAt w_w v1 (v2 + v6)).bind (fun z18 => (f_X6_at v1 (v2 + v6)).bind (fun z19 => if ib ((84 : Int32) + z19) 3420 = true then ((f_X6_sets w_w v3 (v4 + v6) z18 (w_w ((84 : Int32) + z19).toNatClampNeg)).bind (fun z21 => (some (v6 + 1 : Int32)).bind (fun y22 => L_X6_pour_40 v1 v2 v3 v4 v5 n y22 z21))) else none))))) else none))) else (some ((v6, w_w))))) else (some ((v6, w_w)))))
noncomputable def f_X6_pour (w_w : Nat → Int64) (w_undos : Int32) (x1 : Int32) (x2 : Int32) (x3 : Int32) (x4 : Int32) (x5 : Int32) : Option (Int32 × (Nat → Int64) × Int32) := (f_X6_isSlot x1).bind (fun z1 => if z1 = 0 then (some (((-1000000001), w_w, w_undos))) else ((f_X6_isSlot x3).bind (fun z3 => if z3 = 0 then (some (((-1000000001), w_w, w_undos))) else ((f_X6_in (Int32.toInt64 x5) 0 12).bind (fun z5 => if z5 = 0 then (some (((-1000000002), w_w, w_undos))) else ((f_X6_minds w_w w_undos).bind (fun z7 => (L_X6_pour_40 x1 x2 x3 x4 x5 4000 0 z7.1).bind (fun z23 => some ((z23.1, z23.2, z7.2))))))))))
set_option maxHeartbeats 4000000 in
set_option maxRecDepth 100000 in
theorem c_X6_pour (l : Launch) (D : va_G) (cI cJ cZ cQ : ClassId) (bs sz : Nat) (w : Nat → Nat) (w_undos : Int32) (w_seed : Int32) (w_entries : Int32) (w_w : Nat → Int64) (x1 : Int32) (x2 : Int32) (x3 : Int32) (x4 : Int32) (x5 : Int32) (zr : Int32 × (Nat → Int64) × Int32) (hf : f_X6_pour w_w w_undos x1 x2 x3 x4 x5 = some zr) : Met l yX6_pour wsX6_pour { frames := 3, cells := 0, slots := 0, locals := 82 } (va_Pc [.ref (w 0), .int x1, .int x2, .int x3, .int x4, .int x5] (Pr D cI cJ cZ cQ bs sz [oX6 w w_undos w_seed w_entries, aJ cJ (w 1) 3420 w_w])) (QwI D zr (fun u => [oX6 w u.2 w_seed w_entries, aJ cJ (w 1) 3420 u.1]) (va_A [oX6 w w_undos w_seed w_entries, aJ cJ (w 1) 3420 w_w] sz)) 0 0 (va_A [oX6 w w_undos w_seed w_entries, aJ cJ (w 1) 3420 w_w] sz) := by
  refine stW (cc := cX6_pour) (maxL := 7) (ret := (some .int)) (Qf := fun A => (QwI D zr (fun u => [oX6 w u.2 w_seed w_entries, aJ cJ (w 1) 3420 u.1]) A)) (by decide +kernel) rfl (Nat.le_of_ble_eq_true rfl) ?_
  intro p e s m args below meth c A C0 hr hlocks hname hsz hP hD hA hAb hE ls hl
  obtain ⟨hx, hb, hml, hown, hts⟩ := id C0
  have hown : s.vm.findClass RX6 = some m.cls := hown
  obtain ⟨hK, hNW, -, tw, hZ, hT⟩ := id hE
  have hl : lv_has ls 7 [(0, .ref (w 0)), (1, .int x1), (2, .int x2), (3, .int x3), (4, .int x4), (5, .int x5)] := hl
  have hS : va_S A s.heap s.heap [] := va_S.rf
  have gk198 := hts (.constant RX6 198 (-1000000001)) (by decide +kernel)
  have gk237 := hts (.constantLong RX6 237 (12)) (by decide +kernel)
  have hI_X6 := (show ∀ w ∈ wsX60, w ∈ wsX6_pour by decide +kernel)
  have gf7 := hts (.fieldLink RX6 7 "RowRanksModel" "w" "[J") (by decide +kernel)
  have gk192 := hts (.constant RX6 192 (-1000000002)) (by decide +kernel)
  have W40 : ∀ (n : Nat) (v1 : Int32) (v2 : Int32) (v3 : Int32) (v4 : Int32) (v5 : Int32) (v6 : Int32) (w_w : Nat → Int64) (w_undos : Int32) (H : Heap) (locs : List Loc) (ls : Array Slot) (z : Int32 × (Nat → Int64)), va_P D vwCl [oX6 w w_undos w_seed w_entries, aJ cJ (w 1) 3420 w_w] H → va_S A s.heap H locs → lv_has ls 7 [(0, .ref (w 0)), (1, .int v1), (2, .int v2), (3, .int v3), (4, .int v4), (5, .int v5), (6, .int v6)] → L_X6_pour_40 v1 v2 v3 v4 v5 n v6 w_w = some z → (∀ (H : Heap) (locs : List Loc) (ls : Array Slot), va_P D vwCl [oX6 w w_undos w_seed w_entries, aJ cJ (w 1) 3420 z.2] H → va_S A s.heap H locs → lv_has ls 7 [(6, .int z.1)] → W p l e { frames := 3, cells := 0, slots := 0, locals := 82 } s m args below meth c H locs 0 0 (MQ below (QwI D zr (fun u => [oX6 w u.2 w_seed w_entries, aJ cJ (w 1) 3420 u.1]) A) args s 0 0 A) (F0 m 150 ls [])) → W p l e { frames := 3, cells := 0, slots := 0, locals := 82 } s m args below meth c H locs 0 0 (MQ below (QwI D zr (fun u => [oX6 w u.2 w_seed w_entries, aJ cJ (w 1) 3420 u.1]) A) args s 0 0 A) (F0 m 40 ls []) := by
    intro n
    induction n with
    | zero =>
      intro v1 v2 v3 v4 v5 v6 w_w w_undos H locs ls z hP hS hl hf
      exact absurd (show (none : Option (Int32 × (Nat → Int64))) = some z from hf) (fun h => by cases h)
    | succ n ih =>
      intro v1 v2 v3 v4 v5 v6 w_w w_undos H locs ls z hP hS hl hf K
      rw [L_X6_pour_40] at hf
      refine lv_iload hx hb dX6_pour_40 (lv_at hl 6 rfl) ?_
      refine lv_iload hx hb dX6_pour_42 (lv_at hl 5 rfl) ?_
      refine lv_icmp_ge (tgt := 150) hx hb dX6_pour_44 (by decide) (fun c8 => ?_) (fun c8 => ?_)
      · replace hf := oif c8 hf
        have hf := Option.some.inj hf
        subst hf
        exact K H locs ls hP hS (lv_sub hl [6] rfl)
      · replace hf := oel c8 hf
        refine lv_aload_n hx hb dX6_pour_47 rfl (lv_at hl 0 rfl) ?_
        refine lv_iload_n hx hb dX6_pour_48 rfl (lv_at hl 1 rfl) ?_
        refine lv_iload_n hx hb dX6_pour_49 rfl (lv_at hl 2 rfl) ?_
        refine lv_i2l (v := (Int32.toInt64 v2)) hx hb dX6_pour_50 rfl ?_
        refine lv_iload hx hb dX6_pour_51 (lv_at hl 6 rfl) ?_
        refine lv_i2l (v := (Int32.toInt64 v6)) hx hb dX6_pour_53 rfl ?_
        refine lv_ladd hx hb dX6_pour_54 ?_
        obtain ⟨z9, hz9, hf⟩ := obd hf
        refine kI (runV (As := [.int v1, .long ((Int32.toInt64 v2) + (Int32.toInt64 v6))]) (rest := []) C0 hE hAb hP ((hD.weaken (fun _ _ _ h9 => hAb _ h9)).addr rfl) hS [0, 1] (wc := [oX6 w w_undos w_seed w_entries, aJ cJ (w 1) 3420 w_w]) (by decide) rfl 0 rfl rfl (c_X6_lacks l D cI cJ cZ cQ bs H.size w w_undos w_seed w_entries w_w v1 ((Int32.toInt64 v2) + (Int32.toInt64 v6)) z9 hz9) (cwV 2 hts gX6_pour_X6_lacks rfl rfl rfl (by decide +kernel) ⟨Nat.le_of_ble_eq_true rfl, Nat.le_of_ble_eq_true rfl⟩) rfl hl.1 rfl (Nat.le_of_ble_eq_true rfl) dX6_pour_55 ⟨Nat.le_of_ble_eq_true rfl, Nat.le_of_ble_eq_true rfl⟩) hS hP (fun H locs hP hS => ?_)
        refine lv_if_ne (tgt := 150) hx hb dX6_pour_58 (by decide) (fun c10 => ?_) (fun c10 => ?_)
        · replace hf := oel c10 hf
          have hf := Option.some.inj hf
          subst hf
          exact K H locs ls hP hS (lv_sub hl [6] rfl)
        · replace hf := oif c10 hf
          refine lv_aload_n hx hb dX6_pour_61 rfl (lv_at hl 0 rfl) ?_
          refine lv_iload_n hx hb dX6_pour_62 rfl (lv_at hl 3 rfl) ?_
          refine lv_iload hx hb dX6_pour_63 (lv_at hl 4 rfl) ?_
          refine lv_i2l (v := (Int32.toInt64 v4)) hx hb dX6_pour_65 rfl ?_
          refine lv_iload hx hb dX6_pour_66 (lv_at hl 6 rfl) ?_
          refine lv_i2l (v := (Int32.toInt64 v6)) hx hb dX6_pour_68 rfl ?_
          refine lv_ladd hx hb dX6_pour_69 ?_
          obtain ⟨z11, hz11, hf⟩ := obd hf
          refine kI (runV (As := [.int v3, .long ((Int32.toInt64 v4) + (Int32.toInt64 v6))]) (rest := []) C0 hE hAb hP ((hD.weaken (fun _ _ _ h9 => hAb _ h9)).addr rfl) hS [0, 1] (wc := [oX6 w w_undos w_seed w_entries, aJ cJ (w 1) 3420 w_w]) (by decide) rfl 0 rfl rfl (c_X6_lacks l D cI cJ cZ cQ bs H.size w w_undos w_seed w_entries w_w v3 ((Int32.toInt64 v4) + (Int32.toInt64 v6)) z11 hz11) (cwV 2 hts gX6_pour_X6_lacks rfl rfl rfl (by decide +kernel) ⟨Nat.le_of_ble_eq_true rfl, Nat.le_of_ble_eq_true rfl⟩) rfl hl.1 rfl (Nat.le_of_ble_eq_true rfl) dX6_pour_70 ⟨Nat.le_of_ble_eq_true rfl, Nat.le_of_ble_eq_true rfl⟩) hS hP (fun H locs hP hS => ?_)
          refine lv_if_ne (tgt := 150) hx hb dX6_pour_73 (by decide) (fun c12 => ?_) (fun c12 => ?_)
          · replace hf := oel c12 hf
            have hf := Option.some.inj hf
            subst hf
            exact K H locs ls hP hS (lv_sub hl [6] rfl)
          · replace hf := oif c12 hf
            refine lv_aload_n hx hb dX6_pour_76 rfl (lv_at hl 0 rfl) ?_
            refine lv_iload_n hx hb dX6_pour_77 rfl (lv_at hl 3 rfl) ?_
            refine lv_aload_n hx hb dX6_pour_78 rfl (lv_at hl 0 rfl) ?_
            refine lv_iload_n hx hb dX6_pour_79 rfl (lv_at hl 1 rfl) ?_
            refine lv_iload_n hx hb dX6_pour_80 rfl (lv_at hl 2 rfl) ?_
            refine lv_iload hx hb dX6_pour_81 (lv_at hl 6 rfl) ?_
            refine lv_iadd hx hb dX6_pour_83 ?_
            obtain ⟨z13, hz13, hf⟩ := obd hf
            refine kI (runV (As := [.int v1, .int (v2 + v6)]) (rest := [.int v3, .ref (w 0)]) C0 hE hAb hP ((hD.weaken (fun _ _ _ h9 => hAb _ h9)).addr rfl) hS [0, 1] (wc := [oX6 w w_undos w_seed w_entries, aJ cJ (w 1) 3420 w_w]) (by decide) rfl 0 rfl rfl (c_X6_sortAt l D cI cJ cZ cQ bs H.size w w_undos w_seed w_entries w_w v1 (v2 + v6) z13 hz13) (cwV 2 hts gX6_pour_X6_sortAt rfl rfl rfl (by decide +kernel) ⟨Nat.le_of_ble_eq_true rfl, Nat.le_of_ble_eq_true rfl⟩) rfl hl.1 rfl (Nat.le_of_ble_eq_true rfl) dX6_pour_84 ⟨Nat.le_of_ble_eq_true rfl, Nat.le_of_ble_eq_true rfl⟩) hS hP (fun H locs hP hS => ?_)
            refine lv_aload_n hx hb dX6_pour_87 rfl (lv_at hl 0 rfl) ?_
            refine va_get (D := D) (ci := 6) (v := .ref (w 1)) (C := RX6) (T := TX6) (N := 12) hx hb hts hI_X6 hown hK hP 0 rfl rfl 0 (by decide) gf7 (fun _ h9 => h9) rfl dX6_pour_88 ?_
            refine lv_bipush (v := 84) hx hb dX6_pour_91 (by decide) ?_
            refine lv_iload_n hx hb dX6_pour_93 rfl (lv_at hl 1 rfl) ?_
            refine lv_iload_n hx hb dX6_pour_94 rfl (lv_at hl 2 rfl) ?_
            refine lv_iload hx hb dX6_pour_95 (lv_at hl 6 rfl) ?_
            refine lv_iadd hx hb dX6_pour_97 ?_
            obtain ⟨z14, hz14, hf⟩ := obd hf
            refine kI (runS (As := [.int v1, .int (v2 + v6)]) (rest := [.int 84, .ref (w 1), .int z13, .int v3, .ref (w 0)]) C0 hE hAb hP ((hD.weaken (fun _ _ _ h9 => hAb _ h9)).addr rfl) hS [] (wc := []) (by decide) rfl (c_X6_at l D cI cJ cZ cQ bs H.size v1 (v2 + v6) z14 hz14) (va_cwS 2 hts gX6_pour_X6_at rfl rfl rfl (by decide +kernel) ⟨Nat.le_of_ble_eq_true rfl, Nat.le_of_ble_eq_true rfl⟩) rfl hl.1 rfl (Nat.le_of_ble_eq_true rfl) dX6_pour_98 ⟨Nat.le_of_ble_eq_true rfl, Nat.le_of_ble_eq_true rfl⟩) hS hP (fun H locs hP hS => ?_)
            refine lv_iadd hx hb dX6_pour_101 ?_
            obtain ⟨h15, hf⟩ := ogd hf
            refine va_lald hx hb hK hP 1 1 rfl rfl (ib_in h15) dX6_pour_102 ?_
            obtain ⟨z16, hz16, hf⟩ := obd hf
            refine kZ (runV (As := [.int v3, .int z13, .long (w_w ((84 : Int32) + z14).toNatClampNeg)]) (rest := []) C0 hE hAb hP ((hD.weaken (fun _ _ _ h9 => hAb _ h9)).addr rfl) hS [0, 1] (wc := [oX6 w w_undos w_seed w_entries, aJ cJ (w 1) 3420 w_w]) (by decide) rfl 0 rfl rfl (c_X6_takes l D cI cJ cZ cQ bs H.size w w_undos w_seed w_entries w_w v3 z13 (w_w ((84 : Int32) + z14).toNatClampNeg) z16 hz16) (cwV 3 hts gX6_pour_X6_takes rfl rfl rfl (by decide +kernel) ⟨Nat.le_of_ble_eq_true rfl, Nat.le_of_ble_eq_true rfl⟩) rfl hl.1 rfl (Nat.le_of_ble_eq_true rfl) dX6_pour_103 ⟨Nat.le_of_ble_eq_true rfl, Nat.le_of_ble_eq_true rfl⟩) hS hP (fun bz16 H locs hP hS => ?_)
            refine lv_if_eq (tgt := 150) hx hb dX6_pour_106 (by decide) (fun c17 => ?_) (fun c17 => ?_)
            · replace hf := oif c17 hf
              have hf := Option.some.inj hf
              subst hf
              exact K H locs ls hP hS (lv_sub hl [6] rfl)
            · replace hf := oel c17 hf
              refine lv_aload_n hx hb dX6_pour_109 rfl (lv_at hl 0 rfl) ?_
              refine lv_iload_n hx hb dX6_pour_110 rfl (lv_at hl 3 rfl) ?_
              refine lv_iload hx hb dX6_pour_111 (lv_at hl 4 rfl) ?_
              refine lv_iload hx hb dX6_pour_113 (lv_at hl 6 rfl) ?_
              refine lv_iadd hx hb dX6_pour_115 ?_
              refine lv_aload_n hx hb dX6_pour_116 rfl (lv_at hl 0 rfl) ?_
              refine lv_iload_n hx hb dX6_pour_117 rfl (lv_at hl 1 rfl) ?_
              refine lv_iload_n hx hb dX6_pour_118 rfl (lv_at hl 2 rfl) ?_
              refine lv_iload hx hb dX6_pour_119 (lv_at hl 6 rfl) ?_
              refine lv_iadd hx hb dX6_pour_121 ?_
              obtain ⟨z18, hz18, hf⟩ := obd hf
              refine kI (runV (As := [.int v1, .int (v2 + v6)]) (rest := [.int (v4 + v6), .int v3, .ref (w 0)]) C0 hE hAb hP ((hD.weaken (fun _ _ _ h9 => hAb _ h9)).addr rfl) hS [0, 1] (wc := [oX6 w w_undos w_seed w_entries, aJ cJ (w 1) 3420 w_w]) (by decide) rfl 0 rfl rfl (c_X6_sortAt l D cI cJ cZ cQ bs H.size w w_undos w_seed w_entries w_w v1 (v2 + v6) z18 hz18) (cwV 2 hts gX6_pour_X6_sortAt rfl rfl rfl (by decide +kernel) ⟨Nat.le_of_ble_eq_true rfl, Nat.le_of_ble_eq_true rfl⟩) rfl hl.1 rfl (Nat.le_of_ble_eq_true rfl) dX6_pour_122 ⟨Nat.le_of_ble_eq_true rfl, Nat.le_of_ble_eq_true rfl⟩) hS hP (fun H locs hP hS => ?_)
              refine lv_aload_n hx hb dX6_pour_125 rfl (lv_at hl 0 rfl) ?_
              refine va_get (D := D) (ci := 6) (v := .ref (w 1)) (C := RX6) (T := TX6) (N := 12) hx hb hts hI_X6 hown hK hP 0 rfl rfl 0 (by decide) gf7 (fun _ h9 => h9) rfl dX6_pour_126 ?_
              refine lv_bipush (v := 84) hx hb dX6_pour_129 (by decide) ?_
              refine lv_iload_n hx hb dX6_pour_131 rfl (lv_at hl 1 rfl) ?_
              refine lv_iload_n hx hb dX6_pour_132 rfl (lv_at hl 2 rfl) ?_
              refine lv_iload hx hb dX6_pour_133 (lv_at hl 6 rfl) ?_
              refine lv_iadd hx hb dX6_pour_135 ?_
              obtain ⟨z19, hz19, hf⟩ := obd hf
              refine kI (runS (As := [.int v1, .int (v2 + v6)]) (rest := [.int 84, .ref (w 1), .int z18, .int (v4 + v6), .int v3, .ref (w 0)]) C0 hE hAb hP ((hD.weaken (fun _ _ _ h9 => hAb _ h9)).addr rfl) hS [] (wc := []) (by decide) rfl (c_X6_at l D cI cJ cZ cQ bs H.size v1 (v2 + v6) z19 hz19) (va_cwS 2 hts gX6_pour_X6_at rfl rfl rfl (by decide +kernel) ⟨Nat.le_of_ble_eq_true rfl, Nat.le_of_ble_eq_true rfl⟩) rfl hl.1 rfl (Nat.le_of_ble_eq_true rfl) dX6_pour_136 ⟨Nat.le_of_ble_eq_true rfl, Nat.le_of_ble_eq_true rfl⟩) hS hP (fun H locs hP hS => ?_)
              refine lv_iadd hx hb dX6_pour_139 ?_
              obtain ⟨h20, hf⟩ := ogd hf
              refine va_lald hx hb hK hP 1 1 rfl rfl (ib_in h20) dX6_pour_140 ?_
              obtain ⟨z21, hz21, hf⟩ := obd hf
              refine kwV (runV (As := [.int v3, .int (v4 + v6), .int z18, .long (w_w ((84 : Int32) + z19).toNatClampNeg)]) (rest := []) C0 hE hAb hP ((hD.weaken (fun _ _ _ h9 => hAb _ h9)).addr rfl) hS [0, 1] (wc := [oX6 w w_undos w_seed w_entries, aJ cJ (w 1) 3420 w_w]) (by decide) rfl 0 rfl rfl (c_X6_sets l D cI cJ cZ cQ bs H.size w w_undos w_seed w_entries w_w v3 (v4 + v6) z18 (w_w ((84 : Int32) + z19).toNatClampNeg) z21 hz21) (cwV 4 hts gX6_pour_X6_sets rfl rfl rfl (by decide +kernel) ⟨Nat.le_of_ble_eq_true rfl, Nat.le_of_ble_eq_true rfl⟩) rfl hl.1 rfl (Nat.le_of_ble_eq_true rfl) dX6_pour_141 ⟨Nat.le_of_ble_eq_true rfl, Nat.le_of_ble_eq_true rfl⟩) hS hP (hD.addr rfl) hA [0, 1] rfl rfl (ws' := [oX6 w w_undos w_seed w_entries, aJ cJ (w 1) 3420 z21]) rfl rfl (fun H locs hP hS => ?_)
              obtain ⟨y22, ey22⟩ : ∃ y : Int32, y = v6 + 1 := ⟨_, rfl⟩
              replace hf := onm ey22 hf
              refine lv_iinc (v := y22) (lv' := [(6, .int y22), (0, .ref (w 0)), (1, .int v1), (2, .int v2), (3, .int v3), (4, .int v4), (5, .int v5)]) hx hb dX6_pour_144 hl (k := 6) rfl (by rw [ey22]; rfl) (by decide) rfl (fun ls hl => ?_)
              refine lv_goto (tgt := 40) hx hb dX6_pour_147 (by decide) ?_
              exact ih v1 v2 v3 v4 v5 y22 z21 w_undos H locs ls z hP hS (lv_sub hl [1, 2, 3, 4, 5, 6, 0] rfl) hf K
  unfold f_X6_pour at hf
  have go : ∀ (H : Heap) (locs : List Loc), va_P D vwCl [oX6 w w_undos w_seed w_entries, aJ cJ (w 1) 3420 w_w] H → va_S A s.heap H locs → W p l e { frames := 3, cells := 0, slots := 0, locals := 82 } s m args below meth c H locs 0 0 (MQ below (QwI D zr (fun u => [oX6 w u.2 w_seed w_entries, aJ cJ (w 1) 3420 u.1]) A) args s 0 0 A) (F0 m 0 ls []) := by
    intro H locs hP hS
    refine lv_iload_n hx hb dX6_pour_0 rfl (lv_at hl 1 rfl) ?_
    obtain ⟨z1, hz1, hf⟩ := obd hf
    refine kZ (runS (As := [.int x1]) (rest := []) C0 hE hAb hP ((hD.weaken (fun _ _ _ h9 => hAb _ h9)).addr rfl) hS [] (wc := []) (by decide) rfl (c_X6_isSlot l D cI cJ cZ cQ bs H.size x1 z1 hz1) (va_cwS 1 hts gX6_pour_X6_isSlot rfl rfl rfl (by decide +kernel) ⟨Nat.le_of_ble_eq_true rfl, Nat.le_of_ble_eq_true rfl⟩) rfl hl.1 rfl (Nat.le_of_ble_eq_true rfl) dX6_pour_1 ⟨Nat.le_of_ble_eq_true rfl, Nat.le_of_ble_eq_true rfl⟩) hS hP (fun bz1 H locs hP hS => ?_)
    refine lv_if_eq (tgt := 14) hx hb dX6_pour_4 (by decide) (fun c2 => ?_) (fun c2 => ?_)
    · replace hf := oif c2 hf
      refine lv_ldc hx hb hown gk198 dX6_pour_14 ?_
      have er := Option.some.inj hf
      exact rwI (wm := (fun u => [oX6 w u.2 w_seed w_entries, aJ cJ (w 1) 3420 u.1])) hx hb hr hS dX6_pour_16 hP er hlocks
    · replace hf := oel c2 hf
      refine lv_iload_n hx hb dX6_pour_7 rfl (lv_at hl 3 rfl) ?_
      obtain ⟨z3, hz3, hf⟩ := obd hf
      refine kZ (runS (As := [.int x3]) (rest := []) C0 hE hAb hP ((hD.weaken (fun _ _ _ h9 => hAb _ h9)).addr rfl) hS [] (wc := []) (by decide) rfl (c_X6_isSlot l D cI cJ cZ cQ bs H.size x3 z3 hz3) (va_cwS 1 hts gX6_pour_X6_isSlot rfl rfl rfl (by decide +kernel) ⟨Nat.le_of_ble_eq_true rfl, Nat.le_of_ble_eq_true rfl⟩) rfl hl.1 rfl (Nat.le_of_ble_eq_true rfl) dX6_pour_8 ⟨Nat.le_of_ble_eq_true rfl, Nat.le_of_ble_eq_true rfl⟩) hS hP (fun bz3 H locs hP hS => ?_)
      refine lv_if_ne (tgt := 17) hx hb dX6_pour_11 (by decide) (fun c4 => ?_) (fun c4 => ?_)
      · replace hf := oel c4 hf
        refine lv_iload hx hb dX6_pour_17 (lv_at hl 5 rfl) ?_
        refine lv_i2l (v := (Int32.toInt64 x5)) hx hb dX6_pour_19 rfl ?_
        refine lv_lconst (v := 0) hx hb dX6_pour_20 (by decide) ?_
        refine lv_ldc2 hx hb hown gk237 dX6_pour_21 ?_
        obtain ⟨z5, hz5, hf⟩ := obd hf
        refine kZ (runS (As := [.long (Int32.toInt64 x5), .long 0, .long 12]) (rest := []) C0 hE hAb hP ((hD.weaken (fun _ _ _ h9 => hAb _ h9)).addr rfl) hS [] (wc := []) (by decide) rfl (c_X6_in l D cI cJ cZ cQ bs H.size (Int32.toInt64 x5) 0 12 z5 hz5) (va_cwS 3 hts gX6_pour_X6_in rfl rfl rfl (by decide +kernel) ⟨Nat.le_of_ble_eq_true rfl, Nat.le_of_ble_eq_true rfl⟩) rfl hl.1 rfl (Nat.le_of_ble_eq_true rfl) dX6_pour_24 ⟨Nat.le_of_ble_eq_true rfl, Nat.le_of_ble_eq_true rfl⟩) hS hP (fun bz5 H locs hP hS => ?_)
        refine lv_if_ne (tgt := 33) hx hb dX6_pour_27 (by decide) (fun c6 => ?_) (fun c6 => ?_)
        · replace hf := oel c6 hf
          refine lv_aload_n hx hb dX6_pour_33 rfl (lv_at hl 0 rfl) ?_
          obtain ⟨z7, hz7, hf⟩ := obd hf
          refine kwV (runV (As := []) (rest := []) C0 hE hAb hP ((hD.weaken (fun _ _ _ h9 => hAb _ h9)).addr rfl) hS [0, 1] (wc := [oX6 w w_undos w_seed w_entries, aJ cJ (w 1) 3420 w_w]) (by decide) rfl 0 rfl rfl (c_X6_minds l D cI cJ cZ cQ bs H.size w w_undos w_seed w_entries w_w z7 hz7) (cwV 0 hts gX6_pour_X6_minds rfl rfl rfl (by decide +kernel) ⟨Nat.le_of_ble_eq_true rfl, Nat.le_of_ble_eq_true rfl⟩) rfl hl.1 rfl (Nat.le_of_ble_eq_true rfl) dX6_pour_34 ⟨Nat.le_of_ble_eq_true rfl, Nat.le_of_ble_eq_true rfl⟩) hS hP (hD.addr rfl) hA [0, 1] rfl rfl (ws' := [oX6 w z7.2 w_seed w_entries, aJ cJ (w 1) 3420 z7.1]) rfl rfl (fun H locs hP hS => ?_)
          refine lv_iconst (v := 0) hx hb dX6_pour_37 (by decide) ?_
          refine lv_istore (lv' := [(6, .int 0), (0, .ref (w 0)), (1, .int x1), (2, .int x2), (3, .int x3), (4, .int x4), (5, .int x5)]) hx hb dX6_pour_38 hl (by decide) rfl (fun ls hl => ?_)
          obtain ⟨z23, hz23, hf⟩ := obd hf
          refine W40 4000 x1 x2 x3 x4 x5 0 z7.1 z7.2 H locs ls z23 hP hS (lv_sub hl [1, 2, 3, 4, 5, 6, 0] rfl) hz23 (fun H locs ls hP hS hl => ?_)
          refine lv_iload hx hb dX6_pour_150 (lv_at hl 0 rfl) ?_
          have er := Option.some.inj hf
          exact rwI (wm := (fun u => [oX6 w u.2 w_seed w_entries, aJ cJ (w 1) 3420 u.1])) hx hb hr hS dX6_pour_152 hP er hlocks
        · replace hf := oif c6 hf
          refine lv_ldc hx hb hown gk192 dX6_pour_30 ?_
          have er := Option.some.inj hf
          exact rwI (wm := (fun u => [oX6 w u.2 w_seed w_entries, aJ cJ (w 1) 3420 u.1])) hx hb hr hS dX6_pour_32 hP er hlocks
      · replace hf := oif c4 hf
        refine lv_ldc hx hb hown gk198 dX6_pour_14 ?_
        have er := Option.some.inj hf
        exact rwI (wm := (fun u => [oX6 w u.2 w_seed w_entries, aJ cJ (w 1) 3420 u.1])) hx hb hr hS dX6_pour_16 hP er hlocks
  exact go s.heap [] hP hS
noncomputable def f_X6_weigh (w_w : Nat → Int64) (w_undos : Int32) (x1 : Int32) (x2 : Int32) : Option (Int32 × (Nat → Int64) × Int32) := (f_X6_in (Int32.toInt64 x1) 0 7).bind (fun z1 => if z1 = 0 then (some (((-1000000001), w_w, w_undos))) else ((f_X6_in (Int32.toInt64 x2) (-1000) 1000).bind (fun z3 => if z3 = 0 then (some (((-1000000002), w_w, w_undos))) else ((f_X6_minds w_w w_undos).bind (fun z5 => if ib ((172 : Int32) + x1) 3420 = true then ((some ((Int64.toInt32 (z5.1 ((172 : Int32) + x1).toNatClampNeg)) : Int32)).bind (fun y7 => if ib ((172 : Int32) + x1) 3420 = true then ((some (vp_updL z5.1 ((172 : Int32) + x1).toNatClampNeg (Int32.toInt64 x2) : Nat → Int64)).bind (fun h8a => some ((y7, h8a, z5.2)))) else none)) else none)))))
set_option maxHeartbeats 4000000 in
set_option maxRecDepth 100000 in
theorem c_X6_weigh (l : Launch) (D : va_G) (cI cJ cZ cQ : ClassId) (bs sz : Nat) (w : Nat → Nat) (w_undos : Int32) (w_seed : Int32) (w_entries : Int32) (w_w : Nat → Int64) (x1 : Int32) (x2 : Int32) (zr : Int32 × (Nat → Int64) × Int32) (hf : f_X6_weigh w_w w_undos x1 x2 = some zr) : Met l yX6_weigh wsX6_weigh { frames := 2, cells := 0, slots := 0, locals := 44 } (va_Pc [.ref (w 0), .int x1, .int x2] (Pr D cI cJ cZ cQ bs sz [oX6 w w_undos w_seed w_entries, aJ cJ (w 1) 3420 w_w])) (QwI D zr (fun u => [oX6 w u.2 w_seed w_entries, aJ cJ (w 1) 3420 u.1]) (va_A [oX6 w w_undos w_seed w_entries, aJ cJ (w 1) 3420 w_w] sz)) 0 0 (va_A [oX6 w w_undos w_seed w_entries, aJ cJ (w 1) 3420 w_w] sz) := by
  refine stW (cc := cX6_weigh) (maxL := 4) (ret := (some .int)) (Qf := fun A => (QwI D zr (fun u => [oX6 w u.2 w_seed w_entries, aJ cJ (w 1) 3420 u.1]) A)) (by decide +kernel) rfl (Nat.le_of_ble_eq_true rfl) ?_
  intro p e s m args below meth c A C0 hr hlocks hname hsz hP hD hA hAb hE ls hl
  obtain ⟨hx, hb, hml, hown, hts⟩ := id C0
  have hown : s.vm.findClass RX6 = some m.cls := hown
  obtain ⟨hK, hNW, -, tw, hZ, hT⟩ := id hE
  have hl : lv_has ls 4 [(0, .ref (w 0)), (1, .int x1), (2, .int x2)] := hl
  have hS : va_S A s.heap s.heap [] := va_S.rf
  have gk207 := hts (.constantLong RX6 207 (7)) (by decide +kernel)
  have gk247 := hts (.constantLong RX6 247 (-1000)) (by decide +kernel)
  have gk249 := hts (.constantLong RX6 249 (1000)) (by decide +kernel)
  have hI_X6 := (show ∀ w ∈ wsX60, w ∈ wsX6_weigh by decide +kernel)
  have gf7 := hts (.fieldLink RX6 7 "RowRanksModel" "w" "[J") (by decide +kernel)
  have gk192 := hts (.constant RX6 192 (-1000000002)) (by decide +kernel)
  have gk198 := hts (.constant RX6 198 (-1000000001)) (by decide +kernel)
  unfold f_X6_weigh at hf
  have go : ∀ (H : Heap) (locs : List Loc), va_P D vwCl [oX6 w w_undos w_seed w_entries, aJ cJ (w 1) 3420 w_w] H → va_S A s.heap H locs → W p l e { frames := 2, cells := 0, slots := 0, locals := 44 } s m args below meth c H locs 0 0 (MQ below (QwI D zr (fun u => [oX6 w u.2 w_seed w_entries, aJ cJ (w 1) 3420 u.1]) A) args s 0 0 A) (F0 m 0 ls []) := by
    intro H locs hP hS
    refine lv_iload_n hx hb dX6_weigh_0 rfl (lv_at hl 1 rfl) ?_
    refine lv_i2l (v := (Int32.toInt64 x1)) hx hb dX6_weigh_1 rfl ?_
    refine lv_lconst (v := 0) hx hb dX6_weigh_2 (by decide) ?_
    refine lv_ldc2 hx hb hown gk207 dX6_weigh_3 ?_
    obtain ⟨z1, hz1, hf⟩ := obd hf
    refine kZ (runS (As := [.long (Int32.toInt64 x1), .long 0, .long 7]) (rest := []) C0 hE hAb hP ((hD.weaken (fun _ _ _ h9 => hAb _ h9)).addr rfl) hS [] (wc := []) (by decide) rfl (c_X6_in l D cI cJ cZ cQ bs H.size (Int32.toInt64 x1) 0 7 z1 hz1) (va_cwS 3 hts gX6_weigh_X6_in rfl rfl rfl (by decide +kernel) ⟨Nat.le_of_ble_eq_true rfl, Nat.le_of_ble_eq_true rfl⟩) rfl hl.1 rfl (Nat.le_of_ble_eq_true rfl) dX6_weigh_6 ⟨Nat.le_of_ble_eq_true rfl, Nat.le_of_ble_eq_true rfl⟩) hS hP (fun bz1 H locs hP hS => ?_)
    refine lv_if_ne (tgt := 15) hx hb dX6_weigh_9 (by decide) (fun c2 => ?_) (fun c2 => ?_)
    · replace hf := oel c2 hf
      refine lv_iload_n hx hb dX6_weigh_15 rfl (lv_at hl 2 rfl) ?_
      refine lv_i2l (v := (Int32.toInt64 x2)) hx hb dX6_weigh_16 rfl ?_
      refine lv_ldc2 hx hb hown gk247 dX6_weigh_17 ?_
      refine lv_ldc2 hx hb hown gk249 dX6_weigh_20 ?_
      obtain ⟨z3, hz3, hf⟩ := obd hf
      refine kZ (runS (As := [.long (Int32.toInt64 x2), .long (-1000), .long 1000]) (rest := []) C0 hE hAb hP ((hD.weaken (fun _ _ _ h9 => hAb _ h9)).addr rfl) hS [] (wc := []) (by decide) rfl (c_X6_in l D cI cJ cZ cQ bs H.size (Int32.toInt64 x2) (-1000) 1000 z3 hz3) (va_cwS 3 hts gX6_weigh_X6_in rfl rfl rfl (by decide +kernel) ⟨Nat.le_of_ble_eq_true rfl, Nat.le_of_ble_eq_true rfl⟩) rfl hl.1 rfl (Nat.le_of_ble_eq_true rfl) dX6_weigh_23 ⟨Nat.le_of_ble_eq_true rfl, Nat.le_of_ble_eq_true rfl⟩) hS hP (fun bz3 H locs hP hS => ?_)
      refine lv_if_ne (tgt := 32) hx hb dX6_weigh_26 (by decide) (fun c4 => ?_) (fun c4 => ?_)
      · replace hf := oel c4 hf
        refine lv_aload_n hx hb dX6_weigh_32 rfl (lv_at hl 0 rfl) ?_
        obtain ⟨z5, hz5, hf⟩ := obd hf
        refine kwV (runV (As := []) (rest := []) C0 hE hAb hP ((hD.weaken (fun _ _ _ h9 => hAb _ h9)).addr rfl) hS [0, 1] (wc := [oX6 w w_undos w_seed w_entries, aJ cJ (w 1) 3420 w_w]) (by decide) rfl 0 rfl rfl (c_X6_minds l D cI cJ cZ cQ bs H.size w w_undos w_seed w_entries w_w z5 hz5) (cwV 0 hts gX6_weigh_X6_minds rfl rfl rfl (by decide +kernel) ⟨Nat.le_of_ble_eq_true rfl, Nat.le_of_ble_eq_true rfl⟩) rfl hl.1 rfl (Nat.le_of_ble_eq_true rfl) dX6_weigh_33 ⟨Nat.le_of_ble_eq_true rfl, Nat.le_of_ble_eq_true rfl⟩) hS hP (hD.addr rfl) hA [0, 1] rfl rfl (ws' := [oX6 w z5.2 w_seed w_entries, aJ cJ (w 1) 3420 z5.1]) rfl rfl (fun H locs hP hS => ?_)
        refine lv_aload_n hx hb dX6_weigh_36 rfl (lv_at hl 0 rfl) ?_
        refine va_get (D := D) (ci := 6) (v := .ref (w 1)) (C := RX6) (T := TX6) (N := 12) hx hb hts hI_X6 hown hK hP 0 rfl rfl 0 (by decide) gf7 (fun _ h9 => h9) rfl dX6_weigh_37 ?_
        refine lv_sipush (v := 172) hx hb dX6_weigh_40 (by decide) ?_
        refine lv_iload_n hx hb dX6_weigh_43 rfl (lv_at hl 1 rfl) ?_
        refine lv_iadd hx hb dX6_weigh_44 ?_
        obtain ⟨h6, hf⟩ := ogd hf
        refine va_lald hx hb hK hP 1 1 rfl rfl (ib_in h6) dX6_weigh_45 ?_
        refine lv_l2i (v := (Int64.toInt32 (z5.1 ((172 : Int32) + x1).toNatClampNeg))) hx hb dX6_weigh_46 rfl ?_
        refine lv_topi (fun y7 ey7 => ?_)
        replace hf := onm ey7 hf
        refine lv_istore_n (lv' := [(3, .int y7), (0, .ref (w 0)), (1, .int x1), (2, .int x2)]) hx hb dX6_weigh_47 rfl hl (by decide) rfl (fun ls hl => ?_)
        refine lv_aload_n hx hb dX6_weigh_48 rfl (lv_at hl 1 rfl) ?_
        refine va_get (D := D) (ci := 6) (v := .ref (w 1)) (C := RX6) (T := TX6) (N := 12) hx hb hts hI_X6 hown hK hP 0 rfl rfl 0 (by decide) gf7 (fun _ h9 => h9) rfl dX6_weigh_49 ?_
        refine lv_sipush (v := 172) hx hb dX6_weigh_52 (by decide) ?_
        refine lv_iload_n hx hb dX6_weigh_55 rfl (lv_at hl 2 rfl) ?_
        refine lv_iadd hx hb dX6_weigh_56 ?_
        refine lv_iload_n hx hb dX6_weigh_57 rfl (lv_at hl 3 rfl) ?_
        refine lv_i2l (v := (Int32.toInt64 x2)) hx hb dX6_weigh_58 rfl ?_
        obtain ⟨h8, hf⟩ := ogd hf
        refine va_last hx hb hK hP (hD.addr rfl) hS 1 1 rfl rfl (ib_in h8) dX6_weigh_59 (fun H locs hP _ hS => ?_)
        obtain ⟨h8a, eh8a⟩ : ∃ y : Nat → Int64, y = vp_updL z5.1 ((172 : Int32) + x1).toNatClampNeg (Int32.toInt64 x2) := ⟨_, rfl⟩
        replace hf := onm eh8a hf
        have hP : va_P D vwCl [oX6 w z5.2 w_seed w_entries, aJ cJ (w 1) 3420 h8a] H := by rw [eh8a]; exact hP
        refine lv_iload_n hx hb dX6_weigh_60 rfl (lv_at hl 0 rfl) ?_
        have er := Option.some.inj hf
        exact rwI (wm := (fun u => [oX6 w u.2 w_seed w_entries, aJ cJ (w 1) 3420 u.1])) hx hb hr hS dX6_weigh_61 hP er hlocks
      · replace hf := oif c4 hf
        refine lv_ldc hx hb hown gk192 dX6_weigh_29 ?_
        have er := Option.some.inj hf
        exact rwI (wm := (fun u => [oX6 w u.2 w_seed w_entries, aJ cJ (w 1) 3420 u.1])) hx hb hr hS dX6_weigh_31 hP er hlocks
    · replace hf := oif c2 hf
      refine lv_ldc hx hb hown gk198 dX6_weigh_12 ?_
      have er := Option.some.inj hf
      exact rwI (wm := (fun u => [oX6 w u.2 w_seed w_entries, aJ cJ (w 1) 3420 u.1])) hx hb hr hS dX6_weigh_14 hP er hlocks
  exact go s.heap [] hP hS
noncomputable def f_X6_key (w_w : Nat → Int64) (w_undos : Int32) (x1 : Int32) (x2 : Int32) (x3 : Int32) : Option (Int32 × (Nat → Int64) × Int32) := (f_X6_isSlot x1).bind (fun z1 => if z1 = 0 then (some (((-1000000001), w_w, w_undos))) else ((f_X6_in (Int32.toInt64 x2) 0 8).bind (fun z3 => if z3 = 0 then (some (((-1000000002), w_w, w_undos))) else ((f_X6_in (Int32.toInt64 x3) 0 1).bind (fun z5 => if z5 = 0 then (some (((-1000000002), w_w, w_undos))) else ((f_X6_keys w_w).bind (fun z7 => if z7 = 4 then (some (((-1000000004), w_w, w_undos))) else ((f_X6_minds w_w w_undos).bind (fun z9 => (f_X6_keys z9.1).bind (fun z10 => (some (((157 : Int32) + ((3 : Int32) * z10)) : Int32)).bind (fun y11 => if ib y11 3420 = true then ((some (vp_updL z9.1 y11.toNatClampNeg (Int32.toInt64 x1) : Nat → Int64)).bind (fun h12a => if ib (y11 + (1 : Int32)) 3420 = true then ((some (vp_updL h12a (y11 + (1 : Int32)).toNatClampNeg (Int32.toInt64 x2) : Nat → Int64)).bind (fun h13a => if ib (y11 + (2 : Int32)) 3420 = true then ((some (vp_updL h13a (y11 + (2 : Int32)).toNatClampNeg (Int32.toInt64 x3) : Nat → Int64)).bind (fun h14a => (some (vp_updL h14a (Int32.toNatClampNeg 156) ((h14a (Int32.toNatClampNeg 156)) + (1 : Int64)) : Nat → Int64)).bind (fun h16a => (f_X6_keys h16a).bind (fun z17 => some ((z17, h16a, z9.2)))))) else none)) else none)) else none)))))))))))
set_option maxHeartbeats 4000000 in
set_option maxRecDepth 100000 in
theorem c_X6_key (l : Launch) (D : va_G) (cI cJ cZ cQ : ClassId) (bs sz : Nat) (w : Nat → Nat) (w_undos : Int32) (w_seed : Int32) (w_entries : Int32) (w_w : Nat → Int64) (x1 : Int32) (x2 : Int32) (x3 : Int32) (zr : Int32 × (Nat → Int64) × Int32) (hf : f_X6_key w_w w_undos x1 x2 x3 = some zr) : Met l yX6_key wsX6_key { frames := 2, cells := 0, slots := 0, locals := 45 } (va_Pc [.ref (w 0), .int x1, .int x2, .int x3] (Pr D cI cJ cZ cQ bs sz [oX6 w w_undos w_seed w_entries, aJ cJ (w 1) 3420 w_w])) (QwI D zr (fun u => [oX6 w u.2 w_seed w_entries, aJ cJ (w 1) 3420 u.1]) (va_A [oX6 w w_undos w_seed w_entries, aJ cJ (w 1) 3420 w_w] sz)) 0 0 (va_A [oX6 w w_undos w_seed w_entries, aJ cJ (w 1) 3420 w_w] sz) := by
  refine stW (cc := cX6_key) (maxL := 5) (ret := (some .int)) (Qf := fun A => (QwI D zr (fun u => [oX6 w u.2 w_seed w_entries, aJ cJ (w 1) 3420 u.1]) A)) (by decide +kernel) rfl (Nat.le_of_ble_eq_true rfl) ?_
  intro p e s m args below meth c A C0 hr hlocks hname hsz hP hD hA hAb hE ls hl
  obtain ⟨hx, hb, hml, hown, hts⟩ := id C0
  have hown : s.vm.findClass RX6 = some m.cls := hown
  obtain ⟨hK, hNW, -, tw, hZ, hT⟩ := id hE
  have hl : lv_has ls 5 [(0, .ref (w 0)), (1, .int x1), (2, .int x2), (3, .int x3)] := hl
  have hS : va_S A s.heap s.heap [] := va_S.rf
  have gk227 := hts (.constantLong RX6 227 (8)) (by decide +kernel)
  have gk192 := hts (.constant RX6 192 (-1000000002)) (by decide +kernel)
  have hI_X6 := (show ∀ w ∈ wsX60, w ∈ wsX6_key by decide +kernel)
  have gf7 := hts (.fieldLink RX6 7 "RowRanksModel" "w" "[J") (by decide +kernel)
  have gk251 := hts (.constant RX6 251 (-1000000004)) (by decide +kernel)
  have gk198 := hts (.constant RX6 198 (-1000000001)) (by decide +kernel)
  unfold f_X6_key at hf
  have go : ∀ (H : Heap) (locs : List Loc), va_P D vwCl [oX6 w w_undos w_seed w_entries, aJ cJ (w 1) 3420 w_w] H → va_S A s.heap H locs → W p l e { frames := 2, cells := 0, slots := 0, locals := 45 } s m args below meth c H locs 0 0 (MQ below (QwI D zr (fun u => [oX6 w u.2 w_seed w_entries, aJ cJ (w 1) 3420 u.1]) A) args s 0 0 A) (F0 m 0 ls []) := by
    intro H locs hP hS
    refine lv_iload_n hx hb dX6_key_0 rfl (lv_at hl 1 rfl) ?_
    obtain ⟨z1, hz1, hf⟩ := obd hf
    refine kZ (runS (As := [.int x1]) (rest := []) C0 hE hAb hP ((hD.weaken (fun _ _ _ h9 => hAb _ h9)).addr rfl) hS [] (wc := []) (by decide) rfl (c_X6_isSlot l D cI cJ cZ cQ bs H.size x1 z1 hz1) (va_cwS 1 hts gX6_key_X6_isSlot rfl rfl rfl (by decide +kernel) ⟨Nat.le_of_ble_eq_true rfl, Nat.le_of_ble_eq_true rfl⟩) rfl hl.1 rfl (Nat.le_of_ble_eq_true rfl) dX6_key_1 ⟨Nat.le_of_ble_eq_true rfl, Nat.le_of_ble_eq_true rfl⟩) hS hP (fun bz1 H locs hP hS => ?_)
    refine lv_if_ne (tgt := 10) hx hb dX6_key_4 (by decide) (fun c2 => ?_) (fun c2 => ?_)
    · replace hf := oel c2 hf
      refine lv_iload_n hx hb dX6_key_10 rfl (lv_at hl 2 rfl) ?_
      refine lv_i2l (v := (Int32.toInt64 x2)) hx hb dX6_key_11 rfl ?_
      refine lv_lconst (v := 0) hx hb dX6_key_12 (by decide) ?_
      refine lv_ldc2 hx hb hown gk227 dX6_key_13 ?_
      obtain ⟨z3, hz3, hf⟩ := obd hf
      refine kZ (runS (As := [.long (Int32.toInt64 x2), .long 0, .long 8]) (rest := []) C0 hE hAb hP ((hD.weaken (fun _ _ _ h9 => hAb _ h9)).addr rfl) hS [] (wc := []) (by decide) rfl (c_X6_in l D cI cJ cZ cQ bs H.size (Int32.toInt64 x2) 0 8 z3 hz3) (va_cwS 3 hts gX6_key_X6_in rfl rfl rfl (by decide +kernel) ⟨Nat.le_of_ble_eq_true rfl, Nat.le_of_ble_eq_true rfl⟩) rfl hl.1 rfl (Nat.le_of_ble_eq_true rfl) dX6_key_16 ⟨Nat.le_of_ble_eq_true rfl, Nat.le_of_ble_eq_true rfl⟩) hS hP (fun bz3 H locs hP hS => ?_)
      refine lv_if_eq (tgt := 32) hx hb dX6_key_19 (by decide) (fun c4 => ?_) (fun c4 => ?_)
      · replace hf := oif c4 hf
        refine lv_ldc hx hb hown gk192 dX6_key_32 ?_
        have er := Option.some.inj hf
        exact rwI (wm := (fun u => [oX6 w u.2 w_seed w_entries, aJ cJ (w 1) 3420 u.1])) hx hb hr hS dX6_key_34 hP er hlocks
      · replace hf := oel c4 hf
        refine lv_iload_n hx hb dX6_key_22 rfl (lv_at hl 3 rfl) ?_
        refine lv_i2l (v := (Int32.toInt64 x3)) hx hb dX6_key_23 rfl ?_
        refine lv_lconst (v := 0) hx hb dX6_key_24 (by decide) ?_
        refine lv_lconst (v := 1) hx hb dX6_key_25 (by decide) ?_
        obtain ⟨z5, hz5, hf⟩ := obd hf
        refine kZ (runS (As := [.long (Int32.toInt64 x3), .long 0, .long 1]) (rest := []) C0 hE hAb hP ((hD.weaken (fun _ _ _ h9 => hAb _ h9)).addr rfl) hS [] (wc := []) (by decide) rfl (c_X6_in l D cI cJ cZ cQ bs H.size (Int32.toInt64 x3) 0 1 z5 hz5) (va_cwS 3 hts gX6_key_X6_in rfl rfl rfl (by decide +kernel) ⟨Nat.le_of_ble_eq_true rfl, Nat.le_of_ble_eq_true rfl⟩) rfl hl.1 rfl (Nat.le_of_ble_eq_true rfl) dX6_key_26 ⟨Nat.le_of_ble_eq_true rfl, Nat.le_of_ble_eq_true rfl⟩) hS hP (fun bz5 H locs hP hS => ?_)
        refine lv_if_ne (tgt := 35) hx hb dX6_key_29 (by decide) (fun c6 => ?_) (fun c6 => ?_)
        · replace hf := oel c6 hf
          refine lv_aload_n hx hb dX6_key_35 rfl (lv_at hl 0 rfl) ?_
          obtain ⟨z7, hz7, hf⟩ := obd hf
          refine kI (runV (As := []) (rest := []) C0 hE hAb hP ((hD.weaken (fun _ _ _ h9 => hAb _ h9)).addr rfl) hS [0, 1] (wc := [oX6 w w_undos w_seed w_entries, aJ cJ (w 1) 3420 w_w]) (by decide) rfl 0 rfl rfl (c_X6_keys l D cI cJ cZ cQ bs H.size w w_undos w_seed w_entries w_w z7 hz7) (cwV 0 hts gX6_key_X6_keys rfl rfl rfl (by decide +kernel) ⟨Nat.le_of_ble_eq_true rfl, Nat.le_of_ble_eq_true rfl⟩) rfl hl.1 rfl (Nat.le_of_ble_eq_true rfl) dX6_key_36 ⟨Nat.le_of_ble_eq_true rfl, Nat.le_of_ble_eq_true rfl⟩) hS hP (fun H locs hP hS => ?_)
          refine lv_iconst (v := 4) hx hb dX6_key_39 (by decide) ?_
          refine lv_icmp_ne (tgt := 46) hx hb dX6_key_40 (by decide) (fun c8 => ?_) (fun c8 => ?_)
          · replace hf := oel c8 hf
            refine lv_aload_n hx hb dX6_key_46 rfl (lv_at hl 0 rfl) ?_
            obtain ⟨z9, hz9, hf⟩ := obd hf
            refine kwV (runV (As := []) (rest := []) C0 hE hAb hP ((hD.weaken (fun _ _ _ h9 => hAb _ h9)).addr rfl) hS [0, 1] (wc := [oX6 w w_undos w_seed w_entries, aJ cJ (w 1) 3420 w_w]) (by decide) rfl 0 rfl rfl (c_X6_minds l D cI cJ cZ cQ bs H.size w w_undos w_seed w_entries w_w z9 hz9) (cwV 0 hts gX6_key_X6_minds rfl rfl rfl (by decide +kernel) ⟨Nat.le_of_ble_eq_true rfl, Nat.le_of_ble_eq_true rfl⟩) rfl hl.1 rfl (Nat.le_of_ble_eq_true rfl) dX6_key_47 ⟨Nat.le_of_ble_eq_true rfl, Nat.le_of_ble_eq_true rfl⟩) hS hP (hD.addr rfl) hA [0, 1] rfl rfl (ws' := [oX6 w z9.2 w_seed w_entries, aJ cJ (w 1) 3420 z9.1]) rfl rfl (fun H locs hP hS => ?_)
            refine lv_sipush (v := 157) hx hb dX6_key_50 (by decide) ?_
            refine lv_iconst (v := 3) hx hb dX6_key_53 (by decide) ?_
            refine lv_aload_n hx hb dX6_key_54 rfl (lv_at hl 0 rfl) ?_
            obtain ⟨z10, hz10, hf⟩ := obd hf
            refine kI (runV (As := []) (rest := [.int 3, .int 157]) C0 hE hAb hP ((hD.weaken (fun _ _ _ h9 => hAb _ h9)).addr rfl) hS [0, 1] (wc := [oX6 w z9.2 w_seed w_entries, aJ cJ (w 1) 3420 z9.1]) (by decide) rfl 0 rfl rfl (c_X6_keys l D cI cJ cZ cQ bs H.size w z9.2 w_seed w_entries z9.1 z10 hz10) (cwV 0 hts gX6_key_X6_keys rfl rfl rfl (by decide +kernel) ⟨Nat.le_of_ble_eq_true rfl, Nat.le_of_ble_eq_true rfl⟩) rfl hl.1 rfl (Nat.le_of_ble_eq_true rfl) dX6_key_55 ⟨Nat.le_of_ble_eq_true rfl, Nat.le_of_ble_eq_true rfl⟩) hS hP (fun H locs hP hS => ?_)
            refine lv_imul hx hb dX6_key_58 ?_
            refine lv_iadd hx hb dX6_key_59 ?_
            refine lv_topi (fun y11 ey11 => ?_)
            replace hf := onm ey11 hf
            refine lv_istore (lv' := [(4, .int y11), (0, .ref (w 0)), (1, .int x1), (2, .int x2), (3, .int x3)]) hx hb dX6_key_60 hl (by decide) rfl (fun ls hl => ?_)
            refine lv_aload_n hx hb dX6_key_62 rfl (lv_at hl 1 rfl) ?_
            refine va_get (D := D) (ci := 6) (v := .ref (w 1)) (C := RX6) (T := TX6) (N := 12) hx hb hts hI_X6 hown hK hP 0 rfl rfl 0 (by decide) gf7 (fun _ h9 => h9) rfl dX6_key_63 ?_
            refine lv_iload hx hb dX6_key_66 (lv_at hl 0 rfl) ?_
            refine lv_iload_n hx hb dX6_key_68 rfl (lv_at hl 2 rfl) ?_
            refine lv_i2l (v := (Int32.toInt64 x1)) hx hb dX6_key_69 rfl ?_
            obtain ⟨h12, hf⟩ := ogd hf
            refine va_last hx hb hK hP (hD.addr rfl) hS 1 1 rfl rfl (ib_in h12) dX6_key_70 (fun H locs hP _ hS => ?_)
            obtain ⟨h12a, eh12a⟩ : ∃ y : Nat → Int64, y = vp_updL z9.1 y11.toNatClampNeg (Int32.toInt64 x1) := ⟨_, rfl⟩
            replace hf := onm eh12a hf
            have hP : va_P D vwCl [oX6 w z9.2 w_seed w_entries, aJ cJ (w 1) 3420 h12a] H := by rw [eh12a]; exact hP
            refine lv_aload_n hx hb dX6_key_71 rfl (lv_at hl 1 rfl) ?_
            refine va_get (D := D) (ci := 6) (v := .ref (w 1)) (C := RX6) (T := TX6) (N := 12) hx hb hts hI_X6 hown hK hP 0 rfl rfl 0 (by decide) gf7 (fun _ h9 => h9) rfl dX6_key_72 ?_
            refine lv_iload hx hb dX6_key_75 (lv_at hl 0 rfl) ?_
            refine lv_iconst (v := 1) hx hb dX6_key_77 (by decide) ?_
            refine lv_iadd hx hb dX6_key_78 ?_
            refine lv_iload_n hx hb dX6_key_79 rfl (lv_at hl 3 rfl) ?_
            refine lv_i2l (v := (Int32.toInt64 x2)) hx hb dX6_key_80 rfl ?_
            obtain ⟨h13, hf⟩ := ogd hf
            refine va_last hx hb hK hP (hD.addr rfl) hS 1 1 rfl rfl (ib_in h13) dX6_key_81 (fun H locs hP _ hS => ?_)
            obtain ⟨h13a, eh13a⟩ : ∃ y : Nat → Int64, y = vp_updL h12a (y11 + (1 : Int32)).toNatClampNeg (Int32.toInt64 x2) := ⟨_, rfl⟩
            replace hf := onm eh13a hf
            have hP : va_P D vwCl [oX6 w z9.2 w_seed w_entries, aJ cJ (w 1) 3420 h13a] H := by rw [eh13a]; exact hP
            refine lv_aload_n hx hb dX6_key_82 rfl (lv_at hl 1 rfl) ?_
            refine va_get (D := D) (ci := 6) (v := .ref (w 1)) (C := RX6) (T := TX6) (N := 12) hx hb hts hI_X6 hown hK hP 0 rfl rfl 0 (by decide) gf7 (fun _ h9 => h9) rfl dX6_key_83 ?_
            refine lv_iload hx hb dX6_key_86 (lv_at hl 0 rfl) ?_
            refine lv_iconst (v := 2) hx hb dX6_key_88 (by decide) ?_
            refine lv_iadd hx hb dX6_key_89 ?_
            refine lv_iload_n hx hb dX6_key_90 rfl (lv_at hl 4 rfl) ?_
            refine lv_i2l (v := (Int32.toInt64 x3)) hx hb dX6_key_91 rfl ?_
            obtain ⟨h14, hf⟩ := ogd hf
            refine va_last hx hb hK hP (hD.addr rfl) hS 1 1 rfl rfl (ib_in h14) dX6_key_92 (fun H locs hP _ hS => ?_)
            obtain ⟨h14a, eh14a⟩ : ∃ y : Nat → Int64, y = vp_updL h13a (y11 + (2 : Int32)).toNatClampNeg (Int32.toInt64 x3) := ⟨_, rfl⟩
            replace hf := onm eh14a hf
            have hP : va_P D vwCl [oX6 w z9.2 w_seed w_entries, aJ cJ (w 1) 3420 h14a] H := by rw [eh14a]; exact hP
            refine lv_aload_n hx hb dX6_key_93 rfl (lv_at hl 1 rfl) ?_
            refine va_get (D := D) (ci := 6) (v := .ref (w 1)) (C := RX6) (T := TX6) (N := 12) hx hb hts hI_X6 hown hK hP 0 rfl rfl 0 (by decide) gf7 (fun _ h9 => h9) rfl dX6_key_94 ?_
            refine lv_sipush (v := 156) hx hb dX6_key_97 (by decide) ?_
            refine lv_dup2_11 hx hb dX6_key_100 rfl rfl ?_
            refine va_lald hx hb hK hP 1 1 rfl rfl (ib_in (by decide)) dX6_key_101 ?_
            refine lv_lconst (v := 1) hx hb dX6_key_102 (by decide) ?_
            refine lv_ladd hx hb dX6_key_103 ?_
            refine va_last hx hb hK hP (hD.addr rfl) hS 1 1 rfl rfl (ib_in (by decide)) dX6_key_104 (fun H locs hP _ hS => ?_)
            obtain ⟨h16a, eh16a⟩ : ∃ y : Nat → Int64, y = vp_updL h14a (Int32.toNatClampNeg 156) ((h14a (Int32.toNatClampNeg 156)) + (1 : Int64)) := ⟨_, rfl⟩
            replace hf := onm eh16a hf
            have hP : va_P D vwCl [oX6 w z9.2 w_seed w_entries, aJ cJ (w 1) 3420 h16a] H := by rw [eh16a]; exact hP
            refine lv_aload_n hx hb dX6_key_105 rfl (lv_at hl 1 rfl) ?_
            obtain ⟨z17, hz17, hf⟩ := obd hf
            refine kI (runV (As := []) (rest := []) C0 hE hAb hP ((hD.weaken (fun _ _ _ h9 => hAb _ h9)).addr rfl) hS [0, 1] (wc := [oX6 w z9.2 w_seed w_entries, aJ cJ (w 1) 3420 h16a]) (by decide) rfl 0 rfl rfl (c_X6_keys l D cI cJ cZ cQ bs H.size w z9.2 w_seed w_entries h16a z17 hz17) (cwV 0 hts gX6_key_X6_keys rfl rfl rfl (by decide +kernel) ⟨Nat.le_of_ble_eq_true rfl, Nat.le_of_ble_eq_true rfl⟩) rfl hl.1 rfl (Nat.le_of_ble_eq_true rfl) dX6_key_106 ⟨Nat.le_of_ble_eq_true rfl, Nat.le_of_ble_eq_true rfl⟩) hS hP (fun H locs hP hS => ?_)
            have er := Option.some.inj hf
            exact rwI (wm := (fun u => [oX6 w u.2 w_seed w_entries, aJ cJ (w 1) 3420 u.1])) hx hb hr hS dX6_key_109 hP er hlocks
          · replace hf := oif c8 hf
            refine lv_ldc hx hb hown gk251 dX6_key_43 ?_
            have er := Option.some.inj hf
            exact rwI (wm := (fun u => [oX6 w u.2 w_seed w_entries, aJ cJ (w 1) 3420 u.1])) hx hb hr hS dX6_key_45 hP er hlocks
        · replace hf := oif c6 hf
          refine lv_ldc hx hb hown gk192 dX6_key_32 ?_
          have er := Option.some.inj hf
          exact rwI (wm := (fun u => [oX6 w u.2 w_seed w_entries, aJ cJ (w 1) 3420 u.1])) hx hb hr hS dX6_key_34 hP er hlocks
    · replace hf := oif c2 hf
      refine lv_ldc hx hb hown gk198 dX6_key_7 ?_
      have er := Option.some.inj hf
      exact rwI (wm := (fun u => [oX6 w u.2 w_seed w_entries, aJ cJ (w 1) 3420 u.1])) hx hb hr hS dX6_key_9 hP er hlocks
  exact go s.heap [] hP hS
noncomputable def f_X6_unkey (w_w : Nat → Int64) (w_undos : Int32) : Option (Int32 × (Nat → Int64) × Int32) := (f_X6_keys w_w).bind (fun z1 => if z1 = 0 then (some (((-1000000003), w_w, w_undos))) else ((f_X6_minds w_w w_undos).bind (fun z3 => (some (vp_updL z3.1 (Int32.toNatClampNeg 156) ((z3.1 (Int32.toNatClampNeg 156)) - (1 : Int64)) : Nat → Int64)).bind (fun h5a => (f_X6_keys h5a).bind (fun z6 => some ((z6, h5a, z3.2)))))))
set_option maxHeartbeats 4000000 in
set_option maxRecDepth 100000 in
theorem c_X6_unkey (l : Launch) (D : va_G) (cI cJ cZ cQ : ClassId) (bs sz : Nat) (w : Nat → Nat) (w_undos : Int32) (w_seed : Int32) (w_entries : Int32) (w_w : Nat → Int64) (zr : Int32 × (Nat → Int64) × Int32) (hf : f_X6_unkey w_w w_undos = some zr) : Met l yX6_unkey wsX6_unkey { frames := 2, cells := 0, slots := 0, locals := 44 } (va_Pc [.ref (w 0)] (Pr D cI cJ cZ cQ bs sz [oX6 w w_undos w_seed w_entries, aJ cJ (w 1) 3420 w_w])) (QwI D zr (fun u => [oX6 w u.2 w_seed w_entries, aJ cJ (w 1) 3420 u.1]) (va_A [oX6 w w_undos w_seed w_entries, aJ cJ (w 1) 3420 w_w] sz)) 0 0 (va_A [oX6 w w_undos w_seed w_entries, aJ cJ (w 1) 3420 w_w] sz) := by
  refine stW (cc := cX6_unkey) (maxL := 1) (ret := (some .int)) (Qf := fun A => (QwI D zr (fun u => [oX6 w u.2 w_seed w_entries, aJ cJ (w 1) 3420 u.1]) A)) (by decide +kernel) rfl (Nat.le_of_ble_eq_true rfl) ?_
  intro p e s m args below meth c A C0 hr hlocks hname hsz hP hD hA hAb hE ls hl
  obtain ⟨hx, hb, hml, hown, hts⟩ := id C0
  have hown : s.vm.findClass RX6 = some m.cls := hown
  obtain ⟨hK, hNW, -, tw, hZ, hT⟩ := id hE
  have hl : lv_has ls 1 [(0, .ref (w 0))] := hl
  have hS : va_S A s.heap s.heap [] := va_S.rf
  have hI_X6 := (show ∀ w ∈ wsX60, w ∈ wsX6_unkey by decide +kernel)
  have gf7 := hts (.fieldLink RX6 7 "RowRanksModel" "w" "[J") (by decide +kernel)
  have gk246 := hts (.constant RX6 246 (-1000000003)) (by decide +kernel)
  unfold f_X6_unkey at hf
  have go : ∀ (H : Heap) (locs : List Loc), va_P D vwCl [oX6 w w_undos w_seed w_entries, aJ cJ (w 1) 3420 w_w] H → va_S A s.heap H locs → W p l e { frames := 2, cells := 0, slots := 0, locals := 44 } s m args below meth c H locs 0 0 (MQ below (QwI D zr (fun u => [oX6 w u.2 w_seed w_entries, aJ cJ (w 1) 3420 u.1]) A) args s 0 0 A) (F0 m 0 ls []) := by
    intro H locs hP hS
    refine lv_aload_n hx hb dX6_unkey_0 rfl (lv_at hl 0 rfl) ?_
    obtain ⟨z1, hz1, hf⟩ := obd hf
    refine kI (runV (As := []) (rest := []) C0 hE hAb hP ((hD.weaken (fun _ _ _ h9 => hAb _ h9)).addr rfl) hS [0, 1] (wc := [oX6 w w_undos w_seed w_entries, aJ cJ (w 1) 3420 w_w]) (by decide) rfl 0 rfl rfl (c_X6_keys l D cI cJ cZ cQ bs H.size w w_undos w_seed w_entries w_w z1 hz1) (cwV 0 hts gX6_unkey_X6_keys rfl rfl rfl (by decide +kernel) ⟨Nat.le_of_ble_eq_true rfl, Nat.le_of_ble_eq_true rfl⟩) rfl hl.1 rfl (Nat.le_of_ble_eq_true rfl) dX6_unkey_1 ⟨Nat.le_of_ble_eq_true rfl, Nat.le_of_ble_eq_true rfl⟩) hS hP (fun H locs hP hS => ?_)
    refine lv_if_ne (tgt := 10) hx hb dX6_unkey_4 (by decide) (fun c2 => ?_) (fun c2 => ?_)
    · replace hf := oel c2 hf
      refine lv_aload_n hx hb dX6_unkey_10 rfl (lv_at hl 0 rfl) ?_
      obtain ⟨z3, hz3, hf⟩ := obd hf
      refine kwV (runV (As := []) (rest := []) C0 hE hAb hP ((hD.weaken (fun _ _ _ h9 => hAb _ h9)).addr rfl) hS [0, 1] (wc := [oX6 w w_undos w_seed w_entries, aJ cJ (w 1) 3420 w_w]) (by decide) rfl 0 rfl rfl (c_X6_minds l D cI cJ cZ cQ bs H.size w w_undos w_seed w_entries w_w z3 hz3) (cwV 0 hts gX6_unkey_X6_minds rfl rfl rfl (by decide +kernel) ⟨Nat.le_of_ble_eq_true rfl, Nat.le_of_ble_eq_true rfl⟩) rfl hl.1 rfl (Nat.le_of_ble_eq_true rfl) dX6_unkey_11 ⟨Nat.le_of_ble_eq_true rfl, Nat.le_of_ble_eq_true rfl⟩) hS hP (hD.addr rfl) hA [0, 1] rfl rfl (ws' := [oX6 w z3.2 w_seed w_entries, aJ cJ (w 1) 3420 z3.1]) rfl rfl (fun H locs hP hS => ?_)
      refine lv_aload_n hx hb dX6_unkey_14 rfl (lv_at hl 0 rfl) ?_
      refine va_get (D := D) (ci := 6) (v := .ref (w 1)) (C := RX6) (T := TX6) (N := 12) hx hb hts hI_X6 hown hK hP 0 rfl rfl 0 (by decide) gf7 (fun _ h9 => h9) rfl dX6_unkey_15 ?_
      refine lv_sipush (v := 156) hx hb dX6_unkey_18 (by decide) ?_
      refine lv_dup2_11 hx hb dX6_unkey_21 rfl rfl ?_
      refine va_lald hx hb hK hP 1 1 rfl rfl (ib_in (by decide)) dX6_unkey_22 ?_
      refine lv_lconst (v := 1) hx hb dX6_unkey_23 (by decide) ?_
      refine lv_lsub hx hb dX6_unkey_24 ?_
      refine va_last hx hb hK hP (hD.addr rfl) hS 1 1 rfl rfl (ib_in (by decide)) dX6_unkey_25 (fun H locs hP _ hS => ?_)
      obtain ⟨h5a, eh5a⟩ : ∃ y : Nat → Int64, y = vp_updL z3.1 (Int32.toNatClampNeg 156) ((z3.1 (Int32.toNatClampNeg 156)) - (1 : Int64)) := ⟨_, rfl⟩
      replace hf := onm eh5a hf
      have hP : va_P D vwCl [oX6 w z3.2 w_seed w_entries, aJ cJ (w 1) 3420 h5a] H := by rw [eh5a]; exact hP
      refine lv_aload_n hx hb dX6_unkey_26 rfl (lv_at hl 0 rfl) ?_
      obtain ⟨z6, hz6, hf⟩ := obd hf
      refine kI (runV (As := []) (rest := []) C0 hE hAb hP ((hD.weaken (fun _ _ _ h9 => hAb _ h9)).addr rfl) hS [0, 1] (wc := [oX6 w z3.2 w_seed w_entries, aJ cJ (w 1) 3420 h5a]) (by decide) rfl 0 rfl rfl (c_X6_keys l D cI cJ cZ cQ bs H.size w z3.2 w_seed w_entries h5a z6 hz6) (cwV 0 hts gX6_unkey_X6_keys rfl rfl rfl (by decide +kernel) ⟨Nat.le_of_ble_eq_true rfl, Nat.le_of_ble_eq_true rfl⟩) rfl hl.1 rfl (Nat.le_of_ble_eq_true rfl) dX6_unkey_27 ⟨Nat.le_of_ble_eq_true rfl, Nat.le_of_ble_eq_true rfl⟩) hS hP (fun H locs hP hS => ?_)
      have er := Option.some.inj hf
      exact rwI (wm := (fun u => [oX6 w u.2 w_seed w_entries, aJ cJ (w 1) 3420 u.1])) hx hb hr hS dX6_unkey_30 hP er hlocks
    · replace hf := oif c2 hf
      refine lv_ldc hx hb hown gk246 dX6_unkey_7 ?_
      have er := Option.some.inj hf
      exact rwI (wm := (fun u => [oX6 w u.2 w_seed w_entries, aJ cJ (w 1) 3420 u.1])) hx hb hr hS dX6_unkey_9 hP er hlocks
  exact go s.heap [] hP hS
noncomputable def f_X6_sheet (w_w : Nat → Int64) (w_undos : Int32) (x1 : Int32) : Option (Int32 × (Nat → Int64) × Int32) := (f_X6_in (Int32.toInt64 x1) 0 63).bind (fun z1 => if z1 = 0 then (some (((-1000000002), w_w, w_undos))) else ((f_X6_minds w_w w_undos).bind (fun z3 => (f_X6_sheetNow z3.1).bind (fun z4 => (some (vp_updL z3.1 (Int32.toNatClampNeg 169) (Int32.toInt64 x1) : Nat → Int64)).bind (fun h5a => some ((z4, h5a, z3.2)))))))
set_option maxHeartbeats 4000000 in
set_option maxRecDepth 100000 in
theorem c_X6_sheet (l : Launch) (D : va_G) (cI cJ cZ cQ : ClassId) (bs sz : Nat) (w : Nat → Nat) (w_undos : Int32) (w_seed : Int32) (w_entries : Int32) (w_w : Nat → Int64) (x1 : Int32) (zr : Int32 × (Nat → Int64) × Int32) (hf : f_X6_sheet w_w w_undos x1 = some zr) : Met l yX6_sheet wsX6_sheet { frames := 2, cells := 0, slots := 0, locals := 44 } (va_Pc [.ref (w 0), .int x1] (Pr D cI cJ cZ cQ bs sz [oX6 w w_undos w_seed w_entries, aJ cJ (w 1) 3420 w_w])) (QwI D zr (fun u => [oX6 w u.2 w_seed w_entries, aJ cJ (w 1) 3420 u.1]) (va_A [oX6 w w_undos w_seed w_entries, aJ cJ (w 1) 3420 w_w] sz)) 0 0 (va_A [oX6 w w_undos w_seed w_entries, aJ cJ (w 1) 3420 w_w] sz) := by
  refine stW (cc := cX6_sheet) (maxL := 3) (ret := (some .int)) (Qf := fun A => (QwI D zr (fun u => [oX6 w u.2 w_seed w_entries, aJ cJ (w 1) 3420 u.1]) A)) (by decide +kernel) rfl (Nat.le_of_ble_eq_true rfl) ?_
  intro p e s m args below meth c A C0 hr hlocks hname hsz hP hD hA hAb hE ls hl
  obtain ⟨hx, hb, hml, hown, hts⟩ := id C0
  have hown : s.vm.findClass RX6 = some m.cls := hown
  obtain ⟨hK, hNW, -, tw, hZ, hT⟩ := id hE
  have hl : lv_has ls 3 [(0, .ref (w 0)), (1, .int x1)] := hl
  have hS : va_S A s.heap s.heap [] := va_S.rf
  have gk252 := hts (.constantLong RX6 252 (63)) (by decide +kernel)
  have hI_X6 := (show ∀ w ∈ wsX60, w ∈ wsX6_sheet by decide +kernel)
  have gf7 := hts (.fieldLink RX6 7 "RowRanksModel" "w" "[J") (by decide +kernel)
  have gk192 := hts (.constant RX6 192 (-1000000002)) (by decide +kernel)
  unfold f_X6_sheet at hf
  have go : ∀ (H : Heap) (locs : List Loc), va_P D vwCl [oX6 w w_undos w_seed w_entries, aJ cJ (w 1) 3420 w_w] H → va_S A s.heap H locs → W p l e { frames := 2, cells := 0, slots := 0, locals := 44 } s m args below meth c H locs 0 0 (MQ below (QwI D zr (fun u => [oX6 w u.2 w_seed w_entries, aJ cJ (w 1) 3420 u.1]) A) args s 0 0 A) (F0 m 0 ls []) := by
    intro H locs hP hS
    refine lv_iload_n hx hb dX6_sheet_0 rfl (lv_at hl 1 rfl) ?_
    refine lv_i2l (v := (Int32.toInt64 x1)) hx hb dX6_sheet_1 rfl ?_
    refine lv_lconst (v := 0) hx hb dX6_sheet_2 (by decide) ?_
    refine lv_ldc2 hx hb hown gk252 dX6_sheet_3 ?_
    obtain ⟨z1, hz1, hf⟩ := obd hf
    refine kZ (runS (As := [.long (Int32.toInt64 x1), .long 0, .long 63]) (rest := []) C0 hE hAb hP ((hD.weaken (fun _ _ _ h9 => hAb _ h9)).addr rfl) hS [] (wc := []) (by decide) rfl (c_X6_in l D cI cJ cZ cQ bs H.size (Int32.toInt64 x1) 0 63 z1 hz1) (va_cwS 3 hts gX6_sheet_X6_in rfl rfl rfl (by decide +kernel) ⟨Nat.le_of_ble_eq_true rfl, Nat.le_of_ble_eq_true rfl⟩) rfl hl.1 rfl (Nat.le_of_ble_eq_true rfl) dX6_sheet_6 ⟨Nat.le_of_ble_eq_true rfl, Nat.le_of_ble_eq_true rfl⟩) hS hP (fun bz1 H locs hP hS => ?_)
    refine lv_if_ne (tgt := 15) hx hb dX6_sheet_9 (by decide) (fun c2 => ?_) (fun c2 => ?_)
    · replace hf := oel c2 hf
      refine lv_aload_n hx hb dX6_sheet_15 rfl (lv_at hl 0 rfl) ?_
      obtain ⟨z3, hz3, hf⟩ := obd hf
      refine kwV (runV (As := []) (rest := []) C0 hE hAb hP ((hD.weaken (fun _ _ _ h9 => hAb _ h9)).addr rfl) hS [0, 1] (wc := [oX6 w w_undos w_seed w_entries, aJ cJ (w 1) 3420 w_w]) (by decide) rfl 0 rfl rfl (c_X6_minds l D cI cJ cZ cQ bs H.size w w_undos w_seed w_entries w_w z3 hz3) (cwV 0 hts gX6_sheet_X6_minds rfl rfl rfl (by decide +kernel) ⟨Nat.le_of_ble_eq_true rfl, Nat.le_of_ble_eq_true rfl⟩) rfl hl.1 rfl (Nat.le_of_ble_eq_true rfl) dX6_sheet_16 ⟨Nat.le_of_ble_eq_true rfl, Nat.le_of_ble_eq_true rfl⟩) hS hP (hD.addr rfl) hA [0, 1] rfl rfl (ws' := [oX6 w z3.2 w_seed w_entries, aJ cJ (w 1) 3420 z3.1]) rfl rfl (fun H locs hP hS => ?_)
      refine lv_aload_n hx hb dX6_sheet_19 rfl (lv_at hl 0 rfl) ?_
      obtain ⟨z4, hz4, hf⟩ := obd hf
      refine kI (runV (As := []) (rest := []) C0 hE hAb hP ((hD.weaken (fun _ _ _ h9 => hAb _ h9)).addr rfl) hS [0, 1] (wc := [oX6 w z3.2 w_seed w_entries, aJ cJ (w 1) 3420 z3.1]) (by decide) rfl 0 rfl rfl (c_X6_sheetNow l D cI cJ cZ cQ bs H.size w z3.2 w_seed w_entries z3.1 z4 hz4) (cwV 0 hts gX6_sheet_X6_sheetNow rfl rfl rfl (by decide +kernel) ⟨Nat.le_of_ble_eq_true rfl, Nat.le_of_ble_eq_true rfl⟩) rfl hl.1 rfl (Nat.le_of_ble_eq_true rfl) dX6_sheet_20 ⟨Nat.le_of_ble_eq_true rfl, Nat.le_of_ble_eq_true rfl⟩) hS hP (fun H locs hP hS => ?_)
      refine lv_istore_n (lv' := [(2, .int z4), (0, .ref (w 0)), (1, .int x1)]) hx hb dX6_sheet_23 rfl hl (by decide) rfl (fun ls hl => ?_)
      refine lv_aload_n hx hb dX6_sheet_24 rfl (lv_at hl 1 rfl) ?_
      refine va_get (D := D) (ci := 6) (v := .ref (w 1)) (C := RX6) (T := TX6) (N := 12) hx hb hts hI_X6 hown hK hP 0 rfl rfl 0 (by decide) gf7 (fun _ h9 => h9) rfl dX6_sheet_25 ?_
      refine lv_sipush (v := 169) hx hb dX6_sheet_28 (by decide) ?_
      refine lv_iload_n hx hb dX6_sheet_31 rfl (lv_at hl 2 rfl) ?_
      refine lv_i2l (v := (Int32.toInt64 x1)) hx hb dX6_sheet_32 rfl ?_
      refine va_last hx hb hK hP (hD.addr rfl) hS 1 1 rfl rfl (ib_in (by decide)) dX6_sheet_33 (fun H locs hP _ hS => ?_)
      obtain ⟨h5a, eh5a⟩ : ∃ y : Nat → Int64, y = vp_updL z3.1 (Int32.toNatClampNeg 169) (Int32.toInt64 x1) := ⟨_, rfl⟩
      replace hf := onm eh5a hf
      have hP : va_P D vwCl [oX6 w z3.2 w_seed w_entries, aJ cJ (w 1) 3420 h5a] H := by rw [eh5a]; exact hP
      refine lv_iload_n hx hb dX6_sheet_34 rfl (lv_at hl 0 rfl) ?_
      have er := Option.some.inj hf
      exact rwI (wm := (fun u => [oX6 w u.2 w_seed w_entries, aJ cJ (w 1) 3420 u.1])) hx hb hr hS dX6_sheet_35 hP er hlocks
    · replace hf := oif c2 hf
      refine lv_ldc hx hb hown gk192 dX6_sheet_12 ?_
      have er := Option.some.inj hf
      exact rwI (wm := (fun u => [oX6 w u.2 w_seed w_entries, aJ cJ (w 1) 3420 u.1])) hx hb hr hS dX6_sheet_14 hP er hlocks
  exact go s.heap [] hP hS
noncomputable def L_X6_moves_13 (w_w : Nat → Int64) (v1 : Int32) (v3 : Int32) : Nat → Int32 → (Nat → Int64) → (Nat → Int64) → Option ((Nat → Int64) × (Nat → Int64))
  | 0, _, _, _ => none
  | n + 1, v4, w_heldSort, w_heldNumber => if v1 ≤ v4 then (some ((w_heldSort, w_heldNumber))) else ((f_X6_at v3 v4).bind (fun z3 => if ib ((12 : Int32) + z3) 3420 = true then (if ib v4 12 = true then ((some (vp_updL w_heldSort v4.toNatClampNeg (w_w ((12 : Int32) + z3).toNatClampNeg) : Nat → Int64)).bind (fun h5a => (f_X6_at v3 v4).bind (fun z6 => if ib ((84 : Int32) + z6) 3420 = true then (if ib v4 12 = true then ((some (vp_updL w_heldNumber v4.toNatClampNeg (w_w ((84 : Int32) + z6).toNatClampNeg) : Nat → Int64)).bind (fun h8a => (some (v4 + 1 : Int32)).bind (fun y9 => L_X6_moves_13 w_w v1 v3 n y9 h5a h8a))) else none) else none))) else none) else none))
noncomputable def L_X6_moves_70 (w_from : Nat → Int32) (w_heldSort : Nat → Int64) (w_heldNumber : Nat → Int64) (v1 : Int32) (v3 : Int32) : Nat → Int32 → (Nat → Int64) → Option ((Nat → Int64))
  | 0, _, _ => none
  | n + 1, v4, w_w => if v1 ≤ v4 then (some (w_w)) else ((f_X6_sheetNow w_w).bind (fun z12 => (f_X6_has z12 v3).bind (fun z13 => if z13 = 0 then (some (w_w)) else ((f_X6_at v3 v4).bind (fun z15 => if ib v4 12 = true then (if ib (w_from v4.toNatClampNeg) 12 = true then (if ib ((12 : Int32) + z15) 3420 = true then ((some (vp_updL w_w ((12 : Int32) + z15).toNatClampNeg (w_heldSort (w_from v4.toNatClampNeg).toNatClampNeg) : Nat → Int64)).bind (fun h18a => (f_X6_at v3 v4).bind (fun z19 => if ib v4 12 = true then (if ib (w_from v4.toNatClampNeg) 12 = true then (if ib ((84 : Int32) + z19) 3420 = true then ((some (vp_updL h18a ((84 : Int32) + z19).toNatClampNeg (w_heldNumber (w_from v4.toNatClampNeg).toNatClampNeg) : Nat → Int64)).bind (fun h22a => (some (v4 + 1 : Int32)).bind (fun y23 => L_X6_moves_70 w_from w_heldSort w_heldNumber v1 v3 n y23 h22a))) else none) else none) else none))) else none) else none) else none)))))
noncomputable def L_X6_moves_4 (w_from : Nat → Int32) (v1 : Int32) : Nat → Int32 → (Nat → Int64) → (Nat → Int64) → (Nat → Int64) → Option ((Nat → Int64) × (Nat → Int64) × (Nat → Int64))
  | 0, _, _, _, _ => none
  | n + 1, v3, w_w, w_heldSort, w_heldNumber => if 6 ≤ v3 then (some ((w_w, w_heldSort, w_heldNumber))) else ((L_X6_moves_13 w_w v1 v3 4000 0 w_heldSort w_heldNumber).bind (fun z10 => (L_X6_moves_70 w_from z10.1 z10.2 v1 v3 4000 0 w_w).bind (fun z24 => (some (v3 + 1 : Int32)).bind (fun y25 => L_X6_moves_4 w_from v1 n y25 z24 z10.1 z10.2))))
noncomputable def L_X6_moves_153 (w_from : Nat → Int32) (v1 : Int32) : Nat → Int32 → Int32 → Option (Int32)
  | 0, _, _ => none
  | n + 1, v2, v3 => if v1 ≤ v3 then (some (v2)) else (if ib v3 12 = true then (if (w_from v3.toNatClampNeg) = v3 then ((some (v3 + 1 : Int32)).bind (fun y30 => L_X6_moves_153 w_from v1 n (v2 + (0 : Int32)) y30)) else ((some (v3 + 1 : Int32)).bind (fun y31 => L_X6_moves_153 w_from v1 n (v2 + (1 : Int32)) y31))) else none)
noncomputable def f_X6_moves (w_w : Nat → Int64) (w_from : Nat → Int32) (w_heldSort : Nat → Int64) (w_heldNumber : Nat → Int64) (x1 : Int32) : Option (Int32 × (Nat → Int64) × (Nat → Int64) × (Nat → Int64)) := (L_X6_moves_4 w_from x1 4000 0 w_w w_heldSort w_heldNumber).bind (fun z26 => (L_X6_moves_153 w_from x1 4000 0 0).bind (fun z32 => some ((z32, z26.1, z26.2.1, z26.2.2))))
set_option maxHeartbeats 4000000 in
set_option maxRecDepth 100000 in
theorem c_X6_moves (l : Launch) (D : va_G) (cI cJ cZ cQ : ClassId) (bs sz : Nat) (w : Nat → Nat) (w_undos : Int32) (w_seed : Int32) (w_entries : Int32) (w_w : Nat → Int64) (w_from : Nat → Int32) (w_heldSort : Nat → Int64) (w_heldNumber : Nat → Int64) (x1 : Int32) (zr : Int32 × (Nat → Int64) × (Nat → Int64) × (Nat → Int64)) (hf : f_X6_moves w_w w_from w_heldSort w_heldNumber x1 = some zr) : Met l yX6_moves wsX6_moves { frames := 1, cells := 0, slots := 0, locals := 21 } (va_Pc [.ref (w 0), .int x1] (Pr D cI cJ cZ cQ bs sz [oX6 w w_undos w_seed w_entries, aJ cJ (w 1) 3420 w_w, aI cI (w 7) 12 w_from, aJ cJ (w 8) 12 w_heldSort, aJ cJ (w 9) 12 w_heldNumber])) (QwI D zr (fun u => [oX6 w w_undos w_seed w_entries, aJ cJ (w 1) 3420 u.1, aI cI (w 7) 12 w_from, aJ cJ (w 8) 12 u.2.1, aJ cJ (w 9) 12 u.2.2]) (va_A [oX6 w w_undos w_seed w_entries, aJ cJ (w 1) 3420 w_w, aI cI (w 7) 12 w_from, aJ cJ (w 8) 12 w_heldSort, aJ cJ (w 9) 12 w_heldNumber] sz)) 0 0 (va_A [oX6 w w_undos w_seed w_entries, aJ cJ (w 1) 3420 w_w, aI cI (w 7) 12 w_from, aJ cJ (w 8) 12 w_heldSort, aJ cJ (w 9) 12 w_heldNumber] sz) := by
  refine stW (cc := cX6_moves) (maxL := 5) (ret := (some .int)) (Qf := fun A => (QwI D zr (fun u => [oX6 w w_undos w_seed w_entries, aJ cJ (w 1) 3420 u.1, aI cI (w 7) 12 w_from, aJ cJ (w 8) 12 u.2.1, aJ cJ (w 9) 12 u.2.2]) A)) (by decide +kernel) rfl (Nat.le_of_ble_eq_true rfl) ?_
  intro p e s m args below meth c A C0 hr hlocks hname hsz hP hD hA hAb hE ls hl
  obtain ⟨hx, hb, hml, hown, hts⟩ := id C0
  have hown : s.vm.findClass RX6 = some m.cls := hown
  obtain ⟨hK, hNW, -, tw, hZ, hT⟩ := id hE
  have hl : lv_has ls 5 [(0, .ref (w 0)), (1, .int x1)] := hl
  have hS : va_S A s.heap s.heap [] := va_S.rf
  have hI_X6 := (show ∀ w ∈ wsX60, w ∈ wsX6_moves by decide +kernel)
  have gf33 := hts (.fieldLink RX6 33 "RowRanksModel" "heldSort" "[J") (by decide +kernel)
  have gf7 := hts (.fieldLink RX6 7 "RowRanksModel" "w" "[J") (by decide +kernel)
  have gf36 := hts (.fieldLink RX6 36 "RowRanksModel" "heldNumber" "[J") (by decide +kernel)
  have gf30 := hts (.fieldLink RX6 30 "RowRanksModel" "from" "[I") (by decide +kernel)
  have W13 : ∀ (n : Nat) (v1 : Int32) (v2 : Int32) (v3 : Int32) (v4 : Int32) (w_w : Nat → Int64) (w_heldSort : Nat → Int64) (w_heldNumber : Nat → Int64) (H : Heap) (locs : List Loc) (ls : Array Slot) (z : (Nat → Int64) × (Nat → Int64)), va_P D vwCl [oX6 w w_undos w_seed w_entries, aJ cJ (w 1) 3420 w_w, aI cI (w 7) 12 w_from, aJ cJ (w 8) 12 w_heldSort, aJ cJ (w 9) 12 w_heldNumber] H → va_S A s.heap H locs → lv_has ls 5 [(0, .ref (w 0)), (1, .int v1), (2, .int v2), (3, .int v3), (4, .int v4)] → L_X6_moves_13 w_w v1 v3 n v4 w_heldSort w_heldNumber = some z → (∀ (H : Heap) (locs : List Loc) (ls : Array Slot), va_P D vwCl [oX6 w w_undos w_seed w_entries, aJ cJ (w 1) 3420 w_w, aI cI (w 7) 12 w_from, aJ cJ (w 8) 12 z.1, aJ cJ (w 9) 12 z.2] H → va_S A s.heap H locs → lv_has ls 5 [(0, .ref (w 0)), (1, .int v1), (2, .int v2), (3, .int v3)] → W p l e { frames := 1, cells := 0, slots := 0, locals := 21 } s m args below meth c H locs 0 0 (MQ below (QwI D zr (fun u => [oX6 w w_undos w_seed w_entries, aJ cJ (w 1) 3420 u.1, aI cI (w 7) 12 w_from, aJ cJ (w 8) 12 u.2.1, aJ cJ (w 9) 12 u.2.2]) A) args s 0 0 A) (F0 m 67 ls [])) → W p l e { frames := 1, cells := 0, slots := 0, locals := 21 } s m args below meth c H locs 0 0 (MQ below (QwI D zr (fun u => [oX6 w w_undos w_seed w_entries, aJ cJ (w 1) 3420 u.1, aI cI (w 7) 12 w_from, aJ cJ (w 8) 12 u.2.1, aJ cJ (w 9) 12 u.2.2]) A) args s 0 0 A) (F0 m 13 ls []) := by
    intro n
    induction n with
    | zero =>
      intro v1 v2 v3 v4 w_w w_heldSort w_heldNumber H locs ls z hP hS hl hf
      exact absurd (show (none : Option ((Nat → Int64) × (Nat → Int64))) = some z from hf) (fun h => by cases h)
    | succ n ih =>
      intro v1 v2 v3 v4 w_w w_heldSort w_heldNumber H locs ls z hP hS hl hf K
      rw [L_X6_moves_13] at hf
      refine lv_iload hx hb dX6_moves_13 (lv_at hl 4 rfl) ?_
      refine lv_iload_n hx hb dX6_moves_15 rfl (lv_at hl 1 rfl) ?_
      refine lv_icmp_ge (tgt := 67) hx hb dX6_moves_16 (by decide) (fun c2 => ?_) (fun c2 => ?_)
      · replace hf := oif c2 hf
        have hf := Option.some.inj hf
        subst hf
        exact K H locs ls hP hS (lv_sub hl [0, 1, 2, 3] rfl)
      · replace hf := oel c2 hf
        refine lv_aload_n hx hb dX6_moves_19 rfl (lv_at hl 0 rfl) ?_
        refine va_get (D := D) (ci := 6) (v := .ref (w 8)) (C := RX6) (T := TX6) (N := 12) hx hb hts hI_X6 hown hK hP 0 rfl rfl 10 (by decide) gf33 (fun _ h9 => h9) rfl dX6_moves_20 ?_
        refine lv_iload hx hb dX6_moves_23 (lv_at hl 4 rfl) ?_
        refine lv_aload_n hx hb dX6_moves_25 rfl (lv_at hl 0 rfl) ?_
        refine va_get (D := D) (ci := 6) (v := .ref (w 1)) (C := RX6) (T := TX6) (N := 12) hx hb hts hI_X6 hown hK hP 0 rfl rfl 0 (by decide) gf7 (fun _ h9 => h9) rfl dX6_moves_26 ?_
        refine lv_bipush (v := 12) hx hb dX6_moves_29 (by decide) ?_
        refine lv_iload_n hx hb dX6_moves_31 rfl (lv_at hl 3 rfl) ?_
        refine lv_iload hx hb dX6_moves_32 (lv_at hl 4 rfl) ?_
        obtain ⟨z3, hz3, hf⟩ := obd hf
        refine kI (runS (As := [.int v3, .int v4]) (rest := [.int 12, .ref (w 1), .int v4, .ref (w 8)]) C0 hE hAb hP ((hD.weaken (fun _ _ _ h9 => hAb _ h9)).addr rfl) hS [] (wc := []) (by decide) rfl (c_X6_at l D cI cJ cZ cQ bs H.size v3 v4 z3 hz3) (va_cwS 2 hts gX6_moves_X6_at rfl rfl rfl (by decide +kernel) ⟨Nat.le_of_ble_eq_true rfl, Nat.le_of_ble_eq_true rfl⟩) rfl hl.1 rfl (Nat.le_of_ble_eq_true rfl) dX6_moves_34 ⟨Nat.le_of_ble_eq_true rfl, Nat.le_of_ble_eq_true rfl⟩) hS hP (fun H locs hP hS => ?_)
        refine lv_iadd hx hb dX6_moves_37 ?_
        obtain ⟨h4, hf⟩ := ogd hf
        refine va_lald hx hb hK hP 1 1 rfl rfl (ib_in h4) dX6_moves_38 ?_
        obtain ⟨h5, hf⟩ := ogd hf
        refine va_last hx hb hK hP (hD.addr rfl) hS 3 1 rfl rfl (ib_in h5) dX6_moves_39 (fun H locs hP _ hS => ?_)
        obtain ⟨h5a, eh5a⟩ : ∃ y : Nat → Int64, y = vp_updL w_heldSort v4.toNatClampNeg (w_w ((12 : Int32) + z3).toNatClampNeg) := ⟨_, rfl⟩
        replace hf := onm eh5a hf
        have hP : va_P D vwCl [oX6 w w_undos w_seed w_entries, aJ cJ (w 1) 3420 w_w, aI cI (w 7) 12 w_from, aJ cJ (w 8) 12 h5a, aJ cJ (w 9) 12 w_heldNumber] H := by rw [eh5a]; exact hP
        refine lv_aload_n hx hb dX6_moves_40 rfl (lv_at hl 0 rfl) ?_
        refine va_get (D := D) (ci := 6) (v := .ref (w 9)) (C := RX6) (T := TX6) (N := 12) hx hb hts hI_X6 hown hK hP 0 rfl rfl 11 (by decide) gf36 (fun _ h9 => h9) rfl dX6_moves_41 ?_
        refine lv_iload hx hb dX6_moves_44 (lv_at hl 4 rfl) ?_
        refine lv_aload_n hx hb dX6_moves_46 rfl (lv_at hl 0 rfl) ?_
        refine va_get (D := D) (ci := 6) (v := .ref (w 1)) (C := RX6) (T := TX6) (N := 12) hx hb hts hI_X6 hown hK hP 0 rfl rfl 0 (by decide) gf7 (fun _ h9 => h9) rfl dX6_moves_47 ?_
        refine lv_bipush (v := 84) hx hb dX6_moves_50 (by decide) ?_
        refine lv_iload_n hx hb dX6_moves_52 rfl (lv_at hl 3 rfl) ?_
        refine lv_iload hx hb dX6_moves_53 (lv_at hl 4 rfl) ?_
        obtain ⟨z6, hz6, hf⟩ := obd hf
        refine kI (runS (As := [.int v3, .int v4]) (rest := [.int 84, .ref (w 1), .int v4, .ref (w 9)]) C0 hE hAb hP ((hD.weaken (fun _ _ _ h9 => hAb _ h9)).addr rfl) hS [] (wc := []) (by decide) rfl (c_X6_at l D cI cJ cZ cQ bs H.size v3 v4 z6 hz6) (va_cwS 2 hts gX6_moves_X6_at rfl rfl rfl (by decide +kernel) ⟨Nat.le_of_ble_eq_true rfl, Nat.le_of_ble_eq_true rfl⟩) rfl hl.1 rfl (Nat.le_of_ble_eq_true rfl) dX6_moves_55 ⟨Nat.le_of_ble_eq_true rfl, Nat.le_of_ble_eq_true rfl⟩) hS hP (fun H locs hP hS => ?_)
        refine lv_iadd hx hb dX6_moves_58 ?_
        obtain ⟨h7, hf⟩ := ogd hf
        refine va_lald hx hb hK hP 1 1 rfl rfl (ib_in h7) dX6_moves_59 ?_
        obtain ⟨h8, hf⟩ := ogd hf
        refine va_last hx hb hK hP (hD.addr rfl) hS 4 1 rfl rfl (ib_in h8) dX6_moves_60 (fun H locs hP _ hS => ?_)
        obtain ⟨h8a, eh8a⟩ : ∃ y : Nat → Int64, y = vp_updL w_heldNumber v4.toNatClampNeg (w_w ((84 : Int32) + z6).toNatClampNeg) := ⟨_, rfl⟩
        replace hf := onm eh8a hf
        have hP : va_P D vwCl [oX6 w w_undos w_seed w_entries, aJ cJ (w 1) 3420 w_w, aI cI (w 7) 12 w_from, aJ cJ (w 8) 12 h5a, aJ cJ (w 9) 12 h8a] H := by rw [eh8a]; exact hP
        obtain ⟨y9, ey9⟩ : ∃ y : Int32, y = v4 + 1 := ⟨_, rfl⟩
        replace hf := onm ey9 hf
        refine lv_iinc (v := y9) (lv' := [(4, .int y9), (0, .ref (w 0)), (1, .int v1), (2, .int v2), (3, .int v3)]) hx hb dX6_moves_61 hl (k := 4) rfl (by rw [ey9]; rfl) (by decide) rfl (fun ls hl => ?_)
        refine lv_goto (tgt := 13) hx hb dX6_moves_64 (by decide) ?_
        exact ih v1 v2 v3 y9 w_w h5a h8a H locs ls z hP hS (lv_sub hl [1, 2, 3, 4, 0] rfl) hf K
  have W70 : ∀ (n : Nat) (v1 : Int32) (v2 : Int32) (v3 : Int32) (v4 : Int32) (w_w : Nat → Int64) (w_heldSort : Nat → Int64) (w_heldNumber : Nat → Int64) (H : Heap) (locs : List Loc) (ls : Array Slot) (z : (Nat → Int64)), va_P D vwCl [oX6 w w_undos w_seed w_entries, aJ cJ (w 1) 3420 w_w, aI cI (w 7) 12 w_from, aJ cJ (w 8) 12 w_heldSort, aJ cJ (w 9) 12 w_heldNumber] H → va_S A s.heap H locs → lv_has ls 5 [(0, .ref (w 0)), (1, .int v1), (2, .int v2), (3, .int v3), (4, .int v4)] → L_X6_moves_70 w_from w_heldSort w_heldNumber v1 v3 n v4 w_w = some z → (∀ (H : Heap) (locs : List Loc) (ls : Array Slot), va_P D vwCl [oX6 w w_undos w_seed w_entries, aJ cJ (w 1) 3420 z, aI cI (w 7) 12 w_from, aJ cJ (w 8) 12 w_heldSort, aJ cJ (w 9) 12 w_heldNumber] H → va_S A s.heap H locs → lv_has ls 5 [(0, .ref (w 0)), (1, .int v1), (2, .int v2), (3, .int v3)] → W p l e { frames := 1, cells := 0, slots := 0, locals := 21 } s m args below meth c H locs 0 0 (MQ below (QwI D zr (fun u => [oX6 w w_undos w_seed w_entries, aJ cJ (w 1) 3420 u.1, aI cI (w 7) 12 w_from, aJ cJ (w 8) 12 u.2.1, aJ cJ (w 9) 12 u.2.2]) A) args s 0 0 A) (F0 m 145 ls [])) → W p l e { frames := 1, cells := 0, slots := 0, locals := 21 } s m args below meth c H locs 0 0 (MQ below (QwI D zr (fun u => [oX6 w w_undos w_seed w_entries, aJ cJ (w 1) 3420 u.1, aI cI (w 7) 12 w_from, aJ cJ (w 8) 12 u.2.1, aJ cJ (w 9) 12 u.2.2]) A) args s 0 0 A) (F0 m 70 ls []) := by
    intro n
    induction n with
    | zero =>
      intro v1 v2 v3 v4 w_w w_heldSort w_heldNumber H locs ls z hP hS hl hf
      exact absurd (show (none : Option ((Nat → Int64))) = some z from hf) (fun h => by cases h)
    | succ n ih =>
      intro v1 v2 v3 v4 w_w w_heldSort w_heldNumber H locs ls z hP hS hl hf K
      rw [L_X6_moves_70] at hf
      refine lv_iload hx hb dX6_moves_70 (lv_at hl 4 rfl) ?_
      refine lv_iload_n hx hb dX6_moves_72 rfl (lv_at hl 1 rfl) ?_
      refine lv_icmp_ge (tgt := 145) hx hb dX6_moves_73 (by decide) (fun c11 => ?_) (fun c11 => ?_)
      · replace hf := oif c11 hf
        have hf := Option.some.inj hf
        subst hf
        exact K H locs ls hP hS (lv_sub hl [0, 1, 2, 3] rfl)
      · replace hf := oel c11 hf
        refine lv_aload_n hx hb dX6_moves_76 rfl (lv_at hl 0 rfl) ?_
        obtain ⟨z12, hz12, hf⟩ := obd hf
        refine kI (runV (As := []) (rest := []) C0 hE hAb hP ((hD.weaken (fun _ _ _ h9 => hAb _ h9)).addr rfl) hS [0, 1] (wc := [oX6 w w_undos w_seed w_entries, aJ cJ (w 1) 3420 w_w]) (by decide) rfl 0 rfl rfl (c_X6_sheetNow l D cI cJ cZ cQ bs H.size w w_undos w_seed w_entries w_w z12 hz12) (cwV 0 hts gX6_moves_X6_sheetNow rfl rfl rfl (by decide +kernel) ⟨Nat.le_of_ble_eq_true rfl, Nat.le_of_ble_eq_true rfl⟩) rfl hl.1 rfl (Nat.le_of_ble_eq_true rfl) dX6_moves_77 ⟨Nat.le_of_ble_eq_true rfl, Nat.le_of_ble_eq_true rfl⟩) hS hP (fun H locs hP hS => ?_)
        refine lv_iload_n hx hb dX6_moves_80 rfl (lv_at hl 3 rfl) ?_
        obtain ⟨z13, hz13, hf⟩ := obd hf
        refine kZ (runS (As := [.int z12, .int v3]) (rest := []) C0 hE hAb hP ((hD.weaken (fun _ _ _ h9 => hAb _ h9)).addr rfl) hS [] (wc := []) (by decide) rfl (c_X6_has l D cI cJ cZ cQ bs H.size z12 v3 z13 hz13) (va_cwS 2 hts gX6_moves_X6_has rfl rfl rfl (by decide +kernel) ⟨Nat.le_of_ble_eq_true rfl, Nat.le_of_ble_eq_true rfl⟩) rfl hl.1 rfl (Nat.le_of_ble_eq_true rfl) dX6_moves_81 ⟨Nat.le_of_ble_eq_true rfl, Nat.le_of_ble_eq_true rfl⟩) hS hP (fun bz13 H locs hP hS => ?_)
        refine lv_if_eq (tgt := 145) hx hb dX6_moves_84 (by decide) (fun c14 => ?_) (fun c14 => ?_)
        · replace hf := oif c14 hf
          have hf := Option.some.inj hf
          subst hf
          exact K H locs ls hP hS (lv_sub hl [0, 1, 2, 3] rfl)
        · replace hf := oel c14 hf
          refine lv_aload_n hx hb dX6_moves_87 rfl (lv_at hl 0 rfl) ?_
          refine va_get (D := D) (ci := 6) (v := .ref (w 1)) (C := RX6) (T := TX6) (N := 12) hx hb hts hI_X6 hown hK hP 0 rfl rfl 0 (by decide) gf7 (fun _ h9 => h9) rfl dX6_moves_88 ?_
          refine lv_bipush (v := 12) hx hb dX6_moves_91 (by decide) ?_
          refine lv_iload_n hx hb dX6_moves_93 rfl (lv_at hl 3 rfl) ?_
          refine lv_iload hx hb dX6_moves_94 (lv_at hl 4 rfl) ?_
          obtain ⟨z15, hz15, hf⟩ := obd hf
          refine kI (runS (As := [.int v3, .int v4]) (rest := [.int 12, .ref (w 1)]) C0 hE hAb hP ((hD.weaken (fun _ _ _ h9 => hAb _ h9)).addr rfl) hS [] (wc := []) (by decide) rfl (c_X6_at l D cI cJ cZ cQ bs H.size v3 v4 z15 hz15) (va_cwS 2 hts gX6_moves_X6_at rfl rfl rfl (by decide +kernel) ⟨Nat.le_of_ble_eq_true rfl, Nat.le_of_ble_eq_true rfl⟩) rfl hl.1 rfl (Nat.le_of_ble_eq_true rfl) dX6_moves_96 ⟨Nat.le_of_ble_eq_true rfl, Nat.le_of_ble_eq_true rfl⟩) hS hP (fun H locs hP hS => ?_)
          refine lv_iadd hx hb dX6_moves_99 ?_
          refine lv_aload_n hx hb dX6_moves_100 rfl (lv_at hl 0 rfl) ?_
          refine va_get (D := D) (ci := 6) (v := .ref (w 8)) (C := RX6) (T := TX6) (N := 12) hx hb hts hI_X6 hown hK hP 0 rfl rfl 10 (by decide) gf33 (fun _ h9 => h9) rfl dX6_moves_101 ?_
          refine lv_aload_n hx hb dX6_moves_104 rfl (lv_at hl 0 rfl) ?_
          refine va_get (D := D) (ci := 6) (v := .ref (w 7)) (C := RX6) (T := TX6) (N := 12) hx hb hts hI_X6 hown hK hP 0 rfl rfl 9 (by decide) gf30 (fun _ h9 => h9) rfl dX6_moves_105 ?_
          refine lv_iload hx hb dX6_moves_108 (lv_at hl 4 rfl) ?_
          obtain ⟨h16, hf⟩ := ogd hf
          refine va_iald hx hb hK hP 2 0 rfl rfl (ib_in h16) dX6_moves_110 ?_
          obtain ⟨h17, hf⟩ := ogd hf
          refine va_lald hx hb hK hP 3 1 rfl rfl (ib_in h17) dX6_moves_111 ?_
          obtain ⟨h18, hf⟩ := ogd hf
          refine va_last hx hb hK hP (hD.addr rfl) hS 1 1 rfl rfl (ib_in h18) dX6_moves_112 (fun H locs hP _ hS => ?_)
          obtain ⟨h18a, eh18a⟩ : ∃ y : Nat → Int64, y = vp_updL w_w ((12 : Int32) + z15).toNatClampNeg (w_heldSort (w_from v4.toNatClampNeg).toNatClampNeg) := ⟨_, rfl⟩
          replace hf := onm eh18a hf
          have hP : va_P D vwCl [oX6 w w_undos w_seed w_entries, aJ cJ (w 1) 3420 h18a, aI cI (w 7) 12 w_from, aJ cJ (w 8) 12 w_heldSort, aJ cJ (w 9) 12 w_heldNumber] H := by rw [eh18a]; exact hP
          refine lv_aload_n hx hb dX6_moves_113 rfl (lv_at hl 0 rfl) ?_
          refine va_get (D := D) (ci := 6) (v := .ref (w 1)) (C := RX6) (T := TX6) (N := 12) hx hb hts hI_X6 hown hK hP 0 rfl rfl 0 (by decide) gf7 (fun _ h9 => h9) rfl dX6_moves_114 ?_
          refine lv_bipush (v := 84) hx hb dX6_moves_117 (by decide) ?_
          refine lv_iload_n hx hb dX6_moves_119 rfl (lv_at hl 3 rfl) ?_
          refine lv_iload hx hb dX6_moves_120 (lv_at hl 4 rfl) ?_
          obtain ⟨z19, hz19, hf⟩ := obd hf
          refine kI (runS (As := [.int v3, .int v4]) (rest := [.int 84, .ref (w 1)]) C0 hE hAb hP ((hD.weaken (fun _ _ _ h9 => hAb _ h9)).addr rfl) hS [] (wc := []) (by decide) rfl (c_X6_at l D cI cJ cZ cQ bs H.size v3 v4 z19 hz19) (va_cwS 2 hts gX6_moves_X6_at rfl rfl rfl (by decide +kernel) ⟨Nat.le_of_ble_eq_true rfl, Nat.le_of_ble_eq_true rfl⟩) rfl hl.1 rfl (Nat.le_of_ble_eq_true rfl) dX6_moves_122 ⟨Nat.le_of_ble_eq_true rfl, Nat.le_of_ble_eq_true rfl⟩) hS hP (fun H locs hP hS => ?_)
          refine lv_iadd hx hb dX6_moves_125 ?_
          refine lv_aload_n hx hb dX6_moves_126 rfl (lv_at hl 0 rfl) ?_
          refine va_get (D := D) (ci := 6) (v := .ref (w 9)) (C := RX6) (T := TX6) (N := 12) hx hb hts hI_X6 hown hK hP 0 rfl rfl 11 (by decide) gf36 (fun _ h9 => h9) rfl dX6_moves_127 ?_
          refine lv_aload_n hx hb dX6_moves_130 rfl (lv_at hl 0 rfl) ?_
          refine va_get (D := D) (ci := 6) (v := .ref (w 7)) (C := RX6) (T := TX6) (N := 12) hx hb hts hI_X6 hown hK hP 0 rfl rfl 9 (by decide) gf30 (fun _ h9 => h9) rfl dX6_moves_131 ?_
          refine lv_iload hx hb dX6_moves_134 (lv_at hl 4 rfl) ?_
          obtain ⟨h20, hf⟩ := ogd hf
          refine va_iald hx hb hK hP 2 0 rfl rfl (ib_in h20) dX6_moves_136 ?_
          obtain ⟨h21, hf⟩ := ogd hf
          refine va_lald hx hb hK hP 4 1 rfl rfl (ib_in h21) dX6_moves_137 ?_
          obtain ⟨h22, hf⟩ := ogd hf
          refine va_last hx hb hK hP (hD.addr rfl) hS 1 1 rfl rfl (ib_in h22) dX6_moves_138 (fun H locs hP _ hS => ?_)
          obtain ⟨h22a, eh22a⟩ : ∃ y : Nat → Int64, y = vp_updL h18a ((84 : Int32) + z19).toNatClampNeg (w_heldNumber (w_from v4.toNatClampNeg).toNatClampNeg) := ⟨_, rfl⟩
          replace hf := onm eh22a hf
          have hP : va_P D vwCl [oX6 w w_undos w_seed w_entries, aJ cJ (w 1) 3420 h22a, aI cI (w 7) 12 w_from, aJ cJ (w 8) 12 w_heldSort, aJ cJ (w 9) 12 w_heldNumber] H := by rw [eh22a]; exact hP
          obtain ⟨y23, ey23⟩ : ∃ y : Int32, y = v4 + 1 := ⟨_, rfl⟩
          replace hf := onm ey23 hf
          refine lv_iinc (v := y23) (lv' := [(4, .int y23), (0, .ref (w 0)), (1, .int v1), (2, .int v2), (3, .int v3)]) hx hb dX6_moves_139 hl (k := 4) rfl (by rw [ey23]; rfl) (by decide) rfl (fun ls hl => ?_)
          refine lv_goto (tgt := 70) hx hb dX6_moves_142 (by decide) ?_
          exact ih v1 v2 v3 y23 h22a w_heldSort w_heldNumber H locs ls z hP hS (lv_sub hl [1, 2, 3, 4, 0] rfl) hf K
  have W4 : ∀ (n : Nat) (v1 : Int32) (v2 : Int32) (v3 : Int32) (w_w : Nat → Int64) (w_heldSort : Nat → Int64) (w_heldNumber : Nat → Int64) (H : Heap) (locs : List Loc) (ls : Array Slot) (z : (Nat → Int64) × (Nat → Int64) × (Nat → Int64)), va_P D vwCl [oX6 w w_undos w_seed w_entries, aJ cJ (w 1) 3420 w_w, aI cI (w 7) 12 w_from, aJ cJ (w 8) 12 w_heldSort, aJ cJ (w 9) 12 w_heldNumber] H → va_S A s.heap H locs → lv_has ls 5 [(0, .ref (w 0)), (1, .int v1), (2, .int v2), (3, .int v3)] → L_X6_moves_4 w_from v1 n v3 w_w w_heldSort w_heldNumber = some z → (∀ (H : Heap) (locs : List Loc) (ls : Array Slot), va_P D vwCl [oX6 w w_undos w_seed w_entries, aJ cJ (w 1) 3420 z.1, aI cI (w 7) 12 w_from, aJ cJ (w 8) 12 z.2.1, aJ cJ (w 9) 12 z.2.2] H → va_S A s.heap H locs → lv_has ls 5 [(0, .ref (w 0)), (1, .int v1), (2, .int v2)] → W p l e { frames := 1, cells := 0, slots := 0, locals := 21 } s m args below meth c H locs 0 0 (MQ below (QwI D zr (fun u => [oX6 w w_undos w_seed w_entries, aJ cJ (w 1) 3420 u.1, aI cI (w 7) 12 w_from, aJ cJ (w 8) 12 u.2.1, aJ cJ (w 9) 12 u.2.2]) A) args s 0 0 A) (F0 m 151 ls [])) → W p l e { frames := 1, cells := 0, slots := 0, locals := 21 } s m args below meth c H locs 0 0 (MQ below (QwI D zr (fun u => [oX6 w w_undos w_seed w_entries, aJ cJ (w 1) 3420 u.1, aI cI (w 7) 12 w_from, aJ cJ (w 8) 12 u.2.1, aJ cJ (w 9) 12 u.2.2]) A) args s 0 0 A) (F0 m 4 ls []) := by
    intro n
    induction n with
    | zero =>
      intro v1 v2 v3 w_w w_heldSort w_heldNumber H locs ls z hP hS hl hf
      exact absurd (show (none : Option ((Nat → Int64) × (Nat → Int64) × (Nat → Int64))) = some z from hf) (fun h => by cases h)
    | succ n ih =>
      intro v1 v2 v3 w_w w_heldSort w_heldNumber H locs ls z hP hS hl hf K
      rw [L_X6_moves_4] at hf
      refine lv_iload_n hx hb dX6_moves_4 rfl (lv_at hl 3 rfl) ?_
      refine lv_bipush (v := 6) hx hb dX6_moves_5 (by decide) ?_
      refine lv_icmp_ge (tgt := 151) hx hb dX6_moves_7 (by decide) (fun c1 => ?_) (fun c1 => ?_)
      · replace hf := oif c1 hf
        have hf := Option.some.inj hf
        subst hf
        exact K H locs ls hP hS (lv_sub hl [0, 1, 2] rfl)
      · replace hf := oel c1 hf
        refine lv_iconst (v := 0) hx hb dX6_moves_10 (by decide) ?_
        refine lv_istore (lv' := [(4, .int 0), (0, .ref (w 0)), (1, .int v1), (2, .int v2), (3, .int v3)]) hx hb dX6_moves_11 hl (by decide) rfl (fun ls hl => ?_)
        obtain ⟨z10, hz10, hf⟩ := obd hf
        refine W13 4000 v1 v2 v3 0 w_w w_heldSort w_heldNumber H locs ls z10 hP hS (lv_sub hl [1, 2, 3, 4, 0] rfl) hz10 (fun H locs ls hP hS hl => ?_)
        refine lv_iconst (v := 0) hx hb dX6_moves_67 (by decide) ?_
        refine lv_istore (lv' := [(4, .int 0), (0, .ref (w 0)), (1, .int v1), (2, .int v2), (3, .int v3)]) hx hb dX6_moves_68 hl (by decide) rfl (fun ls hl => ?_)
        obtain ⟨z24, hz24, hf⟩ := obd hf
        refine W70 4000 v1 v2 v3 0 w_w z10.1 z10.2 H locs ls z24 hP hS (lv_sub hl [1, 2, 3, 4, 0] rfl) hz24 (fun H locs ls hP hS hl => ?_)
        obtain ⟨y25, ey25⟩ : ∃ y : Int32, y = v3 + 1 := ⟨_, rfl⟩
        replace hf := onm ey25 hf
        refine lv_iinc (v := y25) (lv' := [(3, .int y25), (0, .ref (w 0)), (1, .int v1), (2, .int v2)]) hx hb dX6_moves_145 hl (k := 3) rfl (by rw [ey25]; rfl) (by decide) rfl (fun ls hl => ?_)
        refine lv_goto (tgt := 4) hx hb dX6_moves_148 (by decide) ?_
        exact ih v1 v2 y25 z24 z10.1 z10.2 H locs ls z hP hS (lv_sub hl [1, 2, 3, 0] rfl) hf K
  have W153 : ∀ (n : Nat) (v1 : Int32) (v2 : Int32) (v3 : Int32) (w_w : Nat → Int64) (w_heldSort : Nat → Int64) (w_heldNumber : Nat → Int64) (H : Heap) (locs : List Loc) (ls : Array Slot) (z : Int32), va_P D vwCl [oX6 w w_undos w_seed w_entries, aJ cJ (w 1) 3420 w_w, aI cI (w 7) 12 w_from, aJ cJ (w 8) 12 w_heldSort, aJ cJ (w 9) 12 w_heldNumber] H → va_S A s.heap H locs → lv_has ls 5 [(0, .ref (w 0)), (1, .int v1), (2, .int v2), (3, .int v3)] → L_X6_moves_153 w_from v1 n v2 v3 = some z → (∀ (H : Heap) (locs : List Loc) (ls : Array Slot), va_P D vwCl [oX6 w w_undos w_seed w_entries, aJ cJ (w 1) 3420 w_w, aI cI (w 7) 12 w_from, aJ cJ (w 8) 12 w_heldSort, aJ cJ (w 9) 12 w_heldNumber] H → va_S A s.heap H locs → lv_has ls 5 [(2, .int z)] → W p l e { frames := 1, cells := 0, slots := 0, locals := 21 } s m args below meth c H locs 0 0 (MQ below (QwI D zr (fun u => [oX6 w w_undos w_seed w_entries, aJ cJ (w 1) 3420 u.1, aI cI (w 7) 12 w_from, aJ cJ (w 8) 12 u.2.1, aJ cJ (w 9) 12 u.2.2]) A) args s 0 0 A) (F0 m 182 ls [])) → W p l e { frames := 1, cells := 0, slots := 0, locals := 21 } s m args below meth c H locs 0 0 (MQ below (QwI D zr (fun u => [oX6 w w_undos w_seed w_entries, aJ cJ (w 1) 3420 u.1, aI cI (w 7) 12 w_from, aJ cJ (w 8) 12 u.2.1, aJ cJ (w 9) 12 u.2.2]) A) args s 0 0 A) (F0 m 153 ls []) := by
    intro n
    induction n with
    | zero =>
      intro v1 v2 v3 w_w w_heldSort w_heldNumber H locs ls z hP hS hl hf
      exact absurd (show (none : Option (Int32)) = some z from hf) (fun h => by cases h)
    | succ n ih =>
      intro v1 v2 v3 w_w w_heldSort w_heldNumber H locs ls z hP hS hl hf K
      rw [L_X6_moves_153] at hf
      refine lv_iload_n hx hb dX6_moves_153 rfl (lv_at hl 3 rfl) ?_
      refine lv_iload_n hx hb dX6_moves_154 rfl (lv_at hl 1 rfl) ?_
      refine lv_icmp_ge (tgt := 182) hx hb dX6_moves_155 (by decide) (fun c27 => ?_) (fun c27 => ?_)
      · replace hf := oif c27 hf
        have hf := Option.some.inj hf
        subst hf
        exact K H locs ls hP hS (lv_sub hl [2] rfl)
      · replace hf := oel c27 hf
        refine lv_iload_n hx hb dX6_moves_158 rfl (lv_at hl 2 rfl) ?_
        refine lv_aload_n hx hb dX6_moves_159 rfl (lv_at hl 0 rfl) ?_
        refine va_get (D := D) (ci := 6) (v := .ref (w 7)) (C := RX6) (T := TX6) (N := 12) hx hb hts hI_X6 hown hK hP 0 rfl rfl 9 (by decide) gf30 (fun _ h9 => h9) rfl dX6_moves_160 ?_
        refine lv_iload_n hx hb dX6_moves_163 rfl (lv_at hl 3 rfl) ?_
        obtain ⟨h28, hf⟩ := ogd hf
        refine va_iald hx hb hK hP 2 0 rfl rfl (ib_in h28) dX6_moves_164 ?_
        refine lv_iload_n hx hb dX6_moves_165 rfl (lv_at hl 3 rfl) ?_
        refine lv_icmp_eq (tgt := 173) hx hb dX6_moves_166 (by decide) (fun c29 => ?_) (fun c29 => ?_)
        · replace hf := oif c29 hf
          refine lv_iconst (v := 0) hx hb dX6_moves_173 (by decide) ?_
          refine lv_iadd hx hb dX6_moves_174 ?_
          refine lv_istore_n (lv' := [(2, .int (v2 + (0 : Int32))), (0, .ref (w 0)), (1, .int v1), (3, .int v3)]) hx hb dX6_moves_175 rfl hl (by decide) rfl (fun ls hl => ?_)
          obtain ⟨y30, ey30⟩ : ∃ y : Int32, y = v3 + 1 := ⟨_, rfl⟩
          replace hf := onm ey30 hf
          refine lv_iinc (v := y30) (lv' := [(3, .int y30), (2, .int (v2 + (0 : Int32))), (0, .ref (w 0)), (1, .int v1)]) hx hb dX6_moves_176 hl (k := 3) rfl (by rw [ey30]; rfl) (by decide) rfl (fun ls hl => ?_)
          refine lv_goto (tgt := 153) hx hb dX6_moves_179 (by decide) ?_
          exact ih v1 (v2 + (0 : Int32)) y30 w_w w_heldSort w_heldNumber H locs ls z hP hS (lv_sub hl [2, 3, 1, 0] rfl) hf K
        · replace hf := oel c29 hf
          refine lv_iconst (v := 1) hx hb dX6_moves_169 (by decide) ?_
          refine lv_goto (tgt := 174) hx hb dX6_moves_170 (by decide) ?_
          refine lv_iadd hx hb dX6_moves_174 ?_
          refine lv_istore_n (lv' := [(2, .int (v2 + (1 : Int32))), (0, .ref (w 0)), (1, .int v1), (3, .int v3)]) hx hb dX6_moves_175 rfl hl (by decide) rfl (fun ls hl => ?_)
          obtain ⟨y31, ey31⟩ : ∃ y : Int32, y = v3 + 1 := ⟨_, rfl⟩
          replace hf := onm ey31 hf
          refine lv_iinc (v := y31) (lv' := [(3, .int y31), (2, .int (v2 + (1 : Int32))), (0, .ref (w 0)), (1, .int v1)]) hx hb dX6_moves_176 hl (k := 3) rfl (by rw [ey31]; rfl) (by decide) rfl (fun ls hl => ?_)
          refine lv_goto (tgt := 153) hx hb dX6_moves_179 (by decide) ?_
          exact ih v1 (v2 + (1 : Int32)) y31 w_w w_heldSort w_heldNumber H locs ls z hP hS (lv_sub hl [2, 3, 1, 0] rfl) hf K
  unfold f_X6_moves at hf
  have go : ∀ (H : Heap) (locs : List Loc), va_P D vwCl [oX6 w w_undos w_seed w_entries, aJ cJ (w 1) 3420 w_w, aI cI (w 7) 12 w_from, aJ cJ (w 8) 12 w_heldSort, aJ cJ (w 9) 12 w_heldNumber] H → va_S A s.heap H locs → W p l e { frames := 1, cells := 0, slots := 0, locals := 21 } s m args below meth c H locs 0 0 (MQ below (QwI D zr (fun u => [oX6 w w_undos w_seed w_entries, aJ cJ (w 1) 3420 u.1, aI cI (w 7) 12 w_from, aJ cJ (w 8) 12 u.2.1, aJ cJ (w 9) 12 u.2.2]) A) args s 0 0 A) (F0 m 0 ls []) := by
    intro H locs hP hS
    refine lv_iconst (v := 0) hx hb dX6_moves_0 (by decide) ?_
    refine lv_istore_n (lv' := [(2, .int 0), (0, .ref (w 0)), (1, .int x1)]) hx hb dX6_moves_1 rfl hl (by decide) rfl (fun ls hl => ?_)
    refine lv_iconst (v := 0) hx hb dX6_moves_2 (by decide) ?_
    refine lv_istore_n (lv' := [(3, .int 0), (2, .int 0), (0, .ref (w 0)), (1, .int x1)]) hx hb dX6_moves_3 rfl hl (by decide) rfl (fun ls hl => ?_)
    obtain ⟨z26, hz26, hf⟩ := obd hf
    refine W4 4000 x1 0 0 w_w w_heldSort w_heldNumber H locs ls z26 hP hS (lv_sub hl [2, 3, 1, 0] rfl) hz26 (fun H locs ls hP hS hl => ?_)
    refine lv_iconst (v := 0) hx hb dX6_moves_151 (by decide) ?_
    refine lv_istore_n (lv' := [(3, .int 0), (0, .ref (w 0)), (1, .int x1), (2, .int 0)]) hx hb dX6_moves_152 rfl hl (by decide) rfl (fun ls hl => ?_)
    obtain ⟨z32, hz32, hf⟩ := obd hf
    refine W153 4000 x1 0 0 z26.1 z26.2.1 z26.2.2 H locs ls z32 hP hS (lv_sub hl [1, 2, 3, 0] rfl) hz32 (fun H locs ls hP hS hl => ?_)
    refine lv_iload_n hx hb dX6_moves_182 rfl (lv_at hl 0 rfl) ?_
    have er := Option.some.inj hf
    exact rwI (wm := (fun u => [oX6 w w_undos w_seed w_entries, aJ cJ (w 1) 3420 u.1, aI cI (w 7) 12 w_from, aJ cJ (w 8) 12 u.2.1, aJ cJ (w 9) 12 u.2.2])) hx hb hr hS dX6_moves_183 hP er hlocks
  exact go s.heap [] hP hS
noncomputable def L_X6_stays_2 (v1 : Int32) : Nat → Int32 → (Nat → Int32) → Option ((Nat → Int32))
  | 0, _, _ => none
  | n + 1, v2, w_from => if v1 ≤ v2 then (some (w_from)) else (if ib v2 12 = true then ((some (upd w_from v2.toNatClampNeg v2 : Nat → Int32)).bind (fun h2a => (some (v2 + 1 : Int32)).bind (fun y3 => L_X6_stays_2 v1 n y3 h2a))) else none)
noncomputable def f_X6_stays (w_from : Nat → Int32) (x1 : Int32) : Option ((Nat → Int32)) := (L_X6_stays_2 x1 4000 0 w_from).bind (fun z4 => some (z4))
set_option maxHeartbeats 4000000 in
set_option maxRecDepth 100000 in
theorem c_X6_stays (l : Launch) (D : va_G) (cI cJ cZ cQ : ClassId) (bs sz : Nat) (w : Nat → Nat) (w_undos : Int32) (w_seed : Int32) (w_entries : Int32) (w_from : Nat → Int32) (x1 : Int32) (zr : (Nat → Int32)) (hf : f_X6_stays w_from x1 = some zr) : Met l yX6_stays wsX6_stays { frames := 0, cells := 0, slots := 0, locals := 0 } (va_Pc [.ref (w 0), .int x1] (Pr D cI cJ cZ cQ bs sz [oX6 w w_undos w_seed w_entries, aI cI (w 7) 12 w_from])) (QwV D zr (fun u => [oX6 w w_undos w_seed w_entries, aI cI (w 7) 12 u]) (va_A [oX6 w w_undos w_seed w_entries, aI cI (w 7) 12 w_from] sz)) 0 0 (va_A [oX6 w w_undos w_seed w_entries, aI cI (w 7) 12 w_from] sz) := by
  refine stW (cc := cX6_stays) (maxL := 3) (ret := none) (Qf := fun A => (QwV D zr (fun u => [oX6 w w_undos w_seed w_entries, aI cI (w 7) 12 u]) A)) (by decide +kernel) rfl (Nat.le_of_ble_eq_true rfl) ?_
  intro p e s m args below meth c A C0 hr hlocks hname hsz hP hD hA hAb hE ls hl
  obtain ⟨hx, hb, hml, hown, hts⟩ := id C0
  have hown : s.vm.findClass RX6 = some m.cls := hown
  obtain ⟨hK, hNW, -, tw, hZ, hT⟩ := id hE
  have hl : lv_has ls 3 [(0, .ref (w 0)), (1, .int x1)] := hl
  have hS : va_S A s.heap s.heap [] := va_S.rf
  have hI_X6 := (show ∀ w ∈ wsX60, w ∈ wsX6_stays by decide +kernel)
  have gf30 := hts (.fieldLink RX6 30 "RowRanksModel" "from" "[I") (by decide +kernel)
  have W2 : ∀ (n : Nat) (v1 : Int32) (v2 : Int32) (w_from : Nat → Int32) (H : Heap) (locs : List Loc) (ls : Array Slot) (z : (Nat → Int32)), va_P D vwCl [oX6 w w_undos w_seed w_entries, aI cI (w 7) 12 w_from] H → va_S A s.heap H locs → lv_has ls 3 [(0, .ref (w 0)), (1, .int v1), (2, .int v2)] → L_X6_stays_2 v1 n v2 w_from = some z → (∀ (H : Heap) (locs : List Loc) (ls : Array Slot), va_P D vwCl [oX6 w w_undos w_seed w_entries, aI cI (w 7) 12 z] H → va_S A s.heap H locs → lv_has ls 3 [] → W p l e { frames := 0, cells := 0, slots := 0, locals := 0 } s m args below meth c H locs 0 0 (MQ below (QwV D zr (fun u => [oX6 w w_undos w_seed w_entries, aI cI (w 7) 12 u]) A) args s 0 0 A) (F0 m 20 ls [])) → W p l e { frames := 0, cells := 0, slots := 0, locals := 0 } s m args below meth c H locs 0 0 (MQ below (QwV D zr (fun u => [oX6 w w_undos w_seed w_entries, aI cI (w 7) 12 u]) A) args s 0 0 A) (F0 m 2 ls []) := by
    intro n
    induction n with
    | zero =>
      intro v1 v2 w_from H locs ls z hP hS hl hf
      exact absurd (show (none : Option ((Nat → Int32))) = some z from hf) (fun h => by cases h)
    | succ n ih =>
      intro v1 v2 w_from H locs ls z hP hS hl hf K
      rw [L_X6_stays_2] at hf
      refine lv_iload_n hx hb dX6_stays_2 rfl (lv_at hl 2 rfl) ?_
      refine lv_iload_n hx hb dX6_stays_3 rfl (lv_at hl 1 rfl) ?_
      refine lv_icmp_ge (tgt := 20) hx hb dX6_stays_4 (by decide) (fun c1 => ?_) (fun c1 => ?_)
      · replace hf := oif c1 hf
        have hf := Option.some.inj hf
        subst hf
        exact K H locs ls hP hS (lv_sub hl [] rfl)
      · replace hf := oel c1 hf
        refine lv_aload_n hx hb dX6_stays_7 rfl (lv_at hl 0 rfl) ?_
        refine va_get (D := D) (ci := 6) (v := .ref (w 7)) (C := RX6) (T := TX6) (N := 12) hx hb hts hI_X6 hown hK hP 0 rfl rfl 9 (by decide) gf30 (fun _ h9 => h9) rfl dX6_stays_8 ?_
        refine lv_iload_n hx hb dX6_stays_11 rfl (lv_at hl 2 rfl) ?_
        refine lv_iload_n hx hb dX6_stays_12 rfl (lv_at hl 2 rfl) ?_
        obtain ⟨h2, hf⟩ := ogd hf
        refine va_iast hx hb hK hP (hD.addr rfl) hS 1 0 rfl rfl (ib_in h2) dX6_stays_13 (fun H locs hP _ hS => ?_)
        obtain ⟨h2a, eh2a⟩ : ∃ y : Nat → Int32, y = upd w_from v2.toNatClampNeg v2 := ⟨_, rfl⟩
        replace hf := onm eh2a hf
        have hP : va_P D vwCl [oX6 w w_undos w_seed w_entries, aI cI (w 7) 12 h2a] H := by rw [eh2a]; exact hP
        obtain ⟨y3, ey3⟩ : ∃ y : Int32, y = v2 + 1 := ⟨_, rfl⟩
        replace hf := onm ey3 hf
        refine lv_iinc (v := y3) (lv' := [(2, .int y3), (0, .ref (w 0)), (1, .int v1)]) hx hb dX6_stays_14 hl (k := 2) rfl (by rw [ey3]; rfl) (by decide) rfl (fun ls hl => ?_)
        refine lv_goto (tgt := 2) hx hb dX6_stays_17 (by decide) ?_
        exact ih v1 y3 h2a H locs ls z hP hS (lv_sub hl [1, 2, 0] rfl) hf K
  unfold f_X6_stays at hf
  have go : ∀ (H : Heap) (locs : List Loc), va_P D vwCl [oX6 w w_undos w_seed w_entries, aI cI (w 7) 12 w_from] H → va_S A s.heap H locs → W p l e { frames := 0, cells := 0, slots := 0, locals := 0 } s m args below meth c H locs 0 0 (MQ below (QwV D zr (fun u => [oX6 w w_undos w_seed w_entries, aI cI (w 7) 12 u]) A) args s 0 0 A) (F0 m 0 ls []) := by
    intro H locs hP hS
    refine lv_iconst (v := 0) hx hb dX6_stays_0 (by decide) ?_
    refine lv_istore_n (lv' := [(2, .int 0), (0, .ref (w 0)), (1, .int x1)]) hx hb dX6_stays_1 rfl hl (by decide) rfl (fun ls hl => ?_)
    obtain ⟨z4, hz4, hf⟩ := obd hf
    refine W2 4000 x1 0 w_from H locs ls z4 hP hS (lv_sub hl [1, 2, 0] rfl) hz4 (fun H locs ls hP hS hl => ?_)
    have er := Option.some.inj hf
    exact rwV (wm := (fun u => [oX6 w w_undos w_seed w_entries, aI cI (w 7) 12 u])) hx hb hr hS dX6_stays_20 hP er hlocks
  exact go s.heap [] hP hS
noncomputable def L_X6_settle_19 (w_w : Nat → Int64) (v1 : Int32) : Nat → Int32 → (Nat → Int32) → Option ((Nat → Int32))
  | 0, _, _ => none
  | n + 1, v2, w_from => if v1 ≤ v2 then (some (w_from)) else ((f_X6_position w_w 15 v2 v1).bind (fun z5 => if ib z5 12 = true then ((some (upd w_from z5.toNatClampNeg v2 : Nat → Int32)).bind (fun h6a => (some (v2 + 1 : Int32)).bind (fun y7 => L_X6_settle_19 w_w v1 n y7 h6a))) else none))
noncomputable def f_X6_settle (w_w : Nat → Int64) (w_undos : Int32) (w_from : Nat → Int32) (w_heldSort : Nat → Int64) (w_heldNumber : Nat → Int64) : Option (Int32 × (Nat → Int64) × Int32 × (Nat → Int32) × (Nat → Int64) × (Nat → Int64)) := (f_X6_places w_w).bind (fun z1 => if z1 = (-1) then (some (((-1000000003), w_w, w_undos, w_from, w_heldSort, w_heldNumber))) else ((f_X6_minds w_w w_undos).bind (fun z3 => (L_X6_settle_19 z3.1 z1 4000 0 w_from).bind (fun z8 => (f_X6_moves z3.1 z8 w_heldSort w_heldNumber z1).bind (fun z9 => some ((z9.1, z9.2.1, z3.2, z8, z9.2.2.1, z9.2.2.2)))))))
set_option maxHeartbeats 4000000 in
set_option maxRecDepth 100000 in
theorem c_X6_settle (l : Launch) (D : va_G) (cI cJ cZ cQ : ClassId) (bs sz : Nat) (w : Nat → Nat) (w_undos : Int32) (w_seed : Int32) (w_entries : Int32) (w_w : Nat → Int64) (w_from : Nat → Int32) (w_heldSort : Nat → Int64) (w_heldNumber : Nat → Int64) (zr : Int32 × (Nat → Int64) × Int32 × (Nat → Int32) × (Nat → Int64) × (Nat → Int64)) (hf : f_X6_settle w_w w_undos w_from w_heldSort w_heldNumber = some zr) : Met l yX6_settle wsX6_settle { frames := 6, cells := 0, slots := 0, locals := 156 } (va_Pc [.ref (w 0)] (Pr D cI cJ cZ cQ bs sz [oX6 w w_undos w_seed w_entries, aJ cJ (w 1) 3420 w_w, aI cI (w 7) 12 w_from, aJ cJ (w 8) 12 w_heldSort, aJ cJ (w 9) 12 w_heldNumber])) (QwI D zr (fun u => [oX6 w u.2.1 w_seed w_entries, aJ cJ (w 1) 3420 u.1, aI cI (w 7) 12 u.2.2.1, aJ cJ (w 8) 12 u.2.2.2.1, aJ cJ (w 9) 12 u.2.2.2.2]) (va_A [oX6 w w_undos w_seed w_entries, aJ cJ (w 1) 3420 w_w, aI cI (w 7) 12 w_from, aJ cJ (w 8) 12 w_heldSort, aJ cJ (w 9) 12 w_heldNumber] sz)) 0 0 (va_A [oX6 w w_undos w_seed w_entries, aJ cJ (w 1) 3420 w_w, aI cI (w 7) 12 w_from, aJ cJ (w 8) 12 w_heldSort, aJ cJ (w 9) 12 w_heldNumber] sz) := by
  refine stW (cc := cX6_settle) (maxL := 3) (ret := (some .int)) (Qf := fun A => (QwI D zr (fun u => [oX6 w u.2.1 w_seed w_entries, aJ cJ (w 1) 3420 u.1, aI cI (w 7) 12 u.2.2.1, aJ cJ (w 8) 12 u.2.2.2.1, aJ cJ (w 9) 12 u.2.2.2.2]) A)) (by decide +kernel) rfl (Nat.le_of_ble_eq_true rfl) ?_
  intro p e s m args below meth c A C0 hr hlocks hname hsz hP hD hA hAb hE ls hl
  obtain ⟨hx, hb, hml, hown, hts⟩ := id C0
  have hown : s.vm.findClass RX6 = some m.cls := hown
  obtain ⟨hK, hNW, -, tw, hZ, hT⟩ := id hE
  have hl : lv_has ls 3 [(0, .ref (w 0))] := hl
  have hS : va_S A s.heap s.heap [] := va_S.rf
  have hI_X6 := (show ∀ w ∈ wsX60, w ∈ wsX6_settle by decide +kernel)
  have gf30 := hts (.fieldLink RX6 30 "RowRanksModel" "from" "[I") (by decide +kernel)
  have gk246 := hts (.constant RX6 246 (-1000000003)) (by decide +kernel)
  have W19 : ∀ (n : Nat) (v1 : Int32) (v2 : Int32) (w_w : Nat → Int64) (w_undos : Int32) (w_from : Nat → Int32) (w_heldSort : Nat → Int64) (w_heldNumber : Nat → Int64) (H : Heap) (locs : List Loc) (ls : Array Slot) (z : (Nat → Int32)), va_P D vwCl [oX6 w w_undos w_seed w_entries, aJ cJ (w 1) 3420 w_w, aI cI (w 7) 12 w_from, aJ cJ (w 8) 12 w_heldSort, aJ cJ (w 9) 12 w_heldNumber] H → va_S A s.heap H locs → lv_has ls 3 [(0, .ref (w 0)), (1, .int v1), (2, .int v2)] → L_X6_settle_19 w_w v1 n v2 w_from = some z → (∀ (H : Heap) (locs : List Loc) (ls : Array Slot), va_P D vwCl [oX6 w w_undos w_seed w_entries, aJ cJ (w 1) 3420 w_w, aI cI (w 7) 12 z, aJ cJ (w 8) 12 w_heldSort, aJ cJ (w 9) 12 w_heldNumber] H → va_S A s.heap H locs → lv_has ls 3 [(0, .ref (w 0)), (1, .int v1)] → W p l e { frames := 6, cells := 0, slots := 0, locals := 156 } s m args below meth c H locs 0 0 (MQ below (QwI D zr (fun u => [oX6 w u.2.1 w_seed w_entries, aJ cJ (w 1) 3420 u.1, aI cI (w 7) 12 u.2.2.1, aJ cJ (w 8) 12 u.2.2.2.1, aJ cJ (w 9) 12 u.2.2.2.2]) A) args s 0 0 A) (F0 m 44 ls [])) → W p l e { frames := 6, cells := 0, slots := 0, locals := 156 } s m args below meth c H locs 0 0 (MQ below (QwI D zr (fun u => [oX6 w u.2.1 w_seed w_entries, aJ cJ (w 1) 3420 u.1, aI cI (w 7) 12 u.2.2.1, aJ cJ (w 8) 12 u.2.2.2.1, aJ cJ (w 9) 12 u.2.2.2.2]) A) args s 0 0 A) (F0 m 19 ls []) := by
    intro n
    induction n with
    | zero =>
      intro v1 v2 w_w w_undos w_from w_heldSort w_heldNumber H locs ls z hP hS hl hf
      exact absurd (show (none : Option ((Nat → Int32))) = some z from hf) (fun h => by cases h)
    | succ n ih =>
      intro v1 v2 w_w w_undos w_from w_heldSort w_heldNumber H locs ls z hP hS hl hf K
      rw [L_X6_settle_19] at hf
      refine lv_iload_n hx hb dX6_settle_19 rfl (lv_at hl 2 rfl) ?_
      refine lv_iload_n hx hb dX6_settle_20 rfl (lv_at hl 1 rfl) ?_
      refine lv_icmp_ge (tgt := 44) hx hb dX6_settle_21 (by decide) (fun c4 => ?_) (fun c4 => ?_)
      · replace hf := oif c4 hf
        have hf := Option.some.inj hf
        subst hf
        exact K H locs ls hP hS (lv_sub hl [0, 1] rfl)
      · replace hf := oel c4 hf
        refine lv_aload_n hx hb dX6_settle_24 rfl (lv_at hl 0 rfl) ?_
        refine va_get (D := D) (ci := 6) (v := .ref (w 7)) (C := RX6) (T := TX6) (N := 12) hx hb hts hI_X6 hown hK hP 0 rfl rfl 9 (by decide) gf30 (fun _ h9 => h9) rfl dX6_settle_25 ?_
        refine lv_aload_n hx hb dX6_settle_28 rfl (lv_at hl 0 rfl) ?_
        refine lv_bipush (v := 15) hx hb dX6_settle_29 (by decide) ?_
        refine lv_iload_n hx hb dX6_settle_31 rfl (lv_at hl 2 rfl) ?_
        refine lv_iload_n hx hb dX6_settle_32 rfl (lv_at hl 1 rfl) ?_
        obtain ⟨z5, hz5, hf⟩ := obd hf
        refine kI (runV (As := [.int 15, .int v2, .int v1]) (rest := [.ref (w 7)]) C0 hE hAb hP ((hD.weaken (fun _ _ _ h9 => hAb _ h9)).addr rfl) hS [0, 1] (wc := [oX6 w w_undos w_seed w_entries, aJ cJ (w 1) 3420 w_w]) (by decide) rfl 0 rfl rfl (c_X6_position l D cI cJ cZ cQ bs H.size w w_undos w_seed w_entries w_w 15 v2 v1 z5 hz5) (cwV 3 hts gX6_settle_X6_position rfl rfl rfl (by decide +kernel) ⟨Nat.le_of_ble_eq_true rfl, Nat.le_of_ble_eq_true rfl⟩) rfl hl.1 rfl (Nat.le_of_ble_eq_true rfl) dX6_settle_33 ⟨Nat.le_of_ble_eq_true rfl, Nat.le_of_ble_eq_true rfl⟩) hS hP (fun H locs hP hS => ?_)
        refine lv_iload_n hx hb dX6_settle_36 rfl (lv_at hl 2 rfl) ?_
        obtain ⟨h6, hf⟩ := ogd hf
        refine va_iast hx hb hK hP (hD.addr rfl) hS 2 0 rfl rfl (ib_in h6) dX6_settle_37 (fun H locs hP _ hS => ?_)
        obtain ⟨h6a, eh6a⟩ : ∃ y : Nat → Int32, y = upd w_from z5.toNatClampNeg v2 := ⟨_, rfl⟩
        replace hf := onm eh6a hf
        have hP : va_P D vwCl [oX6 w w_undos w_seed w_entries, aJ cJ (w 1) 3420 w_w, aI cI (w 7) 12 h6a, aJ cJ (w 8) 12 w_heldSort, aJ cJ (w 9) 12 w_heldNumber] H := by rw [eh6a]; exact hP
        obtain ⟨y7, ey7⟩ : ∃ y : Int32, y = v2 + 1 := ⟨_, rfl⟩
        replace hf := onm ey7 hf
        refine lv_iinc (v := y7) (lv' := [(2, .int y7), (0, .ref (w 0)), (1, .int v1)]) hx hb dX6_settle_38 hl (k := 2) rfl (by rw [ey7]; rfl) (by decide) rfl (fun ls hl => ?_)
        refine lv_goto (tgt := 19) hx hb dX6_settle_41 (by decide) ?_
        exact ih v1 y7 w_w w_undos h6a w_heldSort w_heldNumber H locs ls z hP hS (lv_sub hl [1, 2, 0] rfl) hf K
  unfold f_X6_settle at hf
  have go : ∀ (H : Heap) (locs : List Loc), va_P D vwCl [oX6 w w_undos w_seed w_entries, aJ cJ (w 1) 3420 w_w, aI cI (w 7) 12 w_from, aJ cJ (w 8) 12 w_heldSort, aJ cJ (w 9) 12 w_heldNumber] H → va_S A s.heap H locs → W p l e { frames := 6, cells := 0, slots := 0, locals := 156 } s m args below meth c H locs 0 0 (MQ below (QwI D zr (fun u => [oX6 w u.2.1 w_seed w_entries, aJ cJ (w 1) 3420 u.1, aI cI (w 7) 12 u.2.2.1, aJ cJ (w 8) 12 u.2.2.2.1, aJ cJ (w 9) 12 u.2.2.2.2]) A) args s 0 0 A) (F0 m 0 ls []) := by
    intro H locs hP hS
    refine lv_aload_n hx hb dX6_settle_0 rfl (lv_at hl 0 rfl) ?_
    obtain ⟨z1, hz1, hf⟩ := obd hf
    refine kI (runV (As := []) (rest := []) C0 hE hAb hP ((hD.weaken (fun _ _ _ h9 => hAb _ h9)).addr rfl) hS [0, 1] (wc := [oX6 w w_undos w_seed w_entries, aJ cJ (w 1) 3420 w_w]) (by decide) rfl 0 rfl rfl (c_X6_places l D cI cJ cZ cQ bs H.size w w_undos w_seed w_entries w_w z1 hz1) (cwV 0 hts gX6_settle_X6_places rfl rfl rfl (by decide +kernel) ⟨Nat.le_of_ble_eq_true rfl, Nat.le_of_ble_eq_true rfl⟩) rfl hl.1 rfl (Nat.le_of_ble_eq_true rfl) dX6_settle_1 ⟨Nat.le_of_ble_eq_true rfl, Nat.le_of_ble_eq_true rfl⟩) hS hP (fun H locs hP hS => ?_)
    refine lv_istore_n (lv' := [(1, .int z1), (0, .ref (w 0))]) hx hb dX6_settle_4 rfl hl (by decide) rfl (fun ls hl => ?_)
    refine lv_iload_n hx hb dX6_settle_5 rfl (lv_at hl 0 rfl) ?_
    refine lv_iconst (v := (-1)) hx hb dX6_settle_6 (by decide) ?_
    refine lv_icmp_ne (tgt := 13) hx hb dX6_settle_7 (by decide) (fun c2 => ?_) (fun c2 => ?_)
    · replace hf := oel c2 hf
      refine lv_aload_n hx hb dX6_settle_13 rfl (lv_at hl 1 rfl) ?_
      obtain ⟨z3, hz3, hf⟩ := obd hf
      refine kwV (runV (As := []) (rest := []) C0 hE hAb hP ((hD.weaken (fun _ _ _ h9 => hAb _ h9)).addr rfl) hS [0, 1] (wc := [oX6 w w_undos w_seed w_entries, aJ cJ (w 1) 3420 w_w]) (by decide) rfl 0 rfl rfl (c_X6_minds l D cI cJ cZ cQ bs H.size w w_undos w_seed w_entries w_w z3 hz3) (cwV 0 hts gX6_settle_X6_minds rfl rfl rfl (by decide +kernel) ⟨Nat.le_of_ble_eq_true rfl, Nat.le_of_ble_eq_true rfl⟩) rfl hl.1 rfl (Nat.le_of_ble_eq_true rfl) dX6_settle_14 ⟨Nat.le_of_ble_eq_true rfl, Nat.le_of_ble_eq_true rfl⟩) hS hP (hD.addr rfl) hA [0, 1] rfl rfl (ws' := [oX6 w z3.2 w_seed w_entries, aJ cJ (w 1) 3420 z3.1, aI cI (w 7) 12 w_from, aJ cJ (w 8) 12 w_heldSort, aJ cJ (w 9) 12 w_heldNumber]) rfl rfl (fun H locs hP hS => ?_)
      refine lv_iconst (v := 0) hx hb dX6_settle_17 (by decide) ?_
      refine lv_istore_n (lv' := [(2, .int 0), (1, .int z1), (0, .ref (w 0))]) hx hb dX6_settle_18 rfl hl (by decide) rfl (fun ls hl => ?_)
      obtain ⟨z8, hz8, hf⟩ := obd hf
      refine W19 4000 z1 0 z3.1 z3.2 w_from w_heldSort w_heldNumber H locs ls z8 hP hS (lv_sub hl [2, 1, 0] rfl) hz8 (fun H locs ls hP hS hl => ?_)
      refine lv_aload_n hx hb dX6_settle_44 rfl (lv_at hl 0 rfl) ?_
      refine lv_iload_n hx hb dX6_settle_45 rfl (lv_at hl 1 rfl) ?_
      obtain ⟨z9, hz9, hf⟩ := obd hf
      refine kwI (runV (As := [.int z1]) (rest := []) C0 hE hAb hP ((hD.weaken (fun _ _ _ h9 => hAb _ h9)).addr rfl) hS [0, 1, 2, 3, 4] (wc := [oX6 w z3.2 w_seed w_entries, aJ cJ (w 1) 3420 z3.1, aI cI (w 7) 12 z8, aJ cJ (w 8) 12 w_heldSort, aJ cJ (w 9) 12 w_heldNumber]) (by decide) rfl 0 rfl rfl (c_X6_moves l D cI cJ cZ cQ bs H.size w z3.2 w_seed w_entries z3.1 z8 w_heldSort w_heldNumber z1 z9 hz9) (cwV 1 hts gX6_settle_X6_moves rfl rfl rfl (by decide +kernel) ⟨Nat.le_of_ble_eq_true rfl, Nat.le_of_ble_eq_true rfl⟩) rfl hl.1 rfl (Nat.le_of_ble_eq_true rfl) dX6_settle_46 ⟨Nat.le_of_ble_eq_true rfl, Nat.le_of_ble_eq_true rfl⟩) hS hP (hD.addr rfl) hA [0, 1, 2, 3, 4] rfl rfl (ws' := [oX6 w z3.2 w_seed w_entries, aJ cJ (w 1) 3420 z9.2.1, aI cI (w 7) 12 z8, aJ cJ (w 8) 12 z9.2.2.1, aJ cJ (w 9) 12 z9.2.2.2]) rfl rfl (fun H locs hP hS => ?_)
      have er := Option.some.inj hf
      exact rwI (wm := (fun u => [oX6 w u.2.1 w_seed w_entries, aJ cJ (w 1) 3420 u.1, aI cI (w 7) 12 u.2.2.1, aJ cJ (w 8) 12 u.2.2.2.1, aJ cJ (w 9) 12 u.2.2.2.2])) hx hb hr hS dX6_settle_49 hP er hlocks
    · replace hf := oif c2 hf
      refine lv_ldc hx hb hown gk246 dX6_settle_10 ?_
      have er := Option.some.inj hf
      exact rwI (wm := (fun u => [oX6 w u.2.1 w_seed w_entries, aJ cJ (w 1) 3420 u.1, aI cI (w 7) 12 u.2.2.1, aJ cJ (w 8) 12 u.2.2.2.1, aJ cJ (w 9) 12 u.2.2.2.2])) hx hb hr hS dX6_settle_12 hP er hlocks
  exact go s.heap [] hP hS
noncomputable def L_X6_pass_21 (v1 : Int32) : Nat → Int32 → Int32 → (Nat → Int64) → (Nat → Int32) → (Nat → Int64) → (Nat → Int64) → Option (Int32 × (Nat → Int64) × (Nat → Int32) × (Nat → Int64) × (Nat → Int64))
  | 0, _, _, _, _, _, _ => none
  | n + 1, v2, v3, w_w, w_from, w_heldSort, w_heldNumber => if v1 ≤ (v3 + (1 : Int32)) then (some ((v2, w_w, w_from, w_heldSort, w_heldNumber))) else ((f_X6_isLess w_w (v3 + (1 : Int32)) v3).bind (fun z5 => if z5 = 0 then ((some (v3 + 1 : Int32)).bind (fun y7 => L_X6_pass_21 v1 n v2 y7 w_w w_from w_heldSort w_heldNumber)) else ((f_X6_stays w_from v1).bind (fun z8 => if ib v3 12 = true then ((some (upd z8 v3.toNatClampNeg (v3 + (1 : Int32)) : Nat → Int32)).bind (fun h9a => if ib (v3 + (1 : Int32)) 12 = true then ((some (upd h9a (v3 + (1 : Int32)).toNatClampNeg v3 : Nat → Int32)).bind (fun h10a => (f_X6_moves w_w h10a w_heldSort w_heldNumber v1).bind (fun z11 => (some (v2 + 1 : Int32)).bind (fun y12 => (some (v3 + 1 : Int32)).bind (fun y13 => L_X6_pass_21 v1 n y12 y13 z11.2.1 h10a z11.2.2.1 z11.2.2.2))))) else none)) else none))))
noncomputable def f_X6_pass (w_w : Nat → Int64) (w_undos : Int32) (w_from : Nat → Int32) (w_heldSort : Nat → Int64) (w_heldNumber : Nat → Int64) : Option (Int32 × (Nat → Int64) × Int32 × (Nat → Int32) × (Nat → Int64) × (Nat → Int64)) := (f_X6_places w_w).bind (fun z1 => if z1 = (-1) then (some (((-1000000003), w_w, w_undos, w_from, w_heldSort, w_heldNumber))) else ((f_X6_minds w_w w_undos).bind (fun z3 => (L_X6_pass_21 z1 4000 0 0 z3.1 w_from w_heldSort w_heldNumber).bind (fun z14 => some ((z14.1, z14.2.1, z3.2, z14.2.2.1, z14.2.2.2.1, z14.2.2.2.2))))))
set_option maxHeartbeats 4000000 in
set_option maxRecDepth 100000 in
theorem c_X6_pass (l : Launch) (D : va_G) (cI cJ cZ cQ : ClassId) (bs sz : Nat) (w : Nat → Nat) (w_undos : Int32) (w_seed : Int32) (w_entries : Int32) (w_w : Nat → Int64) (w_from : Nat → Int32) (w_heldSort : Nat → Int64) (w_heldNumber : Nat → Int64) (zr : Int32 × (Nat → Int64) × Int32 × (Nat → Int32) × (Nat → Int64) × (Nat → Int64)) (hf : f_X6_pass w_w w_undos w_from w_heldSort w_heldNumber = some zr) : Met l yX6_pass wsX6_pass { frames := 6, cells := 0, slots := 0, locals := 152 } (va_Pc [.ref (w 0)] (Pr D cI cJ cZ cQ bs sz [oX6 w w_undos w_seed w_entries, aJ cJ (w 1) 3420 w_w, aI cI (w 7) 12 w_from, aJ cJ (w 8) 12 w_heldSort, aJ cJ (w 9) 12 w_heldNumber])) (QwI D zr (fun u => [oX6 w u.2.1 w_seed w_entries, aJ cJ (w 1) 3420 u.1, aI cI (w 7) 12 u.2.2.1, aJ cJ (w 8) 12 u.2.2.2.1, aJ cJ (w 9) 12 u.2.2.2.2]) (va_A [oX6 w w_undos w_seed w_entries, aJ cJ (w 1) 3420 w_w, aI cI (w 7) 12 w_from, aJ cJ (w 8) 12 w_heldSort, aJ cJ (w 9) 12 w_heldNumber] sz)) 0 0 (va_A [oX6 w w_undos w_seed w_entries, aJ cJ (w 1) 3420 w_w, aI cI (w 7) 12 w_from, aJ cJ (w 8) 12 w_heldSort, aJ cJ (w 9) 12 w_heldNumber] sz) := by
  refine stW (cc := cX6_pass) (maxL := 4) (ret := (some .int)) (Qf := fun A => (QwI D zr (fun u => [oX6 w u.2.1 w_seed w_entries, aJ cJ (w 1) 3420 u.1, aI cI (w 7) 12 u.2.2.1, aJ cJ (w 8) 12 u.2.2.2.1, aJ cJ (w 9) 12 u.2.2.2.2]) A)) (by decide +kernel) rfl (Nat.le_of_ble_eq_true rfl) ?_
  intro p e s m args below meth c A C0 hr hlocks hname hsz hP hD hA hAb hE ls hl
  obtain ⟨hx, hb, hml, hown, hts⟩ := id C0
  have hown : s.vm.findClass RX6 = some m.cls := hown
  obtain ⟨hK, hNW, -, tw, hZ, hT⟩ := id hE
  have hl : lv_has ls 4 [(0, .ref (w 0))] := hl
  have hS : va_S A s.heap s.heap [] := va_S.rf
  have hI_X6 := (show ∀ w ∈ wsX60, w ∈ wsX6_pass by decide +kernel)
  have gf30 := hts (.fieldLink RX6 30 "RowRanksModel" "from" "[I") (by decide +kernel)
  have gk246 := hts (.constant RX6 246 (-1000000003)) (by decide +kernel)
  have W21 : ∀ (n : Nat) (v1 : Int32) (v2 : Int32) (v3 : Int32) (w_w : Nat → Int64) (w_undos : Int32) (w_from : Nat → Int32) (w_heldSort : Nat → Int64) (w_heldNumber : Nat → Int64) (H : Heap) (locs : List Loc) (ls : Array Slot) (z : Int32 × (Nat → Int64) × (Nat → Int32) × (Nat → Int64) × (Nat → Int64)), va_P D vwCl [oX6 w w_undos w_seed w_entries, aJ cJ (w 1) 3420 w_w, aI cI (w 7) 12 w_from, aJ cJ (w 8) 12 w_heldSort, aJ cJ (w 9) 12 w_heldNumber] H → va_S A s.heap H locs → lv_has ls 4 [(0, .ref (w 0)), (1, .int v1), (2, .int v2), (3, .int v3)] → L_X6_pass_21 v1 n v2 v3 w_w w_from w_heldSort w_heldNumber = some z → (∀ (H : Heap) (locs : List Loc) (ls : Array Slot), va_P D vwCl [oX6 w w_undos w_seed w_entries, aJ cJ (w 1) 3420 z.2.1, aI cI (w 7) 12 z.2.2.1, aJ cJ (w 8) 12 z.2.2.2.1, aJ cJ (w 9) 12 z.2.2.2.2] H → va_S A s.heap H locs → lv_has ls 4 [(2, .int z.1)] → W p l e { frames := 6, cells := 0, slots := 0, locals := 152 } s m args below meth c H locs 0 0 (MQ below (QwI D zr (fun u => [oX6 w u.2.1 w_seed w_entries, aJ cJ (w 1) 3420 u.1, aI cI (w 7) 12 u.2.2.1, aJ cJ (w 8) 12 u.2.2.2.1, aJ cJ (w 9) 12 u.2.2.2.2]) A) args s 0 0 A) (F0 m 77 ls [])) → W p l e { frames := 6, cells := 0, slots := 0, locals := 152 } s m args below meth c H locs 0 0 (MQ below (QwI D zr (fun u => [oX6 w u.2.1 w_seed w_entries, aJ cJ (w 1) 3420 u.1, aI cI (w 7) 12 u.2.2.1, aJ cJ (w 8) 12 u.2.2.2.1, aJ cJ (w 9) 12 u.2.2.2.2]) A) args s 0 0 A) (F0 m 21 ls []) := by
    intro n
    induction n with
    | zero =>
      intro v1 v2 v3 w_w w_undos w_from w_heldSort w_heldNumber H locs ls z hP hS hl hf
      exact absurd (show (none : Option (Int32 × (Nat → Int64) × (Nat → Int32) × (Nat → Int64) × (Nat → Int64))) = some z from hf) (fun h => by cases h)
    | succ n ih =>
      intro v1 v2 v3 w_w w_undos w_from w_heldSort w_heldNumber H locs ls z hP hS hl hf K
      rw [L_X6_pass_21] at hf
      refine lv_iload_n hx hb dX6_pass_21 rfl (lv_at hl 3 rfl) ?_
      refine lv_iconst (v := 1) hx hb dX6_pass_22 (by decide) ?_
      refine lv_iadd hx hb dX6_pass_23 ?_
      refine lv_iload_n hx hb dX6_pass_24 rfl (lv_at hl 1 rfl) ?_
      refine lv_icmp_ge (tgt := 77) hx hb dX6_pass_25 (by decide) (fun c4 => ?_) (fun c4 => ?_)
      · replace hf := oif c4 hf
        have hf := Option.some.inj hf
        subst hf
        exact K H locs ls hP hS (lv_sub hl [2] rfl)
      · replace hf := oel c4 hf
        refine lv_aload_n hx hb dX6_pass_28 rfl (lv_at hl 0 rfl) ?_
        refine lv_iload_n hx hb dX6_pass_29 rfl (lv_at hl 3 rfl) ?_
        refine lv_iconst (v := 1) hx hb dX6_pass_30 (by decide) ?_
        refine lv_iadd hx hb dX6_pass_31 ?_
        refine lv_iload_n hx hb dX6_pass_32 rfl (lv_at hl 3 rfl) ?_
        obtain ⟨z5, hz5, hf⟩ := obd hf
        refine kZ (runV (As := [.int (v3 + (1 : Int32)), .int v3]) (rest := []) C0 hE hAb hP ((hD.weaken (fun _ _ _ h9 => hAb _ h9)).addr rfl) hS [0, 1] (wc := [oX6 w w_undos w_seed w_entries, aJ cJ (w 1) 3420 w_w]) (by decide) rfl 0 rfl rfl (c_X6_isLess l D cI cJ cZ cQ bs H.size w w_undos w_seed w_entries w_w (v3 + (1 : Int32)) v3 z5 hz5) (cwV 2 hts gX6_pass_X6_isLess rfl rfl rfl (by decide +kernel) ⟨Nat.le_of_ble_eq_true rfl, Nat.le_of_ble_eq_true rfl⟩) rfl hl.1 rfl (Nat.le_of_ble_eq_true rfl) dX6_pass_33 ⟨Nat.le_of_ble_eq_true rfl, Nat.le_of_ble_eq_true rfl⟩) hS hP (fun bz5 H locs hP hS => ?_)
        refine lv_if_eq (tgt := 71) hx hb dX6_pass_36 (by decide) (fun c6 => ?_) (fun c6 => ?_)
        · replace hf := oif c6 hf
          obtain ⟨y7, ey7⟩ : ∃ y : Int32, y = v3 + 1 := ⟨_, rfl⟩
          replace hf := onm ey7 hf
          refine lv_iinc (v := y7) (lv' := [(3, .int y7), (0, .ref (w 0)), (1, .int v1), (2, .int v2)]) hx hb dX6_pass_71 hl (k := 3) rfl (by rw [ey7]; rfl) (by decide) rfl (fun ls hl => ?_)
          refine lv_goto (tgt := 21) hx hb dX6_pass_74 (by decide) ?_
          exact ih v1 v2 y7 w_w w_undos w_from w_heldSort w_heldNumber H locs ls z hP hS (lv_sub hl [1, 2, 3, 0] rfl) hf K
        · replace hf := oel c6 hf
          refine lv_aload_n hx hb dX6_pass_39 rfl (lv_at hl 0 rfl) ?_
          refine lv_iload_n hx hb dX6_pass_40 rfl (lv_at hl 1 rfl) ?_
          obtain ⟨z8, hz8, hf⟩ := obd hf
          refine kwV (runV (As := [.int v1]) (rest := []) C0 hE hAb hP ((hD.weaken (fun _ _ _ h9 => hAb _ h9)).addr rfl) hS [0, 2] (wc := [oX6 w w_undos w_seed w_entries, aI cI (w 7) 12 w_from]) (by decide) rfl 0 rfl rfl (c_X6_stays l D cI cJ cZ cQ bs H.size w w_undos w_seed w_entries w_from v1 z8 hz8) (cwV 1 hts gX6_pass_X6_stays rfl rfl rfl (by decide +kernel) ⟨Nat.le_of_ble_eq_true rfl, Nat.le_of_ble_eq_true rfl⟩) rfl hl.1 rfl (Nat.le_of_ble_eq_true rfl) dX6_pass_41 ⟨Nat.le_of_ble_eq_true rfl, Nat.le_of_ble_eq_true rfl⟩) hS hP (hD.addr rfl) hA [0, 2] rfl rfl (ws' := [oX6 w w_undos w_seed w_entries, aJ cJ (w 1) 3420 w_w, aI cI (w 7) 12 z8, aJ cJ (w 8) 12 w_heldSort, aJ cJ (w 9) 12 w_heldNumber]) rfl rfl (fun H locs hP hS => ?_)
          refine lv_aload_n hx hb dX6_pass_44 rfl (lv_at hl 0 rfl) ?_
          refine va_get (D := D) (ci := 6) (v := .ref (w 7)) (C := RX6) (T := TX6) (N := 12) hx hb hts hI_X6 hown hK hP 0 rfl rfl 9 (by decide) gf30 (fun _ h9 => h9) rfl dX6_pass_45 ?_
          refine lv_iload_n hx hb dX6_pass_48 rfl (lv_at hl 3 rfl) ?_
          refine lv_iload_n hx hb dX6_pass_49 rfl (lv_at hl 3 rfl) ?_
          refine lv_iconst (v := 1) hx hb dX6_pass_50 (by decide) ?_
          refine lv_iadd hx hb dX6_pass_51 ?_
          obtain ⟨h9, hf⟩ := ogd hf
          refine va_iast hx hb hK hP (hD.addr rfl) hS 2 0 rfl rfl (ib_in h9) dX6_pass_52 (fun H locs hP _ hS => ?_)
          obtain ⟨h9a, eh9a⟩ : ∃ y : Nat → Int32, y = upd z8 v3.toNatClampNeg (v3 + (1 : Int32)) := ⟨_, rfl⟩
          replace hf := onm eh9a hf
          have hP : va_P D vwCl [oX6 w w_undos w_seed w_entries, aJ cJ (w 1) 3420 w_w, aI cI (w 7) 12 h9a, aJ cJ (w 8) 12 w_heldSort, aJ cJ (w 9) 12 w_heldNumber] H := by rw [eh9a]; exact hP
          refine lv_aload_n hx hb dX6_pass_53 rfl (lv_at hl 0 rfl) ?_
          refine va_get (D := D) (ci := 6) (v := .ref (w 7)) (C := RX6) (T := TX6) (N := 12) hx hb hts hI_X6 hown hK hP 0 rfl rfl 9 (by decide) gf30 (fun _ h9 => h9) rfl dX6_pass_54 ?_
          refine lv_iload_n hx hb dX6_pass_57 rfl (lv_at hl 3 rfl) ?_
          refine lv_iconst (v := 1) hx hb dX6_pass_58 (by decide) ?_
          refine lv_iadd hx hb dX6_pass_59 ?_
          refine lv_iload_n hx hb dX6_pass_60 rfl (lv_at hl 3 rfl) ?_
          obtain ⟨h10, hf⟩ := ogd hf
          refine va_iast hx hb hK hP (hD.addr rfl) hS 2 0 rfl rfl (ib_in h10) dX6_pass_61 (fun H locs hP _ hS => ?_)
          obtain ⟨h10a, eh10a⟩ : ∃ y : Nat → Int32, y = upd h9a (v3 + (1 : Int32)).toNatClampNeg v3 := ⟨_, rfl⟩
          replace hf := onm eh10a hf
          have hP : va_P D vwCl [oX6 w w_undos w_seed w_entries, aJ cJ (w 1) 3420 w_w, aI cI (w 7) 12 h10a, aJ cJ (w 8) 12 w_heldSort, aJ cJ (w 9) 12 w_heldNumber] H := by rw [eh10a]; exact hP
          refine lv_aload_n hx hb dX6_pass_62 rfl (lv_at hl 0 rfl) ?_
          refine lv_iload_n hx hb dX6_pass_63 rfl (lv_at hl 1 rfl) ?_
          obtain ⟨z11, hz11, hf⟩ := obd hf
          refine kwI (runV (As := [.int v1]) (rest := []) C0 hE hAb hP ((hD.weaken (fun _ _ _ h9 => hAb _ h9)).addr rfl) hS [0, 1, 2, 3, 4] (wc := [oX6 w w_undos w_seed w_entries, aJ cJ (w 1) 3420 w_w, aI cI (w 7) 12 h10a, aJ cJ (w 8) 12 w_heldSort, aJ cJ (w 9) 12 w_heldNumber]) (by decide) rfl 0 rfl rfl (c_X6_moves l D cI cJ cZ cQ bs H.size w w_undos w_seed w_entries w_w h10a w_heldSort w_heldNumber v1 z11 hz11) (cwV 1 hts gX6_pass_X6_moves rfl rfl rfl (by decide +kernel) ⟨Nat.le_of_ble_eq_true rfl, Nat.le_of_ble_eq_true rfl⟩) rfl hl.1 rfl (Nat.le_of_ble_eq_true rfl) dX6_pass_64 ⟨Nat.le_of_ble_eq_true rfl, Nat.le_of_ble_eq_true rfl⟩) hS hP (hD.addr rfl) hA [0, 1, 2, 3, 4] rfl rfl (ws' := [oX6 w w_undos w_seed w_entries, aJ cJ (w 1) 3420 z11.2.1, aI cI (w 7) 12 h10a, aJ cJ (w 8) 12 z11.2.2.1, aJ cJ (w 9) 12 z11.2.2.2]) rfl rfl (fun H locs hP hS => ?_)
          refine lv_pop hx hb dX6_pass_67 rfl ?_
          obtain ⟨y12, ey12⟩ : ∃ y : Int32, y = v2 + 1 := ⟨_, rfl⟩
          replace hf := onm ey12 hf
          refine lv_iinc (v := y12) (lv' := [(2, .int y12), (0, .ref (w 0)), (1, .int v1), (3, .int v3)]) hx hb dX6_pass_68 hl (k := 2) rfl (by rw [ey12]; rfl) (by decide) rfl (fun ls hl => ?_)
          obtain ⟨y13, ey13⟩ : ∃ y : Int32, y = v3 + 1 := ⟨_, rfl⟩
          replace hf := onm ey13 hf
          refine lv_iinc (v := y13) (lv' := [(3, .int y13), (2, .int y12), (0, .ref (w 0)), (1, .int v1)]) hx hb dX6_pass_71 hl (k := 3) rfl (by rw [ey13]; rfl) (by decide) rfl (fun ls hl => ?_)
          refine lv_goto (tgt := 21) hx hb dX6_pass_74 (by decide) ?_
          exact ih v1 y12 y13 z11.2.1 w_undos h10a z11.2.2.1 z11.2.2.2 H locs ls z hP hS (lv_sub hl [2, 3, 1, 0] rfl) hf K
  unfold f_X6_pass at hf
  have go : ∀ (H : Heap) (locs : List Loc), va_P D vwCl [oX6 w w_undos w_seed w_entries, aJ cJ (w 1) 3420 w_w, aI cI (w 7) 12 w_from, aJ cJ (w 8) 12 w_heldSort, aJ cJ (w 9) 12 w_heldNumber] H → va_S A s.heap H locs → W p l e { frames := 6, cells := 0, slots := 0, locals := 152 } s m args below meth c H locs 0 0 (MQ below (QwI D zr (fun u => [oX6 w u.2.1 w_seed w_entries, aJ cJ (w 1) 3420 u.1, aI cI (w 7) 12 u.2.2.1, aJ cJ (w 8) 12 u.2.2.2.1, aJ cJ (w 9) 12 u.2.2.2.2]) A) args s 0 0 A) (F0 m 0 ls []) := by
    intro H locs hP hS
    refine lv_aload_n hx hb dX6_pass_0 rfl (lv_at hl 0 rfl) ?_
    obtain ⟨z1, hz1, hf⟩ := obd hf
    refine kI (runV (As := []) (rest := []) C0 hE hAb hP ((hD.weaken (fun _ _ _ h9 => hAb _ h9)).addr rfl) hS [0, 1] (wc := [oX6 w w_undos w_seed w_entries, aJ cJ (w 1) 3420 w_w]) (by decide) rfl 0 rfl rfl (c_X6_places l D cI cJ cZ cQ bs H.size w w_undos w_seed w_entries w_w z1 hz1) (cwV 0 hts gX6_pass_X6_places rfl rfl rfl (by decide +kernel) ⟨Nat.le_of_ble_eq_true rfl, Nat.le_of_ble_eq_true rfl⟩) rfl hl.1 rfl (Nat.le_of_ble_eq_true rfl) dX6_pass_1 ⟨Nat.le_of_ble_eq_true rfl, Nat.le_of_ble_eq_true rfl⟩) hS hP (fun H locs hP hS => ?_)
    refine lv_istore_n (lv' := [(1, .int z1), (0, .ref (w 0))]) hx hb dX6_pass_4 rfl hl (by decide) rfl (fun ls hl => ?_)
    refine lv_iload_n hx hb dX6_pass_5 rfl (lv_at hl 0 rfl) ?_
    refine lv_iconst (v := (-1)) hx hb dX6_pass_6 (by decide) ?_
    refine lv_icmp_ne (tgt := 13) hx hb dX6_pass_7 (by decide) (fun c2 => ?_) (fun c2 => ?_)
    · replace hf := oel c2 hf
      refine lv_aload_n hx hb dX6_pass_13 rfl (lv_at hl 1 rfl) ?_
      obtain ⟨z3, hz3, hf⟩ := obd hf
      refine kwV (runV (As := []) (rest := []) C0 hE hAb hP ((hD.weaken (fun _ _ _ h9 => hAb _ h9)).addr rfl) hS [0, 1] (wc := [oX6 w w_undos w_seed w_entries, aJ cJ (w 1) 3420 w_w]) (by decide) rfl 0 rfl rfl (c_X6_minds l D cI cJ cZ cQ bs H.size w w_undos w_seed w_entries w_w z3 hz3) (cwV 0 hts gX6_pass_X6_minds rfl rfl rfl (by decide +kernel) ⟨Nat.le_of_ble_eq_true rfl, Nat.le_of_ble_eq_true rfl⟩) rfl hl.1 rfl (Nat.le_of_ble_eq_true rfl) dX6_pass_14 ⟨Nat.le_of_ble_eq_true rfl, Nat.le_of_ble_eq_true rfl⟩) hS hP (hD.addr rfl) hA [0, 1] rfl rfl (ws' := [oX6 w z3.2 w_seed w_entries, aJ cJ (w 1) 3420 z3.1, aI cI (w 7) 12 w_from, aJ cJ (w 8) 12 w_heldSort, aJ cJ (w 9) 12 w_heldNumber]) rfl rfl (fun H locs hP hS => ?_)
      refine lv_iconst (v := 0) hx hb dX6_pass_17 (by decide) ?_
      refine lv_istore_n (lv' := [(2, .int 0), (1, .int z1), (0, .ref (w 0))]) hx hb dX6_pass_18 rfl hl (by decide) rfl (fun ls hl => ?_)
      refine lv_iconst (v := 0) hx hb dX6_pass_19 (by decide) ?_
      refine lv_istore_n (lv' := [(3, .int 0), (2, .int 0), (1, .int z1), (0, .ref (w 0))]) hx hb dX6_pass_20 rfl hl (by decide) rfl (fun ls hl => ?_)
      obtain ⟨z14, hz14, hf⟩ := obd hf
      refine W21 4000 z1 0 0 z3.1 z3.2 w_from w_heldSort w_heldNumber H locs ls z14 hP hS (lv_sub hl [3, 2, 1, 0] rfl) hz14 (fun H locs ls hP hS hl => ?_)
      refine lv_iload_n hx hb dX6_pass_77 rfl (lv_at hl 0 rfl) ?_
      have er := Option.some.inj hf
      exact rwI (wm := (fun u => [oX6 w u.2.1 w_seed w_entries, aJ cJ (w 1) 3420 u.1, aI cI (w 7) 12 u.2.2.1, aJ cJ (w 8) 12 u.2.2.2.1, aJ cJ (w 9) 12 u.2.2.2.2])) hx hb hr hS dX6_pass_78 hP er hlocks
    · replace hf := oif c2 hf
      refine lv_ldc hx hb hown gk246 dX6_pass_10 ?_
      have er := Option.some.inj hf
      exact rwI (wm := (fun u => [oX6 w u.2.1 w_seed w_entries, aJ cJ (w 1) 3420 u.1, aI cI (w 7) 12 u.2.2.1, aJ cJ (w 8) 12 u.2.2.2.1, aJ cJ (w 9) 12 u.2.2.2.2])) hx hb hr hS dX6_pass_12 hP er hlocks
  exact go s.heap [] hP hS
noncomputable def L_X6_move_78 (v1 : Int32) (v2 : Int32) (v3 : Int32) (v6 : Int32) : Nat → Int32 → (Nat → Int32) → Option ((Nat → Int32))
  | 0, _, _ => none
  | n + 1, v7, w_from => if v6 < v7 then (some (w_from)) else (if v7 = v2 then (if v3 = 2 then (if ib v7 12 = true then ((some (upd w_from v7.toNatClampNeg v1 : Nat → Int32)).bind (fun h55a => (some (v7 + 1 : Int32)).bind (fun y56 => L_X6_move_78 v1 v2 v3 v6 n y56 h55a))) else none) else (if v3 = 1 then (if ib v7 12 = true then ((some (upd w_from v7.toNatClampNeg ((v1 + v2) - v7) : Nat → Int32)).bind (fun h45a => (some (v7 + 1 : Int32)).bind (fun y46 => L_X6_move_78 v1 v2 v3 v6 n y46 h45a))) else none) else (if v7 = v1 then (if ib v7 12 = true then ((some (upd w_from v7.toNatClampNeg ((v1 + v2) - v7) : Nat → Int32)).bind (fun h48a => (some (v7 + 1 : Int32)).bind (fun y49 => L_X6_move_78 v1 v2 v3 v6 n y49 h48a))) else none) else (if v7 = v2 then (if ib v7 12 = true then ((some (upd w_from v7.toNatClampNeg ((v1 + v2) - v7) : Nat → Int32)).bind (fun h53a => (some (v7 + 1 : Int32)).bind (fun y54 => L_X6_move_78 v1 v2 v3 v6 n y54 h53a))) else none) else (if ib v7 12 = true then ((some (upd w_from v7.toNatClampNeg v7 : Nat → Int32)).bind (fun h51a => (some (v7 + 1 : Int32)).bind (fun y52 => L_X6_move_78 v1 v2 v3 v6 n y52 h51a))) else none))))) else (if v2 ≤ v1 then (if v3 = 2 then (if ib v7 12 = true then ((some (upd w_from v7.toNatClampNeg (v7 - (1 : Int32)) : Nat → Int32)).bind (fun h27a => (some (v7 + 1 : Int32)).bind (fun y28 => L_X6_move_78 v1 v2 v3 v6 n y28 h27a))) else none) else (if v3 = 1 then (if ib v7 12 = true then ((some (upd w_from v7.toNatClampNeg ((v1 + v2) - v7) : Nat → Int32)).bind (fun h17a => (some (v7 + 1 : Int32)).bind (fun y18 => L_X6_move_78 v1 v2 v3 v6 n y18 h17a))) else none) else (if v7 = v1 then (if ib v7 12 = true then ((some (upd w_from v7.toNatClampNeg ((v1 + v2) - v7) : Nat → Int32)).bind (fun h20a => (some (v7 + 1 : Int32)).bind (fun y21 => L_X6_move_78 v1 v2 v3 v6 n y21 h20a))) else none) else (if v7 = v2 then (if ib v7 12 = true then ((some (upd w_from v7.toNatClampNeg ((v1 + v2) - v7) : Nat → Int32)).bind (fun h25a => (some (v7 + 1 : Int32)).bind (fun y26 => L_X6_move_78 v1 v2 v3 v6 n y26 h25a))) else none) else (if ib v7 12 = true then ((some (upd w_from v7.toNatClampNeg v7 : Nat → Int32)).bind (fun h23a => (some (v7 + 1 : Int32)).bind (fun y24 => L_X6_move_78 v1 v2 v3 v6 n y24 h23a))) else none))))) else (if v3 = 2 then (if ib v7 12 = true then ((some (upd w_from v7.toNatClampNeg (v7 + (1 : Int32)) : Nat → Int32)).bind (fun h41a => (some (v7 + 1 : Int32)).bind (fun y42 => L_X6_move_78 v1 v2 v3 v6 n y42 h41a))) else none) else (if v3 = 1 then (if ib v7 12 = true then ((some (upd w_from v7.toNatClampNeg ((v1 + v2) - v7) : Nat → Int32)).bind (fun h31a => (some (v7 + 1 : Int32)).bind (fun y32 => L_X6_move_78 v1 v2 v3 v6 n y32 h31a))) else none) else (if v7 = v1 then (if ib v7 12 = true then ((some (upd w_from v7.toNatClampNeg ((v1 + v2) - v7) : Nat → Int32)).bind (fun h34a => (some (v7 + 1 : Int32)).bind (fun y35 => L_X6_move_78 v1 v2 v3 v6 n y35 h34a))) else none) else (if v7 = v2 then (if ib v7 12 = true then ((some (upd w_from v7.toNatClampNeg ((v1 + v2) - v7) : Nat → Int32)).bind (fun h39a => (some (v7 + 1 : Int32)).bind (fun y40 => L_X6_move_78 v1 v2 v3 v6 n y40 h39a))) else none) else (if ib v7 12 = true then ((some (upd w_from v7.toNatClampNeg v7 : Nat → Int32)).bind (fun h37a => (some (v7 + 1 : Int32)).bind (fun y38 => L_X6_move_78 v1 v2 v3 v6 n y38 h37a))) else none)))))))
noncomputable def f_X6_move (w_w : Nat → Int64) (w_undos : Int32) (w_from : Nat → Int32) (w_heldSort : Nat → Int64) (w_heldNumber : Nat → Int64) (x1 : Int32) (x2 : Int32) (x3 : Int32) : Option (Int32 × (Nat → Int64) × Int32 × (Nat → Int32) × (Nat → Int64) × (Nat → Int64)) := (f_X6_isPlace w_w x1).bind (fun z1 => if z1 = 0 then (some (((-1000000001), w_w, w_undos, w_from, w_heldSort, w_heldNumber))) else ((f_X6_isPlace w_w x2).bind (fun z3 => if z3 = 0 then (some (((-1000000001), w_w, w_undos, w_from, w_heldSort, w_heldNumber))) else ((f_X6_in (Int32.toInt64 x3) 0 2).bind (fun z5 => if z5 = 0 then (some (((-1000000002), w_w, w_undos, w_from, w_heldSort, w_heldNumber))) else ((f_X6_minds w_w w_undos).bind (fun z7 => (f_X6_places z7.1).bind (fun z8 => if x2 ≤ x1 then (if x2 ≤ x1 then ((f_X6_stays w_from z8).bind (fun z11 => (L_X6_move_78 x1 x2 x3 x1 4000 x2 z11).bind (fun z57 => (f_X6_moves z7.1 z57 w_heldSort w_heldNumber z8).bind (fun z58 => some ((1, z58.2.1, z7.2, z57, z58.2.2.1, z58.2.2.2)))))) else ((f_X6_stays w_from z8).bind (fun z59 => (L_X6_move_78 x1 x2 x3 x2 4000 x2 z59).bind (fun z60 => (f_X6_moves z7.1 z60 w_heldSort w_heldNumber z8).bind (fun z61 => some ((1, z61.2.1, z7.2, z60, z61.2.2.1, z61.2.2.2))))))) else (if x2 ≤ x1 then ((f_X6_stays w_from z8).bind (fun z63 => (L_X6_move_78 x1 x2 x3 x1 4000 x1 z63).bind (fun z64 => (f_X6_moves z7.1 z64 w_heldSort w_heldNumber z8).bind (fun z65 => some ((1, z65.2.1, z7.2, z64, z65.2.2.1, z65.2.2.2)))))) else ((f_X6_stays w_from z8).bind (fun z66 => (L_X6_move_78 x1 x2 x3 x2 4000 x1 z66).bind (fun z67 => (f_X6_moves z7.1 z67 w_heldSort w_heldNumber z8).bind (fun z68 => some ((1, z68.2.1, z7.2, z67, z68.2.2.1, z68.2.2.2)))))))))))))))
set_option maxHeartbeats 4000000 in
set_option maxRecDepth 100000 in
theorem c_X6_move (l : Launch) (D : va_G) (cI cJ cZ cQ : ClassId) (bs sz : Nat) (w : Nat → Nat) (w_undos : Int32) (w_seed : Int32) (w_entries : Int32) (w_w : Nat → Int64) (w_from : Nat → Int32) (w_heldSort : Nat → Int64) (w_heldNumber : Nat → Int64) (x1 : Int32) (x2 : Int32) (x3 : Int32) (zr : Int32 × (Nat → Int64) × Int32 × (Nat → Int32) × (Nat → Int64) × (Nat → Int64)) (hf : f_X6_move w_w w_undos w_from w_heldSort w_heldNumber x1 x2 x3 = some zr) : Met l yX6_move wsX6_move { frames := 4, cells := 0, slots := 0, locals := 87 } (va_Pc [.ref (w 0), .int x1, .int x2, .int x3] (Pr D cI cJ cZ cQ bs sz [oX6 w w_undos w_seed w_entries, aJ cJ (w 1) 3420 w_w, aI cI (w 7) 12 w_from, aJ cJ (w 8) 12 w_heldSort, aJ cJ (w 9) 12 w_heldNumber])) (QwI D zr (fun u => [oX6 w u.2.1 w_seed w_entries, aJ cJ (w 1) 3420 u.1, aI cI (w 7) 12 u.2.2.1, aJ cJ (w 8) 12 u.2.2.2.1, aJ cJ (w 9) 12 u.2.2.2.2]) (va_A [oX6 w w_undos w_seed w_entries, aJ cJ (w 1) 3420 w_w, aI cI (w 7) 12 w_from, aJ cJ (w 8) 12 w_heldSort, aJ cJ (w 9) 12 w_heldNumber] sz)) 0 0 (va_A [oX6 w w_undos w_seed w_entries, aJ cJ (w 1) 3420 w_w, aI cI (w 7) 12 w_from, aJ cJ (w 8) 12 w_heldSort, aJ cJ (w 9) 12 w_heldNumber] sz) := by
  refine stW (cc := cX6_move) (maxL := 9) (ret := (some .int)) (Qf := fun A => (QwI D zr (fun u => [oX6 w u.2.1 w_seed w_entries, aJ cJ (w 1) 3420 u.1, aI cI (w 7) 12 u.2.2.1, aJ cJ (w 8) 12 u.2.2.2.1, aJ cJ (w 9) 12 u.2.2.2.2]) A)) (by decide +kernel) rfl (Nat.le_of_ble_eq_true rfl) ?_
  intro p e s m args below meth c A C0 hr hlocks hname hsz hP hD hA hAb hE ls hl
  obtain ⟨hx, hb, hml, hown, hts⟩ := id C0
  have hown : s.vm.findClass RX6 = some m.cls := hown
  obtain ⟨hK, hNW, -, tw, hZ, hT⟩ := id hE
  have hl : lv_has ls 9 [(0, .ref (w 0)), (1, .int x1), (2, .int x2), (3, .int x3)] := hl
  have hS : va_S A s.heap s.heap [] := va_S.rf
  have gk198 := hts (.constant RX6 198 (-1000000001)) (by decide +kernel)
  have gk51 := hts (.constantLong RX6 51 (2)) (by decide +kernel)
  have hI_X6 := (show ∀ w ∈ wsX60, w ∈ wsX6_move by decide +kernel)
  have gf30 := hts (.fieldLink RX6 30 "RowRanksModel" "from" "[I") (by decide +kernel)
  have gk192 := hts (.constant RX6 192 (-1000000002)) (by decide +kernel)
  have W78 : ∀ (n : Nat) (v1 : Int32) (v2 : Int32) (v3 : Int32) (v4 : Int32) (v6 : Int32) (v7 : Int32) (w_w : Nat → Int64) (w_undos : Int32) (w_from : Nat → Int32) (w_heldSort : Nat → Int64) (w_heldNumber : Nat → Int64) (H : Heap) (locs : List Loc) (ls : Array Slot) (z : (Nat → Int32)), va_P D vwCl [oX6 w w_undos w_seed w_entries, aJ cJ (w 1) 3420 w_w, aI cI (w 7) 12 w_from, aJ cJ (w 8) 12 w_heldSort, aJ cJ (w 9) 12 w_heldNumber] H → va_S A s.heap H locs → lv_has ls 9 [(0, .ref (w 0)), (1, .int v1), (2, .int v2), (3, .int v3), (4, .int v4), (6, .int v6), (7, .int v7)] → L_X6_move_78 v1 v2 v3 v6 n v7 w_from = some z → (∀ (H : Heap) (locs : List Loc) (ls : Array Slot), va_P D vwCl [oX6 w w_undos w_seed w_entries, aJ cJ (w 1) 3420 w_w, aI cI (w 7) 12 z, aJ cJ (w 8) 12 w_heldSort, aJ cJ (w 9) 12 w_heldNumber] H → va_S A s.heap H locs → lv_has ls 9 [(0, .ref (w 0)), (4, .int v4)] → W p l e { frames := 4, cells := 0, slots := 0, locals := 87 } s m args below meth c H locs 0 0 (MQ below (QwI D zr (fun u => [oX6 w u.2.1 w_seed w_entries, aJ cJ (w 1) 3420 u.1, aI cI (w 7) 12 u.2.2.1, aJ cJ (w 8) 12 u.2.2.2.1, aJ cJ (w 9) 12 u.2.2.2.2]) A) args s 0 0 A) (F0 m 164 ls [])) → W p l e { frames := 4, cells := 0, slots := 0, locals := 87 } s m args below meth c H locs 0 0 (MQ below (QwI D zr (fun u => [oX6 w u.2.1 w_seed w_entries, aJ cJ (w 1) 3420 u.1, aI cI (w 7) 12 u.2.2.1, aJ cJ (w 8) 12 u.2.2.2.1, aJ cJ (w 9) 12 u.2.2.2.2]) A) args s 0 0 A) (F0 m 78 ls []) := by
    intro n
    induction n with
    | zero =>
      intro v1 v2 v3 v4 v6 v7 w_w w_undos w_from w_heldSort w_heldNumber H locs ls z hP hS hl hf
      exact absurd (show (none : Option ((Nat → Int32))) = some z from hf) (fun h => by cases h)
    | succ n ih =>
      intro v1 v2 v3 v4 v6 v7 w_w w_undos w_from w_heldSort w_heldNumber H locs ls z hP hS hl hf K
      rw [L_X6_move_78] at hf
      refine lv_iload hx hb dX6_move_78 (lv_at hl 6 rfl) ?_
      refine lv_iload hx hb dX6_move_80 (lv_at hl 5 rfl) ?_
      refine lv_icmp_gt (tgt := 164) hx hb dX6_move_82 (by decide) (fun c12 => ?_) (fun c12 => ?_)
      · replace hf := oif c12 hf
        have hf := Option.some.inj hf
        subst hf
        exact K H locs ls hP hS (lv_sub hl [0, 4] rfl)
      · replace hf := oel c12 hf
        refine lv_iload hx hb dX6_move_85 (lv_at hl 6 rfl) ?_
        refine lv_iload_n hx hb dX6_move_87 rfl (lv_at hl 2 rfl) ?_
        refine lv_icmp_ne (tgt := 95) hx hb dX6_move_88 (by decide) (fun c13 => ?_) (fun c13 => ?_)
        · replace hf := oel c13 hf
          refine lv_iload_n hx hb dX6_move_95 rfl (lv_at hl 1 rfl) ?_
          refine lv_iload_n hx hb dX6_move_96 rfl (lv_at hl 2 rfl) ?_
          refine lv_icmp_ge (tgt := 107) hx hb dX6_move_97 (by decide) (fun c14 => ?_) (fun c14 => ?_)
          · replace hf := oif c14 hf
            refine lv_iload hx hb dX6_move_107 (lv_at hl 6 rfl) ?_
            refine lv_iconst (v := 1) hx hb dX6_move_109 (by decide) ?_
            refine lv_isub hx hb dX6_move_110 ?_
            refine lv_istore (lv' := [(8, .int (v7 - (1 : Int32))), (0, .ref (w 0)), (1, .int v1), (2, .int v2), (3, .int v3), (4, .int v4), (6, .int v6), (7, .int v7)]) hx hb dX6_move_111 hl (by decide) rfl (fun ls hl => ?_)
            refine lv_aload_n hx hb dX6_move_113 rfl (lv_at hl 1 rfl) ?_
            refine va_get (D := D) (ci := 6) (v := .ref (w 7)) (C := RX6) (T := TX6) (N := 12) hx hb hts hI_X6 hown hK hP 0 rfl rfl 9 (by decide) gf30 (fun _ h9 => h9) rfl dX6_move_114 ?_
            refine lv_iload hx hb dX6_move_117 (lv_at hl 7 rfl) ?_
            refine lv_iload_n hx hb dX6_move_119 rfl (lv_at hl 4 rfl) ?_
            refine lv_iconst (v := 2) hx hb dX6_move_120 (by decide) ?_
            refine lv_icmp_ne (tgt := 129) hx hb dX6_move_121 (by decide) (fun c15 => ?_) (fun c15 => ?_)
            · replace hf := oel c15 hf
              refine lv_iload_n hx hb dX6_move_129 rfl (lv_at hl 4 rfl) ?_
              refine lv_iconst (v := 1) hx hb dX6_move_130 (by decide) ?_
              refine lv_icmp_eq (tgt := 146) hx hb dX6_move_131 (by decide) (fun c16 => ?_) (fun c16 => ?_)
              · replace hf := oif c16 hf
                refine lv_iload_n hx hb dX6_move_146 rfl (lv_at hl 2 rfl) ?_
                refine lv_iload_n hx hb dX6_move_147 rfl (lv_at hl 3 rfl) ?_
                refine lv_iadd hx hb dX6_move_148 ?_
                refine lv_iload hx hb dX6_move_149 (lv_at hl 7 rfl) ?_
                refine lv_isub hx hb dX6_move_151 ?_
                refine lv_goto (tgt := 157) hx hb dX6_move_152 (by decide) ?_
                obtain ⟨h17, hf⟩ := ogd hf
                refine va_iast hx hb hK hP (hD.addr rfl) hS 2 0 rfl rfl (ib_in h17) dX6_move_157 (fun H locs hP _ hS => ?_)
                obtain ⟨h17a, eh17a⟩ : ∃ y : Nat → Int32, y = upd w_from v7.toNatClampNeg ((v1 + v2) - v7) := ⟨_, rfl⟩
                replace hf := onm eh17a hf
                have hP : va_P D vwCl [oX6 w w_undos w_seed w_entries, aJ cJ (w 1) 3420 w_w, aI cI (w 7) 12 h17a, aJ cJ (w 8) 12 w_heldSort, aJ cJ (w 9) 12 w_heldNumber] H := by rw [eh17a]; exact hP
                obtain ⟨y18, ey18⟩ : ∃ y : Int32, y = v7 + 1 := ⟨_, rfl⟩
                replace hf := onm ey18 hf
                refine lv_iinc (v := y18) (lv' := [(7, .int y18), (8, .int (v7 - (1 : Int32))), (0, .ref (w 0)), (1, .int v1), (2, .int v2), (3, .int v3), (4, .int v4), (6, .int v6)]) hx hb dX6_move_158 hl (k := 7) rfl (by rw [ey18]; rfl) (by decide) rfl (fun ls hl => ?_)
                refine lv_goto (tgt := 78) hx hb dX6_move_161 (by decide) ?_
                exact ih v1 v2 v3 v4 v6 y18 w_w w_undos h17a w_heldSort w_heldNumber H locs ls z hP hS (lv_sub hl [2, 3, 4, 5, 6, 7, 0] rfl) hf K
              · replace hf := oel c16 hf
                refine lv_iload hx hb dX6_move_134 (lv_at hl 7 rfl) ?_
                refine lv_iload_n hx hb dX6_move_136 rfl (lv_at hl 2 rfl) ?_
                refine lv_icmp_eq (tgt := 146) hx hb dX6_move_137 (by decide) (fun c19 => ?_) (fun c19 => ?_)
                · replace hf := oif c19 hf
                  refine lv_iload_n hx hb dX6_move_146 rfl (lv_at hl 2 rfl) ?_
                  refine lv_iload_n hx hb dX6_move_147 rfl (lv_at hl 3 rfl) ?_
                  refine lv_iadd hx hb dX6_move_148 ?_
                  refine lv_iload hx hb dX6_move_149 (lv_at hl 7 rfl) ?_
                  refine lv_isub hx hb dX6_move_151 ?_
                  refine lv_goto (tgt := 157) hx hb dX6_move_152 (by decide) ?_
                  obtain ⟨h20, hf⟩ := ogd hf
                  refine va_iast hx hb hK hP (hD.addr rfl) hS 2 0 rfl rfl (ib_in h20) dX6_move_157 (fun H locs hP _ hS => ?_)
                  obtain ⟨h20a, eh20a⟩ : ∃ y : Nat → Int32, y = upd w_from v7.toNatClampNeg ((v1 + v2) - v7) := ⟨_, rfl⟩
                  replace hf := onm eh20a hf
                  have hP : va_P D vwCl [oX6 w w_undos w_seed w_entries, aJ cJ (w 1) 3420 w_w, aI cI (w 7) 12 h20a, aJ cJ (w 8) 12 w_heldSort, aJ cJ (w 9) 12 w_heldNumber] H := by rw [eh20a]; exact hP
                  obtain ⟨y21, ey21⟩ : ∃ y : Int32, y = v7 + 1 := ⟨_, rfl⟩
                  replace hf := onm ey21 hf
                  refine lv_iinc (v := y21) (lv' := [(7, .int y21), (8, .int (v7 - (1 : Int32))), (0, .ref (w 0)), (1, .int v1), (2, .int v2), (3, .int v3), (4, .int v4), (6, .int v6)]) hx hb dX6_move_158 hl (k := 7) rfl (by rw [ey21]; rfl) (by decide) rfl (fun ls hl => ?_)
                  refine lv_goto (tgt := 78) hx hb dX6_move_161 (by decide) ?_
                  exact ih v1 v2 v3 v4 v6 y21 w_w w_undos h20a w_heldSort w_heldNumber H locs ls z hP hS (lv_sub hl [2, 3, 4, 5, 6, 7, 0] rfl) hf K
                · replace hf := oel c19 hf
                  refine lv_iload hx hb dX6_move_140 (lv_at hl 7 rfl) ?_
                  refine lv_iload_n hx hb dX6_move_142 rfl (lv_at hl 3 rfl) ?_
                  refine lv_icmp_ne (tgt := 155) hx hb dX6_move_143 (by decide) (fun c22 => ?_) (fun c22 => ?_)
                  · replace hf := oel c22 hf
                    refine lv_iload hx hb dX6_move_155 (lv_at hl 7 rfl) ?_
                    obtain ⟨h23, hf⟩ := ogd hf
                    refine va_iast hx hb hK hP (hD.addr rfl) hS 2 0 rfl rfl (ib_in h23) dX6_move_157 (fun H locs hP _ hS => ?_)
                    obtain ⟨h23a, eh23a⟩ : ∃ y : Nat → Int32, y = upd w_from v7.toNatClampNeg v7 := ⟨_, rfl⟩
                    replace hf := onm eh23a hf
                    have hP : va_P D vwCl [oX6 w w_undos w_seed w_entries, aJ cJ (w 1) 3420 w_w, aI cI (w 7) 12 h23a, aJ cJ (w 8) 12 w_heldSort, aJ cJ (w 9) 12 w_heldNumber] H := by rw [eh23a]; exact hP
                    obtain ⟨y24, ey24⟩ : ∃ y : Int32, y = v7 + 1 := ⟨_, rfl⟩
                    replace hf := onm ey24 hf
                    refine lv_iinc (v := y24) (lv' := [(7, .int y24), (8, .int (v7 - (1 : Int32))), (0, .ref (w 0)), (1, .int v1), (2, .int v2), (3, .int v3), (4, .int v4), (6, .int v6)]) hx hb dX6_move_158 hl (k := 7) rfl (by rw [ey24]; rfl) (by decide) rfl (fun ls hl => ?_)
                    refine lv_goto (tgt := 78) hx hb dX6_move_161 (by decide) ?_
                    exact ih v1 v2 v3 v4 v6 y24 w_w w_undos h23a w_heldSort w_heldNumber H locs ls z hP hS (lv_sub hl [2, 3, 4, 5, 6, 7, 0] rfl) hf K
                  · replace hf := oif c22 hf
                    refine lv_iload_n hx hb dX6_move_146 rfl (lv_at hl 2 rfl) ?_
                    refine lv_iload_n hx hb dX6_move_147 rfl (lv_at hl 3 rfl) ?_
                    refine lv_iadd hx hb dX6_move_148 ?_
                    refine lv_iload hx hb dX6_move_149 (lv_at hl 7 rfl) ?_
                    refine lv_isub hx hb dX6_move_151 ?_
                    refine lv_goto (tgt := 157) hx hb dX6_move_152 (by decide) ?_
                    obtain ⟨h25, hf⟩ := ogd hf
                    refine va_iast hx hb hK hP (hD.addr rfl) hS 2 0 rfl rfl (ib_in h25) dX6_move_157 (fun H locs hP _ hS => ?_)
                    obtain ⟨h25a, eh25a⟩ : ∃ y : Nat → Int32, y = upd w_from v7.toNatClampNeg ((v1 + v2) - v7) := ⟨_, rfl⟩
                    replace hf := onm eh25a hf
                    have hP : va_P D vwCl [oX6 w w_undos w_seed w_entries, aJ cJ (w 1) 3420 w_w, aI cI (w 7) 12 h25a, aJ cJ (w 8) 12 w_heldSort, aJ cJ (w 9) 12 w_heldNumber] H := by rw [eh25a]; exact hP
                    obtain ⟨y26, ey26⟩ : ∃ y : Int32, y = v7 + 1 := ⟨_, rfl⟩
                    replace hf := onm ey26 hf
                    refine lv_iinc (v := y26) (lv' := [(7, .int y26), (8, .int (v7 - (1 : Int32))), (0, .ref (w 0)), (1, .int v1), (2, .int v2), (3, .int v3), (4, .int v4), (6, .int v6)]) hx hb dX6_move_158 hl (k := 7) rfl (by rw [ey26]; rfl) (by decide) rfl (fun ls hl => ?_)
                    refine lv_goto (tgt := 78) hx hb dX6_move_161 (by decide) ?_
                    exact ih v1 v2 v3 v4 v6 y26 w_w w_undos h25a w_heldSort w_heldNumber H locs ls z hP hS (lv_sub hl [2, 3, 4, 5, 6, 7, 0] rfl) hf K
            · replace hf := oif c15 hf
              refine lv_iload hx hb dX6_move_124 (lv_at hl 0 rfl) ?_
              refine lv_goto (tgt := 157) hx hb dX6_move_126 (by decide) ?_
              obtain ⟨h27, hf⟩ := ogd hf
              refine va_iast hx hb hK hP (hD.addr rfl) hS 2 0 rfl rfl (ib_in h27) dX6_move_157 (fun H locs hP _ hS => ?_)
              obtain ⟨h27a, eh27a⟩ : ∃ y : Nat → Int32, y = upd w_from v7.toNatClampNeg (v7 - (1 : Int32)) := ⟨_, rfl⟩
              replace hf := onm eh27a hf
              have hP : va_P D vwCl [oX6 w w_undos w_seed w_entries, aJ cJ (w 1) 3420 w_w, aI cI (w 7) 12 h27a, aJ cJ (w 8) 12 w_heldSort, aJ cJ (w 9) 12 w_heldNumber] H := by rw [eh27a]; exact hP
              obtain ⟨y28, ey28⟩ : ∃ y : Int32, y = v7 + 1 := ⟨_, rfl⟩
              replace hf := onm ey28 hf
              refine lv_iinc (v := y28) (lv' := [(7, .int y28), (8, .int (v7 - (1 : Int32))), (0, .ref (w 0)), (1, .int v1), (2, .int v2), (3, .int v3), (4, .int v4), (6, .int v6)]) hx hb dX6_move_158 hl (k := 7) rfl (by rw [ey28]; rfl) (by decide) rfl (fun ls hl => ?_)
              refine lv_goto (tgt := 78) hx hb dX6_move_161 (by decide) ?_
              exact ih v1 v2 v3 v4 v6 y28 w_w w_undos h27a w_heldSort w_heldNumber H locs ls z hP hS (lv_sub hl [2, 3, 4, 5, 6, 7, 0] rfl) hf K
          · replace hf := oel c14 hf
            refine lv_iload hx hb dX6_move_100 (lv_at hl 6 rfl) ?_
            refine lv_iconst (v := 1) hx hb dX6_move_102 (by decide) ?_
            refine lv_iadd hx hb dX6_move_103 ?_
            refine lv_goto (tgt := 111) hx hb dX6_move_104 (by decide) ?_
            refine lv_istore (lv' := [(8, .int (v7 + (1 : Int32))), (0, .ref (w 0)), (1, .int v1), (2, .int v2), (3, .int v3), (4, .int v4), (6, .int v6), (7, .int v7)]) hx hb dX6_move_111 hl (by decide) rfl (fun ls hl => ?_)
            refine lv_aload_n hx hb dX6_move_113 rfl (lv_at hl 1 rfl) ?_
            refine va_get (D := D) (ci := 6) (v := .ref (w 7)) (C := RX6) (T := TX6) (N := 12) hx hb hts hI_X6 hown hK hP 0 rfl rfl 9 (by decide) gf30 (fun _ h9 => h9) rfl dX6_move_114 ?_
            refine lv_iload hx hb dX6_move_117 (lv_at hl 7 rfl) ?_
            refine lv_iload_n hx hb dX6_move_119 rfl (lv_at hl 4 rfl) ?_
            refine lv_iconst (v := 2) hx hb dX6_move_120 (by decide) ?_
            refine lv_icmp_ne (tgt := 129) hx hb dX6_move_121 (by decide) (fun c29 => ?_) (fun c29 => ?_)
            · replace hf := oel c29 hf
              refine lv_iload_n hx hb dX6_move_129 rfl (lv_at hl 4 rfl) ?_
              refine lv_iconst (v := 1) hx hb dX6_move_130 (by decide) ?_
              refine lv_icmp_eq (tgt := 146) hx hb dX6_move_131 (by decide) (fun c30 => ?_) (fun c30 => ?_)
              · replace hf := oif c30 hf
                refine lv_iload_n hx hb dX6_move_146 rfl (lv_at hl 2 rfl) ?_
                refine lv_iload_n hx hb dX6_move_147 rfl (lv_at hl 3 rfl) ?_
                refine lv_iadd hx hb dX6_move_148 ?_
                refine lv_iload hx hb dX6_move_149 (lv_at hl 7 rfl) ?_
                refine lv_isub hx hb dX6_move_151 ?_
                refine lv_goto (tgt := 157) hx hb dX6_move_152 (by decide) ?_
                obtain ⟨h31, hf⟩ := ogd hf
                refine va_iast hx hb hK hP (hD.addr rfl) hS 2 0 rfl rfl (ib_in h31) dX6_move_157 (fun H locs hP _ hS => ?_)
                obtain ⟨h31a, eh31a⟩ : ∃ y : Nat → Int32, y = upd w_from v7.toNatClampNeg ((v1 + v2) - v7) := ⟨_, rfl⟩
                replace hf := onm eh31a hf
                have hP : va_P D vwCl [oX6 w w_undos w_seed w_entries, aJ cJ (w 1) 3420 w_w, aI cI (w 7) 12 h31a, aJ cJ (w 8) 12 w_heldSort, aJ cJ (w 9) 12 w_heldNumber] H := by rw [eh31a]; exact hP
                obtain ⟨y32, ey32⟩ : ∃ y : Int32, y = v7 + 1 := ⟨_, rfl⟩
                replace hf := onm ey32 hf
                refine lv_iinc (v := y32) (lv' := [(7, .int y32), (8, .int (v7 + (1 : Int32))), (0, .ref (w 0)), (1, .int v1), (2, .int v2), (3, .int v3), (4, .int v4), (6, .int v6)]) hx hb dX6_move_158 hl (k := 7) rfl (by rw [ey32]; rfl) (by decide) rfl (fun ls hl => ?_)
                refine lv_goto (tgt := 78) hx hb dX6_move_161 (by decide) ?_
                exact ih v1 v2 v3 v4 v6 y32 w_w w_undos h31a w_heldSort w_heldNumber H locs ls z hP hS (lv_sub hl [2, 3, 4, 5, 6, 7, 0] rfl) hf K
              · replace hf := oel c30 hf
                refine lv_iload hx hb dX6_move_134 (lv_at hl 7 rfl) ?_
                refine lv_iload_n hx hb dX6_move_136 rfl (lv_at hl 2 rfl) ?_
                refine lv_icmp_eq (tgt := 146) hx hb dX6_move_137 (by decide) (fun c33 => ?_) (fun c33 => ?_)
                · replace hf := oif c33 hf
                  refine lv_iload_n hx hb dX6_move_146 rfl (lv_at hl 2 rfl) ?_
                  refine lv_iload_n hx hb dX6_move_147 rfl (lv_at hl 3 rfl) ?_
                  refine lv_iadd hx hb dX6_move_148 ?_
                  refine lv_iload hx hb dX6_move_149 (lv_at hl 7 rfl) ?_
                  refine lv_isub hx hb dX6_move_151 ?_
                  refine lv_goto (tgt := 157) hx hb dX6_move_152 (by decide) ?_
                  obtain ⟨h34, hf⟩ := ogd hf
                  refine va_iast hx hb hK hP (hD.addr rfl) hS 2 0 rfl rfl (ib_in h34) dX6_move_157 (fun H locs hP _ hS => ?_)
                  obtain ⟨h34a, eh34a⟩ : ∃ y : Nat → Int32, y = upd w_from v7.toNatClampNeg ((v1 + v2) - v7) := ⟨_, rfl⟩
                  replace hf := onm eh34a hf
                  have hP : va_P D vwCl [oX6 w w_undos w_seed w_entries, aJ cJ (w 1) 3420 w_w, aI cI (w 7) 12 h34a, aJ cJ (w 8) 12 w_heldSort, aJ cJ (w 9) 12 w_heldNumber] H := by rw [eh34a]; exact hP
                  obtain ⟨y35, ey35⟩ : ∃ y : Int32, y = v7 + 1 := ⟨_, rfl⟩
                  replace hf := onm ey35 hf
                  refine lv_iinc (v := y35) (lv' := [(7, .int y35), (8, .int (v7 + (1 : Int32))), (0, .ref (w 0)), (1, .int v1), (2, .int v2), (3, .int v3), (4, .int v4), (6, .int v6)]) hx hb dX6_move_158 hl (k := 7) rfl (by rw [ey35]; rfl) (by decide) rfl (fun ls hl => ?_)
                  refine lv_goto (tgt := 78) hx hb dX6_move_161 (by decide) ?_
                  exact ih v1 v2 v3 v4 v6 y35 w_w w_undos h34a w_heldSort w_heldNumber H locs ls z hP hS (lv_sub hl [2, 3, 4, 5, 6, 7, 0] rfl) hf K
                · replace hf := oel c33 hf
                  refine lv_iload hx hb dX6_move_140 (lv_at hl 7 rfl) ?_
                  refine lv_iload_n hx hb dX6_move_142 rfl (lv_at hl 3 rfl) ?_
                  refine lv_icmp_ne (tgt := 155) hx hb dX6_move_143 (by decide) (fun c36 => ?_) (fun c36 => ?_)
                  · replace hf := oel c36 hf
                    refine lv_iload hx hb dX6_move_155 (lv_at hl 7 rfl) ?_
                    obtain ⟨h37, hf⟩ := ogd hf
                    refine va_iast hx hb hK hP (hD.addr rfl) hS 2 0 rfl rfl (ib_in h37) dX6_move_157 (fun H locs hP _ hS => ?_)
                    obtain ⟨h37a, eh37a⟩ : ∃ y : Nat → Int32, y = upd w_from v7.toNatClampNeg v7 := ⟨_, rfl⟩
                    replace hf := onm eh37a hf
                    have hP : va_P D vwCl [oX6 w w_undos w_seed w_entries, aJ cJ (w 1) 3420 w_w, aI cI (w 7) 12 h37a, aJ cJ (w 8) 12 w_heldSort, aJ cJ (w 9) 12 w_heldNumber] H := by rw [eh37a]; exact hP
                    obtain ⟨y38, ey38⟩ : ∃ y : Int32, y = v7 + 1 := ⟨_, rfl⟩
                    replace hf := onm ey38 hf
                    refine lv_iinc (v := y38) (lv' := [(7, .int y38), (8, .int (v7 + (1 : Int32))), (0, .ref (w 0)), (1, .int v1), (2, .int v2), (3, .int v3), (4, .int v4), (6, .int v6)]) hx hb dX6_move_158 hl (k := 7) rfl (by rw [ey38]; rfl) (by decide) rfl (fun ls hl => ?_)
                    refine lv_goto (tgt := 78) hx hb dX6_move_161 (by decide) ?_
                    exact ih v1 v2 v3 v4 v6 y38 w_w w_undos h37a w_heldSort w_heldNumber H locs ls z hP hS (lv_sub hl [2, 3, 4, 5, 6, 7, 0] rfl) hf K
                  · replace hf := oif c36 hf
                    refine lv_iload_n hx hb dX6_move_146 rfl (lv_at hl 2 rfl) ?_
                    refine lv_iload_n hx hb dX6_move_147 rfl (lv_at hl 3 rfl) ?_
                    refine lv_iadd hx hb dX6_move_148 ?_
                    refine lv_iload hx hb dX6_move_149 (lv_at hl 7 rfl) ?_
                    refine lv_isub hx hb dX6_move_151 ?_
                    refine lv_goto (tgt := 157) hx hb dX6_move_152 (by decide) ?_
                    obtain ⟨h39, hf⟩ := ogd hf
                    refine va_iast hx hb hK hP (hD.addr rfl) hS 2 0 rfl rfl (ib_in h39) dX6_move_157 (fun H locs hP _ hS => ?_)
                    obtain ⟨h39a, eh39a⟩ : ∃ y : Nat → Int32, y = upd w_from v7.toNatClampNeg ((v1 + v2) - v7) := ⟨_, rfl⟩
                    replace hf := onm eh39a hf
                    have hP : va_P D vwCl [oX6 w w_undos w_seed w_entries, aJ cJ (w 1) 3420 w_w, aI cI (w 7) 12 h39a, aJ cJ (w 8) 12 w_heldSort, aJ cJ (w 9) 12 w_heldNumber] H := by rw [eh39a]; exact hP
                    obtain ⟨y40, ey40⟩ : ∃ y : Int32, y = v7 + 1 := ⟨_, rfl⟩
                    replace hf := onm ey40 hf
                    refine lv_iinc (v := y40) (lv' := [(7, .int y40), (8, .int (v7 + (1 : Int32))), (0, .ref (w 0)), (1, .int v1), (2, .int v2), (3, .int v3), (4, .int v4), (6, .int v6)]) hx hb dX6_move_158 hl (k := 7) rfl (by rw [ey40]; rfl) (by decide) rfl (fun ls hl => ?_)
                    refine lv_goto (tgt := 78) hx hb dX6_move_161 (by decide) ?_
                    exact ih v1 v2 v3 v4 v6 y40 w_w w_undos h39a w_heldSort w_heldNumber H locs ls z hP hS (lv_sub hl [2, 3, 4, 5, 6, 7, 0] rfl) hf K
            · replace hf := oif c29 hf
              refine lv_iload hx hb dX6_move_124 (lv_at hl 0 rfl) ?_
              refine lv_goto (tgt := 157) hx hb dX6_move_126 (by decide) ?_
              obtain ⟨h41, hf⟩ := ogd hf
              refine va_iast hx hb hK hP (hD.addr rfl) hS 2 0 rfl rfl (ib_in h41) dX6_move_157 (fun H locs hP _ hS => ?_)
              obtain ⟨h41a, eh41a⟩ : ∃ y : Nat → Int32, y = upd w_from v7.toNatClampNeg (v7 + (1 : Int32)) := ⟨_, rfl⟩
              replace hf := onm eh41a hf
              have hP : va_P D vwCl [oX6 w w_undos w_seed w_entries, aJ cJ (w 1) 3420 w_w, aI cI (w 7) 12 h41a, aJ cJ (w 8) 12 w_heldSort, aJ cJ (w 9) 12 w_heldNumber] H := by rw [eh41a]; exact hP
              obtain ⟨y42, ey42⟩ : ∃ y : Int32, y = v7 + 1 := ⟨_, rfl⟩
              replace hf := onm ey42 hf
              refine lv_iinc (v := y42) (lv' := [(7, .int y42), (8, .int (v7 + (1 : Int32))), (0, .ref (w 0)), (1, .int v1), (2, .int v2), (3, .int v3), (4, .int v4), (6, .int v6)]) hx hb dX6_move_158 hl (k := 7) rfl (by rw [ey42]; rfl) (by decide) rfl (fun ls hl => ?_)
              refine lv_goto (tgt := 78) hx hb dX6_move_161 (by decide) ?_
              exact ih v1 v2 v3 v4 v6 y42 w_w w_undos h41a w_heldSort w_heldNumber H locs ls z hP hS (lv_sub hl [2, 3, 4, 5, 6, 7, 0] rfl) hf K
        · replace hf := oif c13 hf
          refine lv_iload_n hx hb dX6_move_91 rfl (lv_at hl 1 rfl) ?_
          refine lv_goto (tgt := 111) hx hb dX6_move_92 (by decide) ?_
          refine lv_istore (lv' := [(8, .int v1), (0, .ref (w 0)), (1, .int v1), (2, .int v2), (3, .int v3), (4, .int v4), (6, .int v6), (7, .int v7)]) hx hb dX6_move_111 hl (by decide) rfl (fun ls hl => ?_)
          refine lv_aload_n hx hb dX6_move_113 rfl (lv_at hl 1 rfl) ?_
          refine va_get (D := D) (ci := 6) (v := .ref (w 7)) (C := RX6) (T := TX6) (N := 12) hx hb hts hI_X6 hown hK hP 0 rfl rfl 9 (by decide) gf30 (fun _ h9 => h9) rfl dX6_move_114 ?_
          refine lv_iload hx hb dX6_move_117 (lv_at hl 7 rfl) ?_
          refine lv_iload_n hx hb dX6_move_119 rfl (lv_at hl 4 rfl) ?_
          refine lv_iconst (v := 2) hx hb dX6_move_120 (by decide) ?_
          refine lv_icmp_ne (tgt := 129) hx hb dX6_move_121 (by decide) (fun c43 => ?_) (fun c43 => ?_)
          · replace hf := oel c43 hf
            refine lv_iload_n hx hb dX6_move_129 rfl (lv_at hl 4 rfl) ?_
            refine lv_iconst (v := 1) hx hb dX6_move_130 (by decide) ?_
            refine lv_icmp_eq (tgt := 146) hx hb dX6_move_131 (by decide) (fun c44 => ?_) (fun c44 => ?_)
            · replace hf := oif c44 hf
              refine lv_iload_n hx hb dX6_move_146 rfl (lv_at hl 2 rfl) ?_
              refine lv_iload_n hx hb dX6_move_147 rfl (lv_at hl 3 rfl) ?_
              refine lv_iadd hx hb dX6_move_148 ?_
              refine lv_iload hx hb dX6_move_149 (lv_at hl 7 rfl) ?_
              refine lv_isub hx hb dX6_move_151 ?_
              refine lv_goto (tgt := 157) hx hb dX6_move_152 (by decide) ?_
              obtain ⟨h45, hf⟩ := ogd hf
              refine va_iast hx hb hK hP (hD.addr rfl) hS 2 0 rfl rfl (ib_in h45) dX6_move_157 (fun H locs hP _ hS => ?_)
              obtain ⟨h45a, eh45a⟩ : ∃ y : Nat → Int32, y = upd w_from v7.toNatClampNeg ((v1 + v2) - v7) := ⟨_, rfl⟩
              replace hf := onm eh45a hf
              have hP : va_P D vwCl [oX6 w w_undos w_seed w_entries, aJ cJ (w 1) 3420 w_w, aI cI (w 7) 12 h45a, aJ cJ (w 8) 12 w_heldSort, aJ cJ (w 9) 12 w_heldNumber] H := by rw [eh45a]; exact hP
              obtain ⟨y46, ey46⟩ : ∃ y : Int32, y = v7 + 1 := ⟨_, rfl⟩
              replace hf := onm ey46 hf
              refine lv_iinc (v := y46) (lv' := [(7, .int y46), (8, .int v1), (0, .ref (w 0)), (1, .int v1), (2, .int v2), (3, .int v3), (4, .int v4), (6, .int v6)]) hx hb dX6_move_158 hl (k := 7) rfl (by rw [ey46]; rfl) (by decide) rfl (fun ls hl => ?_)
              refine lv_goto (tgt := 78) hx hb dX6_move_161 (by decide) ?_
              exact ih v1 v2 v3 v4 v6 y46 w_w w_undos h45a w_heldSort w_heldNumber H locs ls z hP hS (lv_sub hl [2, 3, 4, 5, 6, 7, 0] rfl) hf K
            · replace hf := oel c44 hf
              refine lv_iload hx hb dX6_move_134 (lv_at hl 7 rfl) ?_
              refine lv_iload_n hx hb dX6_move_136 rfl (lv_at hl 2 rfl) ?_
              refine lv_icmp_eq (tgt := 146) hx hb dX6_move_137 (by decide) (fun c47 => ?_) (fun c47 => ?_)
              · replace hf := oif c47 hf
                refine lv_iload_n hx hb dX6_move_146 rfl (lv_at hl 2 rfl) ?_
                refine lv_iload_n hx hb dX6_move_147 rfl (lv_at hl 3 rfl) ?_
                refine lv_iadd hx hb dX6_move_148 ?_
                refine lv_iload hx hb dX6_move_149 (lv_at hl 7 rfl) ?_
                refine lv_isub hx hb dX6_move_151 ?_
                refine lv_goto (tgt := 157) hx hb dX6_move_152 (by decide) ?_
                obtain ⟨h48, hf⟩ := ogd hf
                refine va_iast hx hb hK hP (hD.addr rfl) hS 2 0 rfl rfl (ib_in h48) dX6_move_157 (fun H locs hP _ hS => ?_)
                obtain ⟨h48a, eh48a⟩ : ∃ y : Nat → Int32, y = upd w_from v7.toNatClampNeg ((v1 + v2) - v7) := ⟨_, rfl⟩
                replace hf := onm eh48a hf
                have hP : va_P D vwCl [oX6 w w_undos w_seed w_entries, aJ cJ (w 1) 3420 w_w, aI cI (w 7) 12 h48a, aJ cJ (w 8) 12 w_heldSort, aJ cJ (w 9) 12 w_heldNumber] H := by rw [eh48a]; exact hP
                obtain ⟨y49, ey49⟩ : ∃ y : Int32, y = v7 + 1 := ⟨_, rfl⟩
                replace hf := onm ey49 hf
                refine lv_iinc (v := y49) (lv' := [(7, .int y49), (8, .int v1), (0, .ref (w 0)), (1, .int v1), (2, .int v2), (3, .int v3), (4, .int v4), (6, .int v6)]) hx hb dX6_move_158 hl (k := 7) rfl (by rw [ey49]; rfl) (by decide) rfl (fun ls hl => ?_)
                refine lv_goto (tgt := 78) hx hb dX6_move_161 (by decide) ?_
                exact ih v1 v2 v3 v4 v6 y49 w_w w_undos h48a w_heldSort w_heldNumber H locs ls z hP hS (lv_sub hl [2, 3, 4, 5, 6, 7, 0] rfl) hf K
              · replace hf := oel c47 hf
                refine lv_iload hx hb dX6_move_140 (lv_at hl 7 rfl) ?_
                refine lv_iload_n hx hb dX6_move_142 rfl (lv_at hl 3 rfl) ?_
                refine lv_icmp_ne (tgt := 155) hx hb dX6_move_143 (by decide) (fun c50 => ?_) (fun c50 => ?_)
                · replace hf := oel c50 hf
                  refine lv_iload hx hb dX6_move_155 (lv_at hl 7 rfl) ?_
                  obtain ⟨h51, hf⟩ := ogd hf
                  refine va_iast hx hb hK hP (hD.addr rfl) hS 2 0 rfl rfl (ib_in h51) dX6_move_157 (fun H locs hP _ hS => ?_)
                  obtain ⟨h51a, eh51a⟩ : ∃ y : Nat → Int32, y = upd w_from v7.toNatClampNeg v7 := ⟨_, rfl⟩
                  replace hf := onm eh51a hf
                  have hP : va_P D vwCl [oX6 w w_undos w_seed w_entries, aJ cJ (w 1) 3420 w_w, aI cI (w 7) 12 h51a, aJ cJ (w 8) 12 w_heldSort, aJ cJ (w 9) 12 w_heldNumber] H := by rw [eh51a]; exact hP
                  obtain ⟨y52, ey52⟩ : ∃ y : Int32, y = v7 + 1 := ⟨_, rfl⟩
                  replace hf := onm ey52 hf
                  refine lv_iinc (v := y52) (lv' := [(7, .int y52), (8, .int v1), (0, .ref (w 0)), (1, .int v1), (2, .int v2), (3, .int v3), (4, .int v4), (6, .int v6)]) hx hb dX6_move_158 hl (k := 7) rfl (by rw [ey52]; rfl) (by decide) rfl (fun ls hl => ?_)
                  refine lv_goto (tgt := 78) hx hb dX6_move_161 (by decide) ?_
                  exact ih v1 v2 v3 v4 v6 y52 w_w w_undos h51a w_heldSort w_heldNumber H locs ls z hP hS (lv_sub hl [2, 3, 4, 5, 6, 7, 0] rfl) hf K
                · replace hf := oif c50 hf
                  refine lv_iload_n hx hb dX6_move_146 rfl (lv_at hl 2 rfl) ?_
                  refine lv_iload_n hx hb dX6_move_147 rfl (lv_at hl 3 rfl) ?_
                  refine lv_iadd hx hb dX6_move_148 ?_
                  refine lv_iload hx hb dX6_move_149 (lv_at hl 7 rfl) ?_
                  refine lv_isub hx hb dX6_move_151 ?_
                  refine lv_goto (tgt := 157) hx hb dX6_move_152 (by decide) ?_
                  obtain ⟨h53, hf⟩ := ogd hf
                  refine va_iast hx hb hK hP (hD.addr rfl) hS 2 0 rfl rfl (ib_in h53) dX6_move_157 (fun H locs hP _ hS => ?_)
                  obtain ⟨h53a, eh53a⟩ : ∃ y : Nat → Int32, y = upd w_from v7.toNatClampNeg ((v1 + v2) - v7) := ⟨_, rfl⟩
                  replace hf := onm eh53a hf
                  have hP : va_P D vwCl [oX6 w w_undos w_seed w_entries, aJ cJ (w 1) 3420 w_w, aI cI (w 7) 12 h53a, aJ cJ (w 8) 12 w_heldSort, aJ cJ (w 9) 12 w_heldNumber] H := by rw [eh53a]; exact hP
                  obtain ⟨y54, ey54⟩ : ∃ y : Int32, y = v7 + 1 := ⟨_, rfl⟩
                  replace hf := onm ey54 hf
                  refine lv_iinc (v := y54) (lv' := [(7, .int y54), (8, .int v1), (0, .ref (w 0)), (1, .int v1), (2, .int v2), (3, .int v3), (4, .int v4), (6, .int v6)]) hx hb dX6_move_158 hl (k := 7) rfl (by rw [ey54]; rfl) (by decide) rfl (fun ls hl => ?_)
                  refine lv_goto (tgt := 78) hx hb dX6_move_161 (by decide) ?_
                  exact ih v1 v2 v3 v4 v6 y54 w_w w_undos h53a w_heldSort w_heldNumber H locs ls z hP hS (lv_sub hl [2, 3, 4, 5, 6, 7, 0] rfl) hf K
          · replace hf := oif c43 hf
            refine lv_iload hx hb dX6_move_124 (lv_at hl 0 rfl) ?_
            refine lv_goto (tgt := 157) hx hb dX6_move_126 (by decide) ?_
            obtain ⟨h55, hf⟩ := ogd hf
            refine va_iast hx hb hK hP (hD.addr rfl) hS 2 0 rfl rfl (ib_in h55) dX6_move_157 (fun H locs hP _ hS => ?_)
            obtain ⟨h55a, eh55a⟩ : ∃ y : Nat → Int32, y = upd w_from v7.toNatClampNeg v1 := ⟨_, rfl⟩
            replace hf := onm eh55a hf
            have hP : va_P D vwCl [oX6 w w_undos w_seed w_entries, aJ cJ (w 1) 3420 w_w, aI cI (w 7) 12 h55a, aJ cJ (w 8) 12 w_heldSort, aJ cJ (w 9) 12 w_heldNumber] H := by rw [eh55a]; exact hP
            obtain ⟨y56, ey56⟩ : ∃ y : Int32, y = v7 + 1 := ⟨_, rfl⟩
            replace hf := onm ey56 hf
            refine lv_iinc (v := y56) (lv' := [(7, .int y56), (8, .int v1), (0, .ref (w 0)), (1, .int v1), (2, .int v2), (3, .int v3), (4, .int v4), (6, .int v6)]) hx hb dX6_move_158 hl (k := 7) rfl (by rw [ey56]; rfl) (by decide) rfl (fun ls hl => ?_)
            refine lv_goto (tgt := 78) hx hb dX6_move_161 (by decide) ?_
            exact ih v1 v2 v3 v4 v6 y56 w_w w_undos h55a w_heldSort w_heldNumber H locs ls z hP hS (lv_sub hl [2, 3, 4, 5, 6, 7, 0] rfl) hf K
  unfold f_X6_move at hf
  have go : ∀ (H : Heap) (locs : List Loc), va_P D vwCl [oX6 w w_undos w_seed w_entries, aJ cJ (w 1) 3420 w_w, aI cI (w 7) 12 w_from, aJ cJ (w 8) 12 w_heldSort, aJ cJ (w 9) 12 w_heldNumber] H → va_S A s.heap H locs → W p l e { frames := 4, cells := 0, slots := 0, locals := 87 } s m args below meth c H locs 0 0 (MQ below (QwI D zr (fun u => [oX6 w u.2.1 w_seed w_entries, aJ cJ (w 1) 3420 u.1, aI cI (w 7) 12 u.2.2.1, aJ cJ (w 8) 12 u.2.2.2.1, aJ cJ (w 9) 12 u.2.2.2.2]) A) args s 0 0 A) (F0 m 0 ls []) := by
    intro H locs hP hS
    refine lv_aload_n hx hb dX6_move_0 rfl (lv_at hl 0 rfl) ?_
    refine lv_iload_n hx hb dX6_move_1 rfl (lv_at hl 1 rfl) ?_
    obtain ⟨z1, hz1, hf⟩ := obd hf
    refine kZ (runV (As := [.int x1]) (rest := []) C0 hE hAb hP ((hD.weaken (fun _ _ _ h9 => hAb _ h9)).addr rfl) hS [0, 1] (wc := [oX6 w w_undos w_seed w_entries, aJ cJ (w 1) 3420 w_w]) (by decide) rfl 0 rfl rfl (c_X6_isPlace l D cI cJ cZ cQ bs H.size w w_undos w_seed w_entries w_w x1 z1 hz1) (cwV 1 hts gX6_move_X6_isPlace rfl rfl rfl (by decide +kernel) ⟨Nat.le_of_ble_eq_true rfl, Nat.le_of_ble_eq_true rfl⟩) rfl hl.1 rfl (Nat.le_of_ble_eq_true rfl) dX6_move_2 ⟨Nat.le_of_ble_eq_true rfl, Nat.le_of_ble_eq_true rfl⟩) hS hP (fun bz1 H locs hP hS => ?_)
    refine lv_if_eq (tgt := 16) hx hb dX6_move_5 (by decide) (fun c2 => ?_) (fun c2 => ?_)
    · replace hf := oif c2 hf
      refine lv_ldc hx hb hown gk198 dX6_move_16 ?_
      have er := Option.some.inj hf
      exact rwI (wm := (fun u => [oX6 w u.2.1 w_seed w_entries, aJ cJ (w 1) 3420 u.1, aI cI (w 7) 12 u.2.2.1, aJ cJ (w 8) 12 u.2.2.2.1, aJ cJ (w 9) 12 u.2.2.2.2])) hx hb hr hS dX6_move_18 hP er hlocks
    · replace hf := oel c2 hf
      refine lv_aload_n hx hb dX6_move_8 rfl (lv_at hl 0 rfl) ?_
      refine lv_iload_n hx hb dX6_move_9 rfl (lv_at hl 2 rfl) ?_
      obtain ⟨z3, hz3, hf⟩ := obd hf
      refine kZ (runV (As := [.int x2]) (rest := []) C0 hE hAb hP ((hD.weaken (fun _ _ _ h9 => hAb _ h9)).addr rfl) hS [0, 1] (wc := [oX6 w w_undos w_seed w_entries, aJ cJ (w 1) 3420 w_w]) (by decide) rfl 0 rfl rfl (c_X6_isPlace l D cI cJ cZ cQ bs H.size w w_undos w_seed w_entries w_w x2 z3 hz3) (cwV 1 hts gX6_move_X6_isPlace rfl rfl rfl (by decide +kernel) ⟨Nat.le_of_ble_eq_true rfl, Nat.le_of_ble_eq_true rfl⟩) rfl hl.1 rfl (Nat.le_of_ble_eq_true rfl) dX6_move_10 ⟨Nat.le_of_ble_eq_true rfl, Nat.le_of_ble_eq_true rfl⟩) hS hP (fun bz3 H locs hP hS => ?_)
      refine lv_if_ne (tgt := 19) hx hb dX6_move_13 (by decide) (fun c4 => ?_) (fun c4 => ?_)
      · replace hf := oel c4 hf
        refine lv_iload_n hx hb dX6_move_19 rfl (lv_at hl 3 rfl) ?_
        refine lv_i2l (v := (Int32.toInt64 x3)) hx hb dX6_move_20 rfl ?_
        refine lv_lconst (v := 0) hx hb dX6_move_21 (by decide) ?_
        refine lv_ldc2 hx hb hown gk51 dX6_move_22 ?_
        obtain ⟨z5, hz5, hf⟩ := obd hf
        refine kZ (runS (As := [.long (Int32.toInt64 x3), .long 0, .long 2]) (rest := []) C0 hE hAb hP ((hD.weaken (fun _ _ _ h9 => hAb _ h9)).addr rfl) hS [] (wc := []) (by decide) rfl (c_X6_in l D cI cJ cZ cQ bs H.size (Int32.toInt64 x3) 0 2 z5 hz5) (va_cwS 3 hts gX6_move_X6_in rfl rfl rfl (by decide +kernel) ⟨Nat.le_of_ble_eq_true rfl, Nat.le_of_ble_eq_true rfl⟩) rfl hl.1 rfl (Nat.le_of_ble_eq_true rfl) dX6_move_25 ⟨Nat.le_of_ble_eq_true rfl, Nat.le_of_ble_eq_true rfl⟩) hS hP (fun bz5 H locs hP hS => ?_)
        refine lv_if_ne (tgt := 34) hx hb dX6_move_28 (by decide) (fun c6 => ?_) (fun c6 => ?_)
        · replace hf := oel c6 hf
          refine lv_aload_n hx hb dX6_move_34 rfl (lv_at hl 0 rfl) ?_
          obtain ⟨z7, hz7, hf⟩ := obd hf
          refine kwV (runV (As := []) (rest := []) C0 hE hAb hP ((hD.weaken (fun _ _ _ h9 => hAb _ h9)).addr rfl) hS [0, 1] (wc := [oX6 w w_undos w_seed w_entries, aJ cJ (w 1) 3420 w_w]) (by decide) rfl 0 rfl rfl (c_X6_minds l D cI cJ cZ cQ bs H.size w w_undos w_seed w_entries w_w z7 hz7) (cwV 0 hts gX6_move_X6_minds rfl rfl rfl (by decide +kernel) ⟨Nat.le_of_ble_eq_true rfl, Nat.le_of_ble_eq_true rfl⟩) rfl hl.1 rfl (Nat.le_of_ble_eq_true rfl) dX6_move_35 ⟨Nat.le_of_ble_eq_true rfl, Nat.le_of_ble_eq_true rfl⟩) hS hP (hD.addr rfl) hA [0, 1] rfl rfl (ws' := [oX6 w z7.2 w_seed w_entries, aJ cJ (w 1) 3420 z7.1, aI cI (w 7) 12 w_from, aJ cJ (w 8) 12 w_heldSort, aJ cJ (w 9) 12 w_heldNumber]) rfl rfl (fun H locs hP hS => ?_)
          refine lv_aload_n hx hb dX6_move_38 rfl (lv_at hl 0 rfl) ?_
          obtain ⟨z8, hz8, hf⟩ := obd hf
          refine kI (runV (As := []) (rest := []) C0 hE hAb hP ((hD.weaken (fun _ _ _ h9 => hAb _ h9)).addr rfl) hS [0, 1] (wc := [oX6 w z7.2 w_seed w_entries, aJ cJ (w 1) 3420 z7.1]) (by decide) rfl 0 rfl rfl (c_X6_places l D cI cJ cZ cQ bs H.size w z7.2 w_seed w_entries z7.1 z8 hz8) (cwV 0 hts gX6_move_X6_places rfl rfl rfl (by decide +kernel) ⟨Nat.le_of_ble_eq_true rfl, Nat.le_of_ble_eq_true rfl⟩) rfl hl.1 rfl (Nat.le_of_ble_eq_true rfl) dX6_move_39 ⟨Nat.le_of_ble_eq_true rfl, Nat.le_of_ble_eq_true rfl⟩) hS hP (fun H locs hP hS => ?_)
          refine lv_istore (lv' := [(4, .int z8), (0, .ref (w 0)), (1, .int x1), (2, .int x2), (3, .int x3)]) hx hb dX6_move_42 hl (by decide) rfl (fun ls hl => ?_)
          refine lv_iload_n hx hb dX6_move_44 rfl (lv_at hl 2 rfl) ?_
          refine lv_iload_n hx hb dX6_move_45 rfl (lv_at hl 3 rfl) ?_
          refine lv_icmp_ge (tgt := 53) hx hb dX6_move_46 (by decide) (fun c9 => ?_) (fun c9 => ?_)
          · replace hf := oif c9 hf
            refine lv_iload_n hx hb dX6_move_53 rfl (lv_at hl 3 rfl) ?_
            refine lv_istore (lv' := [(5, .int x2), (4, .int z8), (0, .ref (w 0)), (1, .int x1), (2, .int x2), (3, .int x3)]) hx hb dX6_move_54 hl (by decide) rfl (fun ls hl => ?_)
            refine lv_iload_n hx hb dX6_move_56 rfl (lv_at hl 3 rfl) ?_
            refine lv_iload_n hx hb dX6_move_57 rfl (lv_at hl 4 rfl) ?_
            refine lv_icmp_ge (tgt := 65) hx hb dX6_move_58 (by decide) (fun c10 => ?_) (fun c10 => ?_)
            · replace hf := oif c10 hf
              refine lv_iload_n hx hb dX6_move_65 rfl (lv_at hl 3 rfl) ?_
              refine lv_istore (lv' := [(6, .int x1), (5, .int x2), (4, .int z8), (0, .ref (w 0)), (1, .int x1), (2, .int x2), (3, .int x3)]) hx hb dX6_move_66 hl (by decide) rfl (fun ls hl => ?_)
              refine lv_aload_n hx hb dX6_move_68 rfl (lv_at hl 3 rfl) ?_
              refine lv_iload hx hb dX6_move_69 (lv_at hl 2 rfl) ?_
              obtain ⟨z11, hz11, hf⟩ := obd hf
              refine kwV (runV (As := [.int z8]) (rest := []) C0 hE hAb hP ((hD.weaken (fun _ _ _ h9 => hAb _ h9)).addr rfl) hS [0, 2] (wc := [oX6 w z7.2 w_seed w_entries, aI cI (w 7) 12 w_from]) (by decide) rfl 0 rfl rfl (c_X6_stays l D cI cJ cZ cQ bs H.size w z7.2 w_seed w_entries w_from z8 z11 hz11) (cwV 1 hts gX6_move_X6_stays rfl rfl rfl (by decide +kernel) ⟨Nat.le_of_ble_eq_true rfl, Nat.le_of_ble_eq_true rfl⟩) rfl hl.1 rfl (Nat.le_of_ble_eq_true rfl) dX6_move_71 ⟨Nat.le_of_ble_eq_true rfl, Nat.le_of_ble_eq_true rfl⟩) hS hP (hD.addr rfl) hA [0, 2] rfl rfl (ws' := [oX6 w z7.2 w_seed w_entries, aJ cJ (w 1) 3420 z7.1, aI cI (w 7) 12 z11, aJ cJ (w 8) 12 w_heldSort, aJ cJ (w 9) 12 w_heldNumber]) rfl rfl (fun H locs hP hS => ?_)
              refine lv_iload hx hb dX6_move_74 (lv_at hl 1 rfl) ?_
              refine lv_istore (lv' := [(7, .int x2), (6, .int x1), (5, .int x2), (4, .int z8), (0, .ref (w 0)), (1, .int x1), (2, .int x2), (3, .int x3)]) hx hb dX6_move_76 hl (by decide) rfl (fun ls hl => ?_)
              obtain ⟨z57, hz57, hf⟩ := obd hf
              refine W78 4000 x1 x2 x3 z8 x1 x2 z7.1 z7.2 z11 w_heldSort w_heldNumber H locs ls z57 hP hS (lv_sub hl [4, 5, 6, 7, 3, 1, 0] rfl) hz57 (fun H locs ls hP hS hl => ?_)
              refine lv_aload_n hx hb dX6_move_164 rfl (lv_at hl 0 rfl) ?_
              refine lv_iload hx hb dX6_move_165 (lv_at hl 1 rfl) ?_
              obtain ⟨z58, hz58, hf⟩ := obd hf
              refine kwI (runV (As := [.int z8]) (rest := []) C0 hE hAb hP ((hD.weaken (fun _ _ _ h9 => hAb _ h9)).addr rfl) hS [0, 1, 2, 3, 4] (wc := [oX6 w z7.2 w_seed w_entries, aJ cJ (w 1) 3420 z7.1, aI cI (w 7) 12 z57, aJ cJ (w 8) 12 w_heldSort, aJ cJ (w 9) 12 w_heldNumber]) (by decide) rfl 0 rfl rfl (c_X6_moves l D cI cJ cZ cQ bs H.size w z7.2 w_seed w_entries z7.1 z57 w_heldSort w_heldNumber z8 z58 hz58) (cwV 1 hts gX6_move_X6_moves rfl rfl rfl (by decide +kernel) ⟨Nat.le_of_ble_eq_true rfl, Nat.le_of_ble_eq_true rfl⟩) rfl hl.1 rfl (Nat.le_of_ble_eq_true rfl) dX6_move_167 ⟨Nat.le_of_ble_eq_true rfl, Nat.le_of_ble_eq_true rfl⟩) hS hP (hD.addr rfl) hA [0, 1, 2, 3, 4] rfl rfl (ws' := [oX6 w z7.2 w_seed w_entries, aJ cJ (w 1) 3420 z58.2.1, aI cI (w 7) 12 z57, aJ cJ (w 8) 12 z58.2.2.1, aJ cJ (w 9) 12 z58.2.2.2]) rfl rfl (fun H locs hP hS => ?_)
              refine lv_pop hx hb dX6_move_170 rfl ?_
              refine lv_iconst (v := 1) hx hb dX6_move_171 (by decide) ?_
              have er := Option.some.inj hf
              exact rwI (wm := (fun u => [oX6 w u.2.1 w_seed w_entries, aJ cJ (w 1) 3420 u.1, aI cI (w 7) 12 u.2.2.1, aJ cJ (w 8) 12 u.2.2.2.1, aJ cJ (w 9) 12 u.2.2.2.2])) hx hb hr hS dX6_move_172 hP er hlocks
            · replace hf := oel c10 hf
              refine lv_iload_n hx hb dX6_move_61 rfl (lv_at hl 4 rfl) ?_
              refine lv_goto (tgt := 66) hx hb dX6_move_62 (by decide) ?_
              refine lv_istore (lv' := [(6, .int x2), (5, .int x2), (4, .int z8), (0, .ref (w 0)), (1, .int x1), (2, .int x2), (3, .int x3)]) hx hb dX6_move_66 hl (by decide) rfl (fun ls hl => ?_)
              refine lv_aload_n hx hb dX6_move_68 rfl (lv_at hl 3 rfl) ?_
              refine lv_iload hx hb dX6_move_69 (lv_at hl 2 rfl) ?_
              obtain ⟨z59, hz59, hf⟩ := obd hf
              refine kwV (runV (As := [.int z8]) (rest := []) C0 hE hAb hP ((hD.weaken (fun _ _ _ h9 => hAb _ h9)).addr rfl) hS [0, 2] (wc := [oX6 w z7.2 w_seed w_entries, aI cI (w 7) 12 w_from]) (by decide) rfl 0 rfl rfl (c_X6_stays l D cI cJ cZ cQ bs H.size w z7.2 w_seed w_entries w_from z8 z59 hz59) (cwV 1 hts gX6_move_X6_stays rfl rfl rfl (by decide +kernel) ⟨Nat.le_of_ble_eq_true rfl, Nat.le_of_ble_eq_true rfl⟩) rfl hl.1 rfl (Nat.le_of_ble_eq_true rfl) dX6_move_71 ⟨Nat.le_of_ble_eq_true rfl, Nat.le_of_ble_eq_true rfl⟩) hS hP (hD.addr rfl) hA [0, 2] rfl rfl (ws' := [oX6 w z7.2 w_seed w_entries, aJ cJ (w 1) 3420 z7.1, aI cI (w 7) 12 z59, aJ cJ (w 8) 12 w_heldSort, aJ cJ (w 9) 12 w_heldNumber]) rfl rfl (fun H locs hP hS => ?_)
              refine lv_iload hx hb dX6_move_74 (lv_at hl 1 rfl) ?_
              refine lv_istore (lv' := [(7, .int x2), (6, .int x2), (5, .int x2), (4, .int z8), (0, .ref (w 0)), (1, .int x1), (2, .int x2), (3, .int x3)]) hx hb dX6_move_76 hl (by decide) rfl (fun ls hl => ?_)
              obtain ⟨z60, hz60, hf⟩ := obd hf
              refine W78 4000 x1 x2 x3 z8 x2 x2 z7.1 z7.2 z59 w_heldSort w_heldNumber H locs ls z60 hP hS (lv_sub hl [4, 5, 6, 7, 3, 1, 0] rfl) hz60 (fun H locs ls hP hS hl => ?_)
              refine lv_aload_n hx hb dX6_move_164 rfl (lv_at hl 0 rfl) ?_
              refine lv_iload hx hb dX6_move_165 (lv_at hl 1 rfl) ?_
              obtain ⟨z61, hz61, hf⟩ := obd hf
              refine kwI (runV (As := [.int z8]) (rest := []) C0 hE hAb hP ((hD.weaken (fun _ _ _ h9 => hAb _ h9)).addr rfl) hS [0, 1, 2, 3, 4] (wc := [oX6 w z7.2 w_seed w_entries, aJ cJ (w 1) 3420 z7.1, aI cI (w 7) 12 z60, aJ cJ (w 8) 12 w_heldSort, aJ cJ (w 9) 12 w_heldNumber]) (by decide) rfl 0 rfl rfl (c_X6_moves l D cI cJ cZ cQ bs H.size w z7.2 w_seed w_entries z7.1 z60 w_heldSort w_heldNumber z8 z61 hz61) (cwV 1 hts gX6_move_X6_moves rfl rfl rfl (by decide +kernel) ⟨Nat.le_of_ble_eq_true rfl, Nat.le_of_ble_eq_true rfl⟩) rfl hl.1 rfl (Nat.le_of_ble_eq_true rfl) dX6_move_167 ⟨Nat.le_of_ble_eq_true rfl, Nat.le_of_ble_eq_true rfl⟩) hS hP (hD.addr rfl) hA [0, 1, 2, 3, 4] rfl rfl (ws' := [oX6 w z7.2 w_seed w_entries, aJ cJ (w 1) 3420 z61.2.1, aI cI (w 7) 12 z60, aJ cJ (w 8) 12 z61.2.2.1, aJ cJ (w 9) 12 z61.2.2.2]) rfl rfl (fun H locs hP hS => ?_)
              refine lv_pop hx hb dX6_move_170 rfl ?_
              refine lv_iconst (v := 1) hx hb dX6_move_171 (by decide) ?_
              have er := Option.some.inj hf
              exact rwI (wm := (fun u => [oX6 w u.2.1 w_seed w_entries, aJ cJ (w 1) 3420 u.1, aI cI (w 7) 12 u.2.2.1, aJ cJ (w 8) 12 u.2.2.2.1, aJ cJ (w 9) 12 u.2.2.2.2])) hx hb hr hS dX6_move_172 hP er hlocks
          · replace hf := oel c9 hf
            refine lv_iload_n hx hb dX6_move_49 rfl (lv_at hl 2 rfl) ?_
            refine lv_goto (tgt := 54) hx hb dX6_move_50 (by decide) ?_
            refine lv_istore (lv' := [(5, .int x1), (4, .int z8), (0, .ref (w 0)), (1, .int x1), (2, .int x2), (3, .int x3)]) hx hb dX6_move_54 hl (by decide) rfl (fun ls hl => ?_)
            refine lv_iload_n hx hb dX6_move_56 rfl (lv_at hl 3 rfl) ?_
            refine lv_iload_n hx hb dX6_move_57 rfl (lv_at hl 4 rfl) ?_
            refine lv_icmp_ge (tgt := 65) hx hb dX6_move_58 (by decide) (fun c62 => ?_) (fun c62 => ?_)
            · replace hf := oif c62 hf
              refine lv_iload_n hx hb dX6_move_65 rfl (lv_at hl 3 rfl) ?_
              refine lv_istore (lv' := [(6, .int x1), (5, .int x1), (4, .int z8), (0, .ref (w 0)), (1, .int x1), (2, .int x2), (3, .int x3)]) hx hb dX6_move_66 hl (by decide) rfl (fun ls hl => ?_)
              refine lv_aload_n hx hb dX6_move_68 rfl (lv_at hl 3 rfl) ?_
              refine lv_iload hx hb dX6_move_69 (lv_at hl 2 rfl) ?_
              obtain ⟨z63, hz63, hf⟩ := obd hf
              refine kwV (runV (As := [.int z8]) (rest := []) C0 hE hAb hP ((hD.weaken (fun _ _ _ h9 => hAb _ h9)).addr rfl) hS [0, 2] (wc := [oX6 w z7.2 w_seed w_entries, aI cI (w 7) 12 w_from]) (by decide) rfl 0 rfl rfl (c_X6_stays l D cI cJ cZ cQ bs H.size w z7.2 w_seed w_entries w_from z8 z63 hz63) (cwV 1 hts gX6_move_X6_stays rfl rfl rfl (by decide +kernel) ⟨Nat.le_of_ble_eq_true rfl, Nat.le_of_ble_eq_true rfl⟩) rfl hl.1 rfl (Nat.le_of_ble_eq_true rfl) dX6_move_71 ⟨Nat.le_of_ble_eq_true rfl, Nat.le_of_ble_eq_true rfl⟩) hS hP (hD.addr rfl) hA [0, 2] rfl rfl (ws' := [oX6 w z7.2 w_seed w_entries, aJ cJ (w 1) 3420 z7.1, aI cI (w 7) 12 z63, aJ cJ (w 8) 12 w_heldSort, aJ cJ (w 9) 12 w_heldNumber]) rfl rfl (fun H locs hP hS => ?_)
              refine lv_iload hx hb dX6_move_74 (lv_at hl 1 rfl) ?_
              refine lv_istore (lv' := [(7, .int x1), (6, .int x1), (5, .int x1), (4, .int z8), (0, .ref (w 0)), (1, .int x1), (2, .int x2), (3, .int x3)]) hx hb dX6_move_76 hl (by decide) rfl (fun ls hl => ?_)
              obtain ⟨z64, hz64, hf⟩ := obd hf
              refine W78 4000 x1 x2 x3 z8 x1 x1 z7.1 z7.2 z63 w_heldSort w_heldNumber H locs ls z64 hP hS (lv_sub hl [4, 5, 6, 7, 3, 1, 0] rfl) hz64 (fun H locs ls hP hS hl => ?_)
              refine lv_aload_n hx hb dX6_move_164 rfl (lv_at hl 0 rfl) ?_
              refine lv_iload hx hb dX6_move_165 (lv_at hl 1 rfl) ?_
              obtain ⟨z65, hz65, hf⟩ := obd hf
              refine kwI (runV (As := [.int z8]) (rest := []) C0 hE hAb hP ((hD.weaken (fun _ _ _ h9 => hAb _ h9)).addr rfl) hS [0, 1, 2, 3, 4] (wc := [oX6 w z7.2 w_seed w_entries, aJ cJ (w 1) 3420 z7.1, aI cI (w 7) 12 z64, aJ cJ (w 8) 12 w_heldSort, aJ cJ (w 9) 12 w_heldNumber]) (by decide) rfl 0 rfl rfl (c_X6_moves l D cI cJ cZ cQ bs H.size w z7.2 w_seed w_entries z7.1 z64 w_heldSort w_heldNumber z8 z65 hz65) (cwV 1 hts gX6_move_X6_moves rfl rfl rfl (by decide +kernel) ⟨Nat.le_of_ble_eq_true rfl, Nat.le_of_ble_eq_true rfl⟩) rfl hl.1 rfl (Nat.le_of_ble_eq_true rfl) dX6_move_167 ⟨Nat.le_of_ble_eq_true rfl, Nat.le_of_ble_eq_true rfl⟩) hS hP (hD.addr rfl) hA [0, 1, 2, 3, 4] rfl rfl (ws' := [oX6 w z7.2 w_seed w_entries, aJ cJ (w 1) 3420 z65.2.1, aI cI (w 7) 12 z64, aJ cJ (w 8) 12 z65.2.2.1, aJ cJ (w 9) 12 z65.2.2.2]) rfl rfl (fun H locs hP hS => ?_)
              refine lv_pop hx hb dX6_move_170 rfl ?_
              refine lv_iconst (v := 1) hx hb dX6_move_171 (by decide) ?_
              have er := Option.some.inj hf
              exact rwI (wm := (fun u => [oX6 w u.2.1 w_seed w_entries, aJ cJ (w 1) 3420 u.1, aI cI (w 7) 12 u.2.2.1, aJ cJ (w 8) 12 u.2.2.2.1, aJ cJ (w 9) 12 u.2.2.2.2])) hx hb hr hS dX6_move_172 hP er hlocks
            · replace hf := oel c62 hf
              refine lv_iload_n hx hb dX6_move_61 rfl (lv_at hl 4 rfl) ?_
              refine lv_goto (tgt := 66) hx hb dX6_move_62 (by decide) ?_
              refine lv_istore (lv' := [(6, .int x2), (5, .int x1), (4, .int z8), (0, .ref (w 0)), (1, .int x1), (2, .int x2), (3, .int x3)]) hx hb dX6_move_66 hl (by decide) rfl (fun ls hl => ?_)
              refine lv_aload_n hx hb dX6_move_68 rfl (lv_at hl 3 rfl) ?_
              refine lv_iload hx hb dX6_move_69 (lv_at hl 2 rfl) ?_
              obtain ⟨z66, hz66, hf⟩ := obd hf
              refine kwV (runV (As := [.int z8]) (rest := []) C0 hE hAb hP ((hD.weaken (fun _ _ _ h9 => hAb _ h9)).addr rfl) hS [0, 2] (wc := [oX6 w z7.2 w_seed w_entries, aI cI (w 7) 12 w_from]) (by decide) rfl 0 rfl rfl (c_X6_stays l D cI cJ cZ cQ bs H.size w z7.2 w_seed w_entries w_from z8 z66 hz66) (cwV 1 hts gX6_move_X6_stays rfl rfl rfl (by decide +kernel) ⟨Nat.le_of_ble_eq_true rfl, Nat.le_of_ble_eq_true rfl⟩) rfl hl.1 rfl (Nat.le_of_ble_eq_true rfl) dX6_move_71 ⟨Nat.le_of_ble_eq_true rfl, Nat.le_of_ble_eq_true rfl⟩) hS hP (hD.addr rfl) hA [0, 2] rfl rfl (ws' := [oX6 w z7.2 w_seed w_entries, aJ cJ (w 1) 3420 z7.1, aI cI (w 7) 12 z66, aJ cJ (w 8) 12 w_heldSort, aJ cJ (w 9) 12 w_heldNumber]) rfl rfl (fun H locs hP hS => ?_)
              refine lv_iload hx hb dX6_move_74 (lv_at hl 1 rfl) ?_
              refine lv_istore (lv' := [(7, .int x1), (6, .int x2), (5, .int x1), (4, .int z8), (0, .ref (w 0)), (1, .int x1), (2, .int x2), (3, .int x3)]) hx hb dX6_move_76 hl (by decide) rfl (fun ls hl => ?_)
              obtain ⟨z67, hz67, hf⟩ := obd hf
              refine W78 4000 x1 x2 x3 z8 x2 x1 z7.1 z7.2 z66 w_heldSort w_heldNumber H locs ls z67 hP hS (lv_sub hl [4, 5, 6, 7, 3, 1, 0] rfl) hz67 (fun H locs ls hP hS hl => ?_)
              refine lv_aload_n hx hb dX6_move_164 rfl (lv_at hl 0 rfl) ?_
              refine lv_iload hx hb dX6_move_165 (lv_at hl 1 rfl) ?_
              obtain ⟨z68, hz68, hf⟩ := obd hf
              refine kwI (runV (As := [.int z8]) (rest := []) C0 hE hAb hP ((hD.weaken (fun _ _ _ h9 => hAb _ h9)).addr rfl) hS [0, 1, 2, 3, 4] (wc := [oX6 w z7.2 w_seed w_entries, aJ cJ (w 1) 3420 z7.1, aI cI (w 7) 12 z67, aJ cJ (w 8) 12 w_heldSort, aJ cJ (w 9) 12 w_heldNumber]) (by decide) rfl 0 rfl rfl (c_X6_moves l D cI cJ cZ cQ bs H.size w z7.2 w_seed w_entries z7.1 z67 w_heldSort w_heldNumber z8 z68 hz68) (cwV 1 hts gX6_move_X6_moves rfl rfl rfl (by decide +kernel) ⟨Nat.le_of_ble_eq_true rfl, Nat.le_of_ble_eq_true rfl⟩) rfl hl.1 rfl (Nat.le_of_ble_eq_true rfl) dX6_move_167 ⟨Nat.le_of_ble_eq_true rfl, Nat.le_of_ble_eq_true rfl⟩) hS hP (hD.addr rfl) hA [0, 1, 2, 3, 4] rfl rfl (ws' := [oX6 w z7.2 w_seed w_entries, aJ cJ (w 1) 3420 z68.2.1, aI cI (w 7) 12 z67, aJ cJ (w 8) 12 z68.2.2.1, aJ cJ (w 9) 12 z68.2.2.2]) rfl rfl (fun H locs hP hS => ?_)
              refine lv_pop hx hb dX6_move_170 rfl ?_
              refine lv_iconst (v := 1) hx hb dX6_move_171 (by decide) ?_
              have er := Option.some.inj hf
              exact rwI (wm := (fun u => [oX6 w u.2.1 w_seed w_entries, aJ cJ (w 1) 3420 u.1, aI cI (w 7) 12 u.2.2.1, aJ cJ (w 8) 12 u.2.2.2.1, aJ cJ (w 9) 12 u.2.2.2.2])) hx hb hr hS dX6_move_172 hP er hlocks
        · replace hf := oif c6 hf
          refine lv_ldc hx hb hown gk192 dX6_move_31 ?_
          have er := Option.some.inj hf
          exact rwI (wm := (fun u => [oX6 w u.2.1 w_seed w_entries, aJ cJ (w 1) 3420 u.1, aI cI (w 7) 12 u.2.2.1, aJ cJ (w 8) 12 u.2.2.2.1, aJ cJ (w 9) 12 u.2.2.2.2])) hx hb hr hS dX6_move_33 hP er hlocks
      · replace hf := oif c4 hf
        refine lv_ldc hx hb hown gk198 dX6_move_16 ?_
        have er := Option.some.inj hf
        exact rwI (wm := (fun u => [oX6 w u.2.1 w_seed w_entries, aJ cJ (w 1) 3420 u.1, aI cI (w 7) 12 u.2.2.1, aJ cJ (w 8) 12 u.2.2.2.1, aJ cJ (w 9) 12 u.2.2.2.2])) hx hb hr hS dX6_move_18 hP er hlocks
  exact go s.heap [] hP hS
noncomputable def L_X6_part_34 (w_w : Nat → Int64) (v1 : Int32) (v2 : Int32) (v4 : Int32) : Nat → Int32 → Int32 → (Nat → Int32) → Option (Int32 × (Nat → Int32))
  | 0, _, _, _ => none
  | n + 1, v3, v5, w_from => if v2 ≤ v5 then (some ((v3, w_from))) else ((f_X6_by w_w 15 v5 v1).bind (fun z7 => if z7 = v4 then (if ib v3 12 = true then ((some (upd w_from v3.toNatClampNeg v5 : Nat → Int32)).bind (fun h10a => (some (v3 + 1 : Int32)).bind (fun y11 => (some (v5 + 1 : Int32)).bind (fun y12 => L_X6_part_34 w_w v1 v2 v4 n y11 y12 h10a)))) else none) else ((some (v5 + 1 : Int32)).bind (fun y9 => L_X6_part_34 w_w v1 v2 v4 n v3 y9 w_from))))
noncomputable def L_X6_part_25 (w_w : Nat → Int64) (v1 : Int32) (v2 : Int32) : Nat → Int32 → Int32 → (Nat → Int32) → Option ((Nat → Int32))
  | 0, _, _, _ => none
  | n + 1, v3, v4, w_from => if 2 ≤ v4 then (some (w_from)) else ((L_X6_part_34 w_w v1 v2 v4 4000 v3 0 w_from).bind (fun z13 => (some (v4 + 1 : Int32)).bind (fun y14 => L_X6_part_25 w_w v1 v2 n z13.1 y14 z13.2)))
noncomputable def f_X6_part (w_w : Nat → Int64) (w_undos : Int32) (w_from : Nat → Int32) (w_heldSort : Nat → Int64) (w_heldNumber : Nat → Int64) (x1 : Int32) : Option (Int32 × (Nat → Int64) × Int32 × (Nat → Int32) × (Nat → Int64) × (Nat → Int64)) := (f_X6_isPlace w_w x1).bind (fun z1 => if z1 = 0 then (some (((-1000000001), w_w, w_undos, w_from, w_heldSort, w_heldNumber))) else ((f_X6_minds w_w w_undos).bind (fun z3 => (f_X6_places z3.1).bind (fun z4 => (L_X6_part_25 z3.1 x1 z4 4000 0 (-1) w_from).bind (fun z15 => (f_X6_lessThan z3.1 x1 z4).bind (fun z16 => (f_X6_alikeTo z3.1 x1 z4).bind (fun z17 => (f_X6_moves z3.1 z15 w_heldSort w_heldNumber z4).bind (fun z18 => some (((((100 : Int32) * z16) + z17), z18.2.1, z3.2, z15, z18.2.2.1, z18.2.2.2))))))))))
set_option maxHeartbeats 4000000 in
set_option maxRecDepth 100000 in
theorem c_X6_part (l : Launch) (D : va_G) (cI cJ cZ cQ : ClassId) (bs sz : Nat) (w : Nat → Nat) (w_undos : Int32) (w_seed : Int32) (w_entries : Int32) (w_w : Nat → Int64) (w_from : Nat → Int32) (w_heldSort : Nat → Int64) (w_heldNumber : Nat → Int64) (x1 : Int32) (zr : Int32 × (Nat → Int64) × Int32 × (Nat → Int32) × (Nat → Int64) × (Nat → Int64)) (hf : f_X6_part w_w w_undos w_from w_heldSort w_heldNumber x1 = some zr) : Met l yX6_part wsX6_part { frames := 7, cells := 0, slots := 0, locals := 176 } (va_Pc [.ref (w 0), .int x1] (Pr D cI cJ cZ cQ bs sz [oX6 w w_undos w_seed w_entries, aJ cJ (w 1) 3420 w_w, aI cI (w 7) 12 w_from, aJ cJ (w 8) 12 w_heldSort, aJ cJ (w 9) 12 w_heldNumber])) (QwI D zr (fun u => [oX6 w u.2.1 w_seed w_entries, aJ cJ (w 1) 3420 u.1, aI cI (w 7) 12 u.2.2.1, aJ cJ (w 8) 12 u.2.2.2.1, aJ cJ (w 9) 12 u.2.2.2.2]) (va_A [oX6 w w_undos w_seed w_entries, aJ cJ (w 1) 3420 w_w, aI cI (w 7) 12 w_from, aJ cJ (w 8) 12 w_heldSort, aJ cJ (w 9) 12 w_heldNumber] sz)) 0 0 (va_A [oX6 w w_undos w_seed w_entries, aJ cJ (w 1) 3420 w_w, aI cI (w 7) 12 w_from, aJ cJ (w 8) 12 w_heldSort, aJ cJ (w 9) 12 w_heldNumber] sz) := by
  refine stW (cc := cX6_part) (maxL := 6) (ret := (some .int)) (Qf := fun A => (QwI D zr (fun u => [oX6 w u.2.1 w_seed w_entries, aJ cJ (w 1) 3420 u.1, aI cI (w 7) 12 u.2.2.1, aJ cJ (w 8) 12 u.2.2.2.1, aJ cJ (w 9) 12 u.2.2.2.2]) A)) (by decide +kernel) rfl (Nat.le_of_ble_eq_true rfl) ?_
  intro p e s m args below meth c A C0 hr hlocks hname hsz hP hD hA hAb hE ls hl
  obtain ⟨hx, hb, hml, hown, hts⟩ := id C0
  have hown : s.vm.findClass RX6 = some m.cls := hown
  obtain ⟨hK, hNW, -, tw, hZ, hT⟩ := id hE
  have hl : lv_has ls 6 [(0, .ref (w 0)), (1, .int x1)] := hl
  have hS : va_S A s.heap s.heap [] := va_S.rf
  have hI_X6 := (show ∀ w ∈ wsX60, w ∈ wsX6_part by decide +kernel)
  have gf30 := hts (.fieldLink RX6 30 "RowRanksModel" "from" "[I") (by decide +kernel)
  have gk198 := hts (.constant RX6 198 (-1000000001)) (by decide +kernel)
  have W34 : ∀ (n : Nat) (v1 : Int32) (v2 : Int32) (v3 : Int32) (v4 : Int32) (v5 : Int32) (w_w : Nat → Int64) (w_undos : Int32) (w_from : Nat → Int32) (w_heldSort : Nat → Int64) (w_heldNumber : Nat → Int64) (H : Heap) (locs : List Loc) (ls : Array Slot) (z : Int32 × (Nat → Int32)), va_P D vwCl [oX6 w w_undos w_seed w_entries, aJ cJ (w 1) 3420 w_w, aI cI (w 7) 12 w_from, aJ cJ (w 8) 12 w_heldSort, aJ cJ (w 9) 12 w_heldNumber] H → va_S A s.heap H locs → lv_has ls 6 [(0, .ref (w 0)), (1, .int v1), (2, .int v2), (3, .int v3), (4, .int v4), (5, .int v5)] → L_X6_part_34 w_w v1 v2 v4 n v3 v5 w_from = some z → (∀ (H : Heap) (locs : List Loc) (ls : Array Slot), va_P D vwCl [oX6 w w_undos w_seed w_entries, aJ cJ (w 1) 3420 w_w, aI cI (w 7) 12 z.2, aJ cJ (w 8) 12 w_heldSort, aJ cJ (w 9) 12 w_heldNumber] H → va_S A s.heap H locs → lv_has ls 6 [(0, .ref (w 0)), (1, .int v1), (2, .int v2), (3, .int z.1), (4, .int v4)] → W p l e { frames := 7, cells := 0, slots := 0, locals := 176 } s m args below meth c H locs 0 0 (MQ below (QwI D zr (fun u => [oX6 w u.2.1 w_seed w_entries, aJ cJ (w 1) 3420 u.1, aI cI (w 7) 12 u.2.2.1, aJ cJ (w 8) 12 u.2.2.2.1, aJ cJ (w 9) 12 u.2.2.2.2]) A) args s 0 0 A) (F0 m 71 ls [])) → W p l e { frames := 7, cells := 0, slots := 0, locals := 176 } s m args below meth c H locs 0 0 (MQ below (QwI D zr (fun u => [oX6 w u.2.1 w_seed w_entries, aJ cJ (w 1) 3420 u.1, aI cI (w 7) 12 u.2.2.1, aJ cJ (w 8) 12 u.2.2.2.1, aJ cJ (w 9) 12 u.2.2.2.2]) A) args s 0 0 A) (F0 m 34 ls []) := by
    intro n
    induction n with
    | zero =>
      intro v1 v2 v3 v4 v5 w_w w_undos w_from w_heldSort w_heldNumber H locs ls z hP hS hl hf
      exact absurd (show (none : Option (Int32 × (Nat → Int32))) = some z from hf) (fun h => by cases h)
    | succ n ih =>
      intro v1 v2 v3 v4 v5 w_w w_undos w_from w_heldSort w_heldNumber H locs ls z hP hS hl hf K
      rw [L_X6_part_34] at hf
      refine lv_iload hx hb dX6_part_34 (lv_at hl 5 rfl) ?_
      refine lv_iload_n hx hb dX6_part_36 rfl (lv_at hl 2 rfl) ?_
      refine lv_icmp_ge (tgt := 71) hx hb dX6_part_37 (by decide) (fun c6 => ?_) (fun c6 => ?_)
      · replace hf := oif c6 hf
        have hf := Option.some.inj hf
        subst hf
        exact K H locs ls hP hS (lv_sub hl [0, 1, 2, 3, 4] rfl)
      · replace hf := oel c6 hf
        refine lv_aload_n hx hb dX6_part_40 rfl (lv_at hl 0 rfl) ?_
        refine lv_bipush (v := 15) hx hb dX6_part_41 (by decide) ?_
        refine lv_iload hx hb dX6_part_43 (lv_at hl 5 rfl) ?_
        refine lv_iload_n hx hb dX6_part_45 rfl (lv_at hl 1 rfl) ?_
        obtain ⟨z7, hz7, hf⟩ := obd hf
        refine kI (runV (As := [.int 15, .int v5, .int v1]) (rest := []) C0 hE hAb hP ((hD.weaken (fun _ _ _ h9 => hAb _ h9)).addr rfl) hS [0, 1] (wc := [oX6 w w_undos w_seed w_entries, aJ cJ (w 1) 3420 w_w]) (by decide) rfl 0 rfl rfl (c_X6_by l D cI cJ cZ cQ bs H.size w w_undos w_seed w_entries w_w 15 v5 v1 z7 hz7) (cwV 3 hts gX6_part_X6_by rfl rfl rfl (by decide +kernel) ⟨Nat.le_of_ble_eq_true rfl, Nat.le_of_ble_eq_true rfl⟩) rfl hl.1 rfl (Nat.le_of_ble_eq_true rfl) dX6_part_46 ⟨Nat.le_of_ble_eq_true rfl, Nat.le_of_ble_eq_true rfl⟩) hS hP (fun H locs hP hS => ?_)
        refine lv_iload hx hb dX6_part_49 (lv_at hl 4 rfl) ?_
        refine lv_icmp_ne (tgt := 65) hx hb dX6_part_51 (by decide) (fun c8 => ?_) (fun c8 => ?_)
        · replace hf := oel c8 hf
          obtain ⟨y9, ey9⟩ : ∃ y : Int32, y = v5 + 1 := ⟨_, rfl⟩
          replace hf := onm ey9 hf
          refine lv_iinc (v := y9) (lv' := [(5, .int y9), (0, .ref (w 0)), (1, .int v1), (2, .int v2), (3, .int v3), (4, .int v4)]) hx hb dX6_part_65 hl (k := 5) rfl (by rw [ey9]; rfl) (by decide) rfl (fun ls hl => ?_)
          refine lv_goto (tgt := 34) hx hb dX6_part_68 (by decide) ?_
          exact ih v1 v2 v3 v4 y9 w_w w_undos w_from w_heldSort w_heldNumber H locs ls z hP hS (lv_sub hl [1, 2, 3, 4, 5, 0] rfl) hf K
        · replace hf := oif c8 hf
          refine lv_aload_n hx hb dX6_part_54 rfl (lv_at hl 0 rfl) ?_
          refine va_get (D := D) (ci := 6) (v := .ref (w 7)) (C := RX6) (T := TX6) (N := 12) hx hb hts hI_X6 hown hK hP 0 rfl rfl 9 (by decide) gf30 (fun _ h9 => h9) rfl dX6_part_55 ?_
          refine lv_iload_n hx hb dX6_part_58 rfl (lv_at hl 3 rfl) ?_
          refine lv_iload hx hb dX6_part_59 (lv_at hl 5 rfl) ?_
          obtain ⟨h10, hf⟩ := ogd hf
          refine va_iast hx hb hK hP (hD.addr rfl) hS 2 0 rfl rfl (ib_in h10) dX6_part_61 (fun H locs hP _ hS => ?_)
          obtain ⟨h10a, eh10a⟩ : ∃ y : Nat → Int32, y = upd w_from v3.toNatClampNeg v5 := ⟨_, rfl⟩
          replace hf := onm eh10a hf
          have hP : va_P D vwCl [oX6 w w_undos w_seed w_entries, aJ cJ (w 1) 3420 w_w, aI cI (w 7) 12 h10a, aJ cJ (w 8) 12 w_heldSort, aJ cJ (w 9) 12 w_heldNumber] H := by rw [eh10a]; exact hP
          obtain ⟨y11, ey11⟩ : ∃ y : Int32, y = v3 + 1 := ⟨_, rfl⟩
          replace hf := onm ey11 hf
          refine lv_iinc (v := y11) (lv' := [(3, .int y11), (0, .ref (w 0)), (1, .int v1), (2, .int v2), (4, .int v4), (5, .int v5)]) hx hb dX6_part_62 hl (k := 3) rfl (by rw [ey11]; rfl) (by decide) rfl (fun ls hl => ?_)
          obtain ⟨y12, ey12⟩ : ∃ y : Int32, y = v5 + 1 := ⟨_, rfl⟩
          replace hf := onm ey12 hf
          refine lv_iinc (v := y12) (lv' := [(5, .int y12), (3, .int y11), (0, .ref (w 0)), (1, .int v1), (2, .int v2), (4, .int v4)]) hx hb dX6_part_65 hl (k := 5) rfl (by rw [ey12]; rfl) (by decide) rfl (fun ls hl => ?_)
          refine lv_goto (tgt := 34) hx hb dX6_part_68 (by decide) ?_
          exact ih v1 v2 y11 v4 y12 w_w w_undos h10a w_heldSort w_heldNumber H locs ls z hP hS (lv_sub hl [2, 3, 4, 1, 5, 0] rfl) hf K
  have W25 : ∀ (n : Nat) (v1 : Int32) (v2 : Int32) (v3 : Int32) (v4 : Int32) (w_w : Nat → Int64) (w_undos : Int32) (w_from : Nat → Int32) (w_heldSort : Nat → Int64) (w_heldNumber : Nat → Int64) (H : Heap) (locs : List Loc) (ls : Array Slot) (z : (Nat → Int32)), va_P D vwCl [oX6 w w_undos w_seed w_entries, aJ cJ (w 1) 3420 w_w, aI cI (w 7) 12 w_from, aJ cJ (w 8) 12 w_heldSort, aJ cJ (w 9) 12 w_heldNumber] H → va_S A s.heap H locs → lv_has ls 6 [(0, .ref (w 0)), (1, .int v1), (2, .int v2), (3, .int v3), (4, .int v4)] → L_X6_part_25 w_w v1 v2 n v3 v4 w_from = some z → (∀ (H : Heap) (locs : List Loc) (ls : Array Slot), va_P D vwCl [oX6 w w_undos w_seed w_entries, aJ cJ (w 1) 3420 w_w, aI cI (w 7) 12 z, aJ cJ (w 8) 12 w_heldSort, aJ cJ (w 9) 12 w_heldNumber] H → va_S A s.heap H locs → lv_has ls 6 [(0, .ref (w 0)), (1, .int v1), (2, .int v2)] → W p l e { frames := 7, cells := 0, slots := 0, locals := 176 } s m args below meth c H locs 0 0 (MQ below (QwI D zr (fun u => [oX6 w u.2.1 w_seed w_entries, aJ cJ (w 1) 3420 u.1, aI cI (w 7) 12 u.2.2.1, aJ cJ (w 8) 12 u.2.2.2.1, aJ cJ (w 9) 12 u.2.2.2.2]) A) args s 0 0 A) (F0 m 77 ls [])) → W p l e { frames := 7, cells := 0, slots := 0, locals := 176 } s m args below meth c H locs 0 0 (MQ below (QwI D zr (fun u => [oX6 w u.2.1 w_seed w_entries, aJ cJ (w 1) 3420 u.1, aI cI (w 7) 12 u.2.2.1, aJ cJ (w 8) 12 u.2.2.2.1, aJ cJ (w 9) 12 u.2.2.2.2]) A) args s 0 0 A) (F0 m 25 ls []) := by
    intro n
    induction n with
    | zero =>
      intro v1 v2 v3 v4 w_w w_undos w_from w_heldSort w_heldNumber H locs ls z hP hS hl hf
      exact absurd (show (none : Option ((Nat → Int32))) = some z from hf) (fun h => by cases h)
    | succ n ih =>
      intro v1 v2 v3 v4 w_w w_undos w_from w_heldSort w_heldNumber H locs ls z hP hS hl hf K
      rw [L_X6_part_25] at hf
      refine lv_iload hx hb dX6_part_25 (lv_at hl 4 rfl) ?_
      refine lv_iconst (v := 2) hx hb dX6_part_27 (by decide) ?_
      refine lv_icmp_ge (tgt := 77) hx hb dX6_part_28 (by decide) (fun c5 => ?_) (fun c5 => ?_)
      · replace hf := oif c5 hf
        have hf := Option.some.inj hf
        subst hf
        exact K H locs ls hP hS (lv_sub hl [0, 1, 2] rfl)
      · replace hf := oel c5 hf
        refine lv_iconst (v := 0) hx hb dX6_part_31 (by decide) ?_
        refine lv_istore (lv' := [(5, .int 0), (0, .ref (w 0)), (1, .int v1), (2, .int v2), (3, .int v3), (4, .int v4)]) hx hb dX6_part_32 hl (by decide) rfl (fun ls hl => ?_)
        obtain ⟨z13, hz13, hf⟩ := obd hf
        refine W34 4000 v1 v2 v3 v4 0 w_w w_undos w_from w_heldSort w_heldNumber H locs ls z13 hP hS (lv_sub hl [1, 2, 3, 4, 5, 0] rfl) hz13 (fun H locs ls hP hS hl => ?_)
        obtain ⟨y14, ey14⟩ : ∃ y : Int32, y = v4 + 1 := ⟨_, rfl⟩
        replace hf := onm ey14 hf
        refine lv_iinc (v := y14) (lv' := [(4, .int y14), (0, .ref (w 0)), (1, .int v1), (2, .int v2), (3, .int z13.1)]) hx hb dX6_part_71 hl (k := 4) rfl (by rw [ey14]; rfl) (by decide) rfl (fun ls hl => ?_)
        refine lv_goto (tgt := 25) hx hb dX6_part_74 (by decide) ?_
        exact ih v1 v2 z13.1 y14 w_w w_undos z13.2 w_heldSort w_heldNumber H locs ls z hP hS (lv_sub hl [1, 2, 3, 4, 0] rfl) hf K
  unfold f_X6_part at hf
  have go : ∀ (H : Heap) (locs : List Loc), va_P D vwCl [oX6 w w_undos w_seed w_entries, aJ cJ (w 1) 3420 w_w, aI cI (w 7) 12 w_from, aJ cJ (w 8) 12 w_heldSort, aJ cJ (w 9) 12 w_heldNumber] H → va_S A s.heap H locs → W p l e { frames := 7, cells := 0, slots := 0, locals := 176 } s m args below meth c H locs 0 0 (MQ below (QwI D zr (fun u => [oX6 w u.2.1 w_seed w_entries, aJ cJ (w 1) 3420 u.1, aI cI (w 7) 12 u.2.2.1, aJ cJ (w 8) 12 u.2.2.2.1, aJ cJ (w 9) 12 u.2.2.2.2]) A) args s 0 0 A) (F0 m 0 ls []) := by
    intro H locs hP hS
    refine lv_aload_n hx hb dX6_part_0 rfl (lv_at hl 0 rfl) ?_
    refine lv_iload_n hx hb dX6_part_1 rfl (lv_at hl 1 rfl) ?_
    obtain ⟨z1, hz1, hf⟩ := obd hf
    refine kZ (runV (As := [.int x1]) (rest := []) C0 hE hAb hP ((hD.weaken (fun _ _ _ h9 => hAb _ h9)).addr rfl) hS [0, 1] (wc := [oX6 w w_undos w_seed w_entries, aJ cJ (w 1) 3420 w_w]) (by decide) rfl 0 rfl rfl (c_X6_isPlace l D cI cJ cZ cQ bs H.size w w_undos w_seed w_entries w_w x1 z1 hz1) (cwV 1 hts gX6_part_X6_isPlace rfl rfl rfl (by decide +kernel) ⟨Nat.le_of_ble_eq_true rfl, Nat.le_of_ble_eq_true rfl⟩) rfl hl.1 rfl (Nat.le_of_ble_eq_true rfl) dX6_part_2 ⟨Nat.le_of_ble_eq_true rfl, Nat.le_of_ble_eq_true rfl⟩) hS hP (fun bz1 H locs hP hS => ?_)
    refine lv_if_ne (tgt := 11) hx hb dX6_part_5 (by decide) (fun c2 => ?_) (fun c2 => ?_)
    · replace hf := oel c2 hf
      refine lv_aload_n hx hb dX6_part_11 rfl (lv_at hl 0 rfl) ?_
      obtain ⟨z3, hz3, hf⟩ := obd hf
      refine kwV (runV (As := []) (rest := []) C0 hE hAb hP ((hD.weaken (fun _ _ _ h9 => hAb _ h9)).addr rfl) hS [0, 1] (wc := [oX6 w w_undos w_seed w_entries, aJ cJ (w 1) 3420 w_w]) (by decide) rfl 0 rfl rfl (c_X6_minds l D cI cJ cZ cQ bs H.size w w_undos w_seed w_entries w_w z3 hz3) (cwV 0 hts gX6_part_X6_minds rfl rfl rfl (by decide +kernel) ⟨Nat.le_of_ble_eq_true rfl, Nat.le_of_ble_eq_true rfl⟩) rfl hl.1 rfl (Nat.le_of_ble_eq_true rfl) dX6_part_12 ⟨Nat.le_of_ble_eq_true rfl, Nat.le_of_ble_eq_true rfl⟩) hS hP (hD.addr rfl) hA [0, 1] rfl rfl (ws' := [oX6 w z3.2 w_seed w_entries, aJ cJ (w 1) 3420 z3.1, aI cI (w 7) 12 w_from, aJ cJ (w 8) 12 w_heldSort, aJ cJ (w 9) 12 w_heldNumber]) rfl rfl (fun H locs hP hS => ?_)
      refine lv_aload_n hx hb dX6_part_15 rfl (lv_at hl 0 rfl) ?_
      obtain ⟨z4, hz4, hf⟩ := obd hf
      refine kI (runV (As := []) (rest := []) C0 hE hAb hP ((hD.weaken (fun _ _ _ h9 => hAb _ h9)).addr rfl) hS [0, 1] (wc := [oX6 w z3.2 w_seed w_entries, aJ cJ (w 1) 3420 z3.1]) (by decide) rfl 0 rfl rfl (c_X6_places l D cI cJ cZ cQ bs H.size w z3.2 w_seed w_entries z3.1 z4 hz4) (cwV 0 hts gX6_part_X6_places rfl rfl rfl (by decide +kernel) ⟨Nat.le_of_ble_eq_true rfl, Nat.le_of_ble_eq_true rfl⟩) rfl hl.1 rfl (Nat.le_of_ble_eq_true rfl) dX6_part_16 ⟨Nat.le_of_ble_eq_true rfl, Nat.le_of_ble_eq_true rfl⟩) hS hP (fun H locs hP hS => ?_)
      refine lv_istore_n (lv' := [(2, .int z4), (0, .ref (w 0)), (1, .int x1)]) hx hb dX6_part_19 rfl hl (by decide) rfl (fun ls hl => ?_)
      refine lv_iconst (v := 0) hx hb dX6_part_20 (by decide) ?_
      refine lv_istore_n (lv' := [(3, .int 0), (2, .int z4), (0, .ref (w 0)), (1, .int x1)]) hx hb dX6_part_21 rfl hl (by decide) rfl (fun ls hl => ?_)
      refine lv_iconst (v := (-1)) hx hb dX6_part_22 (by decide) ?_
      refine lv_istore (lv' := [(4, .int (-1)), (3, .int 0), (2, .int z4), (0, .ref (w 0)), (1, .int x1)]) hx hb dX6_part_23 hl (by decide) rfl (fun ls hl => ?_)
      obtain ⟨z15, hz15, hf⟩ := obd hf
      refine W25 4000 x1 z4 0 (-1) z3.1 z3.2 w_from w_heldSort w_heldNumber H locs ls z15 hP hS (lv_sub hl [3, 4, 2, 1, 0] rfl) hz15 (fun H locs ls hP hS hl => ?_)
      refine lv_aload_n hx hb dX6_part_77 rfl (lv_at hl 0 rfl) ?_
      refine lv_iload_n hx hb dX6_part_78 rfl (lv_at hl 1 rfl) ?_
      refine lv_iload_n hx hb dX6_part_79 rfl (lv_at hl 2 rfl) ?_
      obtain ⟨z16, hz16, hf⟩ := obd hf
      refine kI (runV (As := [.int x1, .int z4]) (rest := []) C0 hE hAb hP ((hD.weaken (fun _ _ _ h9 => hAb _ h9)).addr rfl) hS [0, 1] (wc := [oX6 w z3.2 w_seed w_entries, aJ cJ (w 1) 3420 z3.1]) (by decide) rfl 0 rfl rfl (c_X6_lessThan l D cI cJ cZ cQ bs H.size w z3.2 w_seed w_entries z3.1 x1 z4 z16 hz16) (cwV 2 hts gX6_part_X6_lessThan rfl rfl rfl (by decide +kernel) ⟨Nat.le_of_ble_eq_true rfl, Nat.le_of_ble_eq_true rfl⟩) rfl hl.1 rfl (Nat.le_of_ble_eq_true rfl) dX6_part_80 ⟨Nat.le_of_ble_eq_true rfl, Nat.le_of_ble_eq_true rfl⟩) hS hP (fun H locs hP hS => ?_)
      refine lv_istore (lv' := [(4, .int z16), (0, .ref (w 0)), (1, .int x1), (2, .int z4)]) hx hb dX6_part_83 hl (by decide) rfl (fun ls hl => ?_)
      refine lv_aload_n hx hb dX6_part_85 rfl (lv_at hl 1 rfl) ?_
      refine lv_iload_n hx hb dX6_part_86 rfl (lv_at hl 2 rfl) ?_
      refine lv_iload_n hx hb dX6_part_87 rfl (lv_at hl 3 rfl) ?_
      obtain ⟨z17, hz17, hf⟩ := obd hf
      refine kI (runV (As := [.int x1, .int z4]) (rest := []) C0 hE hAb hP ((hD.weaken (fun _ _ _ h9 => hAb _ h9)).addr rfl) hS [0, 1] (wc := [oX6 w z3.2 w_seed w_entries, aJ cJ (w 1) 3420 z3.1]) (by decide) rfl 0 rfl rfl (c_X6_alikeTo l D cI cJ cZ cQ bs H.size w z3.2 w_seed w_entries z3.1 x1 z4 z17 hz17) (cwV 2 hts gX6_part_X6_alikeTo rfl rfl rfl (by decide +kernel) ⟨Nat.le_of_ble_eq_true rfl, Nat.le_of_ble_eq_true rfl⟩) rfl hl.1 rfl (Nat.le_of_ble_eq_true rfl) dX6_part_88 ⟨Nat.le_of_ble_eq_true rfl, Nat.le_of_ble_eq_true rfl⟩) hS hP (fun H locs hP hS => ?_)
      refine lv_istore (lv' := [(5, .int z17), (4, .int z16), (0, .ref (w 0)), (1, .int x1), (2, .int z4)]) hx hb dX6_part_91 hl (by decide) rfl (fun ls hl => ?_)
      refine lv_aload_n hx hb dX6_part_93 rfl (lv_at hl 2 rfl) ?_
      refine lv_iload_n hx hb dX6_part_94 rfl (lv_at hl 4 rfl) ?_
      obtain ⟨z18, hz18, hf⟩ := obd hf
      refine kwI (runV (As := [.int z4]) (rest := []) C0 hE hAb hP ((hD.weaken (fun _ _ _ h9 => hAb _ h9)).addr rfl) hS [0, 1, 2, 3, 4] (wc := [oX6 w z3.2 w_seed w_entries, aJ cJ (w 1) 3420 z3.1, aI cI (w 7) 12 z15, aJ cJ (w 8) 12 w_heldSort, aJ cJ (w 9) 12 w_heldNumber]) (by decide) rfl 0 rfl rfl (c_X6_moves l D cI cJ cZ cQ bs H.size w z3.2 w_seed w_entries z3.1 z15 w_heldSort w_heldNumber z4 z18 hz18) (cwV 1 hts gX6_part_X6_moves rfl rfl rfl (by decide +kernel) ⟨Nat.le_of_ble_eq_true rfl, Nat.le_of_ble_eq_true rfl⟩) rfl hl.1 rfl (Nat.le_of_ble_eq_true rfl) dX6_part_95 ⟨Nat.le_of_ble_eq_true rfl, Nat.le_of_ble_eq_true rfl⟩) hS hP (hD.addr rfl) hA [0, 1, 2, 3, 4] rfl rfl (ws' := [oX6 w z3.2 w_seed w_entries, aJ cJ (w 1) 3420 z18.2.1, aI cI (w 7) 12 z15, aJ cJ (w 8) 12 z18.2.2.1, aJ cJ (w 9) 12 z18.2.2.2]) rfl rfl (fun H locs hP hS => ?_)
      refine lv_pop hx hb dX6_part_98 rfl ?_
      refine lv_bipush (v := 100) hx hb dX6_part_99 (by decide) ?_
      refine lv_iload hx hb dX6_part_101 (lv_at hl 1 rfl) ?_
      refine lv_imul hx hb dX6_part_103 ?_
      refine lv_iload hx hb dX6_part_104 (lv_at hl 0 rfl) ?_
      refine lv_iadd hx hb dX6_part_106 ?_
      have er := Option.some.inj hf
      exact rwI (wm := (fun u => [oX6 w u.2.1 w_seed w_entries, aJ cJ (w 1) 3420 u.1, aI cI (w 7) 12 u.2.2.1, aJ cJ (w 8) 12 u.2.2.2.1, aJ cJ (w 9) 12 u.2.2.2.2])) hx hb hr hS dX6_part_107 hP er hlocks
    · replace hf := oif c2 hf
      refine lv_ldc hx hb hown gk198 dX6_part_8 ?_
      have er := Option.some.inj hf
      exact rwI (wm := (fun u => [oX6 w u.2.1 w_seed w_entries, aJ cJ (w 1) 3420 u.1, aI cI (w 7) 12 u.2.2.1, aJ cJ (w 8) 12 u.2.2.2.1, aJ cJ (w 9) 12 u.2.2.2.2])) hx hb hr hS dX6_part_10 hP er hlocks
  exact go s.heap [] hP hS
