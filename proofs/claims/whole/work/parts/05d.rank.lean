noncomputable def f_X1_add (k_places : Nat → Int32) (k_positions : Nat → Int32) (k_count : Int32) (x1 : Int32) (x2 : Int32) : Option ((Nat → Int32) × (Nat → Int32) × Int32) := if k_count < 0 then (some ((k_places, k_positions, k_count))) else (if 20 ≤ k_count then (some ((k_places, k_positions, k_count))) else (if ib k_count 20 = true then ((some (upd k_places k_count.toNatClampNeg x1 : Nat → Int32)).bind (fun h3a => if ib k_count 20 = true then ((some (upd k_positions k_count.toNatClampNeg x2 : Nat → Int32)).bind (fun h4a => some ((h3a, h4a, (k_count + 1))))) else none)) else none))
set_option maxHeartbeats 4000000 in
set_option maxRecDepth 100000 in
theorem c_X1_add (l : Launch) (D : va_G) (cI cJ cZ cQ : ClassId) (bs sz : Nat) (k : Nat → Nat) (k_count : Int32) (k_places : Nat → Int32) (k_positions : Nat → Int32) (x1 : Int32) (x2 : Int32) (zr : (Nat → Int32) × (Nat → Int32) × Int32) (hf : f_X1_add k_places k_positions k_count x1 x2 = some zr) : Met l yX1_add wsX1_add { frames := 0, cells := 0, slots := 0, locals := 0 } (va_Pc [.ref (k 0), .int x1, .int x2] (Pr D cI cJ cZ cQ bs sz [oX1 k k_count, aI cI (k 1) 20 k_places, aI cI (k 2) 20 k_positions])) (QwV D zr (fun u => [oX1 k u.2.2, aI cI (k 1) 20 u.1, aI cI (k 2) 20 u.2.1]) (va_A [oX1 k k_count, aI cI (k 1) 20 k_places, aI cI (k 2) 20 k_positions] sz)) 0 0 (va_A [oX1 k k_count, aI cI (k 1) 20 k_places, aI cI (k 2) 20 k_positions] sz) := by
  refine stW (cc := cX1_add) (maxL := 3) (ret := none) (Qf := fun A => (QwV D zr (fun u => [oX1 k u.2.2, aI cI (k 1) 20 u.1, aI cI (k 2) 20 u.2.1]) A)) (by decide +kernel) rfl (Nat.le_of_ble_eq_true rfl) ?_
  intro p e s m args below meth c A C0 hr hlocks hname hsz hP hD hA hAb hE ls hl
  obtain ⟨hx, hb, hml, hown, hts⟩ := id C0
  have hown : s.vm.findClass RX1 = some m.cls := hown
  obtain ⟨hK, hNW, -, tw, hZ, hT⟩ := id hE
  have hl : lv_has ls 3 [(0, .ref (k 0)), (1, .int x1), (2, .int x2)] := hl
  have hS : va_S A s.heap s.heap [] := va_S.rf
  have hI_X1 := (show ∀ w ∈ wsX10, w ∈ wsX1_add by decide +kernel)
  have gf18 := hts (.fieldLink RX1 18 "RowRanks$Book" "count" "I") (by decide +kernel)
  have gf9 := hts (.fieldLink RX1 9 "RowRanks$Book" "places" "[I") (by decide +kernel)
  have gf15 := hts (.fieldLink RX1 15 "RowRanks$Book" "positions" "[I") (by decide +kernel)
  unfold f_X1_add at hf
  have go : ∀ (H : Heap) (locs : List Loc), va_P D vwCl [oX1 k k_count, aI cI (k 1) 20 k_places, aI cI (k 2) 20 k_positions] H → va_S A s.heap H locs → W p l e { frames := 0, cells := 0, slots := 0, locals := 0 } s m args below meth c H locs 0 0 (MQ below (QwV D zr (fun u => [oX1 k u.2.2, aI cI (k 1) 20 u.1, aI cI (k 2) 20 u.2.1]) A) args s 0 0 A) (F0 m 0 ls []) := by
    intro H locs hP hS
    refine lv_aload_n hx hb dX1_add_0 rfl (lv_at hl 0 rfl) ?_
    refine va_get (D := D) (ci := 1) (v := .int k_count) (C := RX1) (T := TX1) (N := 3) hx hb hts hI_X1 hown hK hP 0 rfl rfl 2 (by decide) gf18 (fun _ h9 => h9) rfl dX1_add_1 ?_
    refine lv_if_lt (tgt := 46) hx hb dX1_add_4 (by decide) (fun c1 => ?_) (fun c1 => ?_)
    · replace hf := oif c1 hf
      have er := Option.some.inj hf
      exact rwV (wm := (fun u => [oX1 k u.2.2, aI cI (k 1) 20 u.1, aI cI (k 2) 20 u.2.1])) hx hb hr hS dX1_add_46 hP er hlocks
    · replace hf := oel c1 hf
      refine lv_aload_n hx hb dX1_add_7 rfl (lv_at hl 0 rfl) ?_
      refine va_get (D := D) (ci := 1) (v := .int k_count) (C := RX1) (T := TX1) (N := 3) hx hb hts hI_X1 hown hK hP 0 rfl rfl 2 (by decide) gf18 (fun _ h9 => h9) rfl dX1_add_8 ?_
      refine lv_bipush (v := 20) hx hb dX1_add_11 (by decide) ?_
      refine lv_icmp_ge (tgt := 46) hx hb dX1_add_13 (by decide) (fun c2 => ?_) (fun c2 => ?_)
      · replace hf := oif c2 hf
        have er := Option.some.inj hf
        exact rwV (wm := (fun u => [oX1 k u.2.2, aI cI (k 1) 20 u.1, aI cI (k 2) 20 u.2.1])) hx hb hr hS dX1_add_46 hP er hlocks
      · replace hf := oel c2 hf
        refine lv_aload_n hx hb dX1_add_16 rfl (lv_at hl 0 rfl) ?_
        refine va_get (D := D) (ci := 1) (v := .ref (k 1)) (C := RX1) (T := TX1) (N := 3) hx hb hts hI_X1 hown hK hP 0 rfl rfl 0 (by decide) gf9 (fun _ h9 => h9) rfl dX1_add_17 ?_
        refine lv_aload_n hx hb dX1_add_20 rfl (lv_at hl 0 rfl) ?_
        refine va_get (D := D) (ci := 1) (v := .int k_count) (C := RX1) (T := TX1) (N := 3) hx hb hts hI_X1 hown hK hP 0 rfl rfl 2 (by decide) gf18 (fun _ h9 => h9) rfl dX1_add_21 ?_
        refine lv_iload_n hx hb dX1_add_24 rfl (lv_at hl 1 rfl) ?_
        obtain ⟨h3, hf⟩ := ogd hf
        refine va_iast hx hb hK hP (hD.addr rfl) hS 1 0 rfl rfl (ib_in h3) dX1_add_25 (fun H locs hP _ hS => ?_)
        obtain ⟨h3a, eh3a⟩ : ∃ y : Nat → Int32, y = upd k_places k_count.toNatClampNeg x1 := ⟨_, rfl⟩
        replace hf := onm eh3a hf
        have hP : va_P D vwCl [oX1 k k_count, aI cI (k 1) 20 h3a, aI cI (k 2) 20 k_positions] H := by rw [eh3a]; exact hP
        refine lv_aload_n hx hb dX1_add_26 rfl (lv_at hl 0 rfl) ?_
        refine va_get (D := D) (ci := 1) (v := .ref (k 2)) (C := RX1) (T := TX1) (N := 3) hx hb hts hI_X1 hown hK hP 0 rfl rfl 1 (by decide) gf15 (fun _ h9 => h9) rfl dX1_add_27 ?_
        refine lv_aload_n hx hb dX1_add_30 rfl (lv_at hl 0 rfl) ?_
        refine va_get (D := D) (ci := 1) (v := .int k_count) (C := RX1) (T := TX1) (N := 3) hx hb hts hI_X1 hown hK hP 0 rfl rfl 2 (by decide) gf18 (fun _ h9 => h9) rfl dX1_add_31 ?_
        refine lv_iload_n hx hb dX1_add_34 rfl (lv_at hl 2 rfl) ?_
        obtain ⟨h4, hf⟩ := ogd hf
        refine va_iast hx hb hK hP (hD.addr rfl) hS 2 0 rfl rfl (ib_in h4) dX1_add_35 (fun H locs hP _ hS => ?_)
        obtain ⟨h4a, eh4a⟩ : ∃ y : Nat → Int32, y = upd k_positions k_count.toNatClampNeg x2 := ⟨_, rfl⟩
        replace hf := onm eh4a hf
        have hP : va_P D vwCl [oX1 k k_count, aI cI (k 1) 20 h3a, aI cI (k 2) 20 h4a] H := by rw [eh4a]; exact hP
        refine lv_aload_n hx hb dX1_add_36 rfl (lv_at hl 0 rfl) ?_
        refine lv_dup hx hb dX1_add_37 rfl ?_
        refine va_get (D := D) (ci := 1) (v := .int k_count) (C := RX1) (T := TX1) (N := 3) hx hb hts hI_X1 hown hK hP 0 rfl rfl 2 (by decide) gf18 (fun _ h9 => h9) rfl dX1_add_38 ?_
        refine lv_iconst (v := 1) hx hb dX1_add_41 (by decide) ?_
        refine lv_iadd hx hb dX1_add_42 ?_
        refine va_put (D := D) (ci := 1) (v := .int (k_count + 1)) (ty := .int) (C := RX1) (T := TX1) (N := 3) hx hb hts hI_X1 tyX1 tyX1_ok nmX1 hown hK hP (hD.addr rfl) hS 0 rfl rfl 2 (by decide) gf18 (fun _ h9 => h9) rfl (by decide +kernel) rfl rfl (Nat.le_of_ble_eq_true rfl) dX1_add_43 (fun H locs hP _ hS => ?_)
        have hP : va_P D vwCl [oX1 k (k_count + 1), aI cI (k 1) 20 h3a, aI cI (k 2) 20 h4a] H := hP
        have er := Option.some.inj hf
        exact rwV (wm := (fun u => [oX1 k u.2.2, aI cI (k 1) 20 u.1, aI cI (k 2) 20 u.2.1])) hx hb hr hS dX1_add_46 hP er hlocks
  exact go s.heap [] hP hS
noncomputable def f_X4_isPlace (r_length : Int32) (x1 : Int32) : Option (Int32) := if x1 < 0 then (some (0)) else (if r_length ≤ x1 then (some (0)) else (if 12 ≤ x1 then (some (0)) else (some (1))))
set_option maxHeartbeats 4000000 in
set_option maxRecDepth 100000 in
theorem c_X4_isPlace (l : Launch) (D : va_G) (cI cJ cZ cQ : ClassId) (bs sz : Nat) (r : Nat → Nat) (r_length : Int32) (x1 : Int32) (zr : Int32) (hf : f_X4_isPlace r_length x1 = some zr) : Met l yX4_isPlace wsX4_isPlace { frames := 0, cells := 0, slots := 0, locals := 0 } (va_Pc [.ref (r 0), .int x1] (Pr D cI cJ cZ cQ bs sz [oX4 r r_length])) (QrZ zr) 0 0 no := by
  refine stM (cc := cX4_isPlace) (maxL := 2) (ret := (some .boolean)) (by decide +kernel) rfl (Nat.le_of_ble_eq_true rfl) ?_
  intro p e s m args below meth c C0 hr hlocks hname hsz hP hDb hE ls hl
  have hAb : ∀ q, no q → bs ≤ q := fun _ h => h.elim
  obtain ⟨hx, hb, hml, hown, hts⟩ := id C0
  have hown : s.vm.findClass RX4 = some m.cls := hown
  obtain ⟨hK, hNW, -, tw, hZ, hT⟩ := id hE
  have hl : lv_has ls 2 [(0, .ref (r 0)), (1, .int x1)] := hl
  have hS : va_S no s.heap s.heap [] := va_S.rf
  have hI_X4 := (show ∀ w ∈ wsX40, w ∈ wsX4_isPlace by decide +kernel)
  have gf36 := hts (.fieldLink RX4 36 "RowRanks$Ranking" "length" "I") (by decide +kernel)
  unfold f_X4_isPlace at hf
  have go : ∀ (H : Heap) (locs : List Loc), va_P D vwCl [oX4 r r_length] H → va_S no s.heap H locs → W p l e { frames := 0, cells := 0, slots := 0, locals := 0 } s m args below meth c H locs 0 0 (MQ below (QrZ zr) args s 0 0 no) (F0 m 0 ls []) := by
    intro H locs hP hS
    refine lv_iload_n hx hb dX4_isPlace_0 rfl (lv_at hl 1 rfl) ?_
    refine lv_if_lt (tgt := 22) hx hb dX4_isPlace_1 (by decide) (fun c1 => ?_) (fun c1 => ?_)
    · replace hf := oif c1 hf
      refine lv_iconst (v := 0) hx hb dX4_isPlace_22 (by decide) ?_
      have er := Option.some.inj hf
      exact rtZ hx hb hr hS dX4_isPlace_23 er (by decide) hlocks
    · replace hf := oel c1 hf
      refine lv_iload_n hx hb dX4_isPlace_4 rfl (lv_at hl 1 rfl) ?_
      refine lv_aload_n hx hb dX4_isPlace_5 rfl (lv_at hl 0 rfl) ?_
      refine va_get (D := D) (ci := 4) (v := .int r_length) (C := RX4) (T := TX4) (N := 5) hx hb hts hI_X4 hown hK hP 0 rfl rfl 4 (by decide) gf36 (fun _ h9 => h9) rfl dX4_isPlace_6 ?_
      refine lv_icmp_ge (tgt := 22) hx hb dX4_isPlace_9 (by decide) (fun c2 => ?_) (fun c2 => ?_)
      · replace hf := oif c2 hf
        refine lv_iconst (v := 0) hx hb dX4_isPlace_22 (by decide) ?_
        have er := Option.some.inj hf
        exact rtZ hx hb hr hS dX4_isPlace_23 er (by decide) hlocks
      · replace hf := oel c2 hf
        refine lv_iload_n hx hb dX4_isPlace_12 rfl (lv_at hl 1 rfl) ?_
        refine lv_bipush (v := 12) hx hb dX4_isPlace_13 (by decide) ?_
        refine lv_icmp_ge (tgt := 22) hx hb dX4_isPlace_15 (by decide) (fun c3 => ?_) (fun c3 => ?_)
        · replace hf := oif c3 hf
          refine lv_iconst (v := 0) hx hb dX4_isPlace_22 (by decide) ?_
          have er := Option.some.inj hf
          exact rtZ hx hb hr hS dX4_isPlace_23 er (by decide) hlocks
        · replace hf := oel c3 hf
          refine lv_iconst (v := 1) hx hb dX4_isPlace_18 (by decide) ?_
          refine lv_goto (tgt := 23) hx hb dX4_isPlace_19 (by decide) ?_
          have er := Option.some.inj hf
          exact rtZ hx hb hr hS dX4_isPlace_23 er (by decide) hlocks
  exact go s.heap [] hP hS
noncomputable def f_X4_positionOf (r_positions : Nat → Int32) (r_length : Int32) (x1 : Int32) : Option (Int32) := (f_X4_isPlace r_length x1).bind (fun z1 => if z1 = 0 then (some ((-1))) else (if ib x1 12 = true then (some ((r_positions x1.toNatClampNeg))) else none))
set_option maxHeartbeats 4000000 in
set_option maxRecDepth 100000 in
theorem c_X4_positionOf (l : Launch) (D : va_G) (cI cJ cZ cQ : ClassId) (bs sz : Nat) (r : Nat → Nat) (r_length : Int32) (r_positions : Nat → Int32) (x1 : Int32) (zr : Int32) (hf : f_X4_positionOf r_positions r_length x1 = some zr) : Met l yX4_positionOf wsX4_positionOf { frames := 1, cells := 0, slots := 0, locals := 21 } (va_Pc [.ref (r 0), .int x1] (Pr D cI cJ cZ cQ bs sz [oX4 r r_length, aI cI (r 2) 12 r_positions])) (QrI zr) 0 0 no := by
  refine stM (cc := cX4_positionOf) (maxL := 2) (ret := (some .int)) (by decide +kernel) rfl (Nat.le_of_ble_eq_true rfl) ?_
  intro p e s m args below meth c C0 hr hlocks hname hsz hP hDb hE ls hl
  have hAb : ∀ q, no q → bs ≤ q := fun _ h => h.elim
  obtain ⟨hx, hb, hml, hown, hts⟩ := id C0
  have hown : s.vm.findClass RX4 = some m.cls := hown
  obtain ⟨hK, hNW, -, tw, hZ, hT⟩ := id hE
  have hl : lv_has ls 2 [(0, .ref (r 0)), (1, .int x1)] := hl
  have hS : va_S no s.heap s.heap [] := va_S.rf
  have hI_X4 := (show ∀ w ∈ wsX40, w ∈ wsX4_positionOf by decide +kernel)
  have gf15 := hts (.fieldLink RX4 15 "RowRanks$Ranking" "positions" "[I") (by decide +kernel)
  unfold f_X4_positionOf at hf
  have go : ∀ (H : Heap) (locs : List Loc), va_P D vwCl [oX4 r r_length, aI cI (r 2) 12 r_positions] H → va_S no s.heap H locs → W p l e { frames := 1, cells := 0, slots := 0, locals := 21 } s m args below meth c H locs 0 0 (MQ below (QrI zr) args s 0 0 no) (F0 m 0 ls []) := by
    intro H locs hP hS
    refine lv_aload_n hx hb dX4_positionOf_0 rfl (lv_at hl 0 rfl) ?_
    refine lv_iload_n hx hb dX4_positionOf_1 rfl (lv_at hl 1 rfl) ?_
    obtain ⟨z1, hz1, hf⟩ := obd hf
    refine kZ (runV (As := [.int x1]) (rest := []) C0 hE hAb hP (hDb.addr rfl) hS [0] (wc := [oX4 r r_length]) (by decide) rfl 0 rfl rfl (c_X4_isPlace l D cI cJ cZ cQ bs H.size r r_length x1 z1 hz1) (cwV 1 hts gX4_positionOf_X4_isPlace rfl rfl rfl (by decide +kernel) ⟨Nat.le_of_ble_eq_true rfl, Nat.le_of_ble_eq_true rfl⟩) rfl hl.1 rfl (Nat.le_of_ble_eq_true rfl) dX4_positionOf_2 ⟨Nat.le_of_ble_eq_true rfl, Nat.le_of_ble_eq_true rfl⟩) hS hP (fun bz1 H locs hP hS => ?_)
    refine lv_if_eq (tgt := 17) hx hb dX4_positionOf_5 (by decide) (fun c2 => ?_) (fun c2 => ?_)
    · replace hf := oif c2 hf
      refine lv_iconst (v := (-1)) hx hb dX4_positionOf_17 (by decide) ?_
      have er := Option.some.inj hf
      exact rtI hx hb hr hS dX4_positionOf_18 er hlocks
    · replace hf := oel c2 hf
      refine lv_aload_n hx hb dX4_positionOf_8 rfl (lv_at hl 0 rfl) ?_
      refine va_get (D := D) (ci := 4) (v := .ref (r 2)) (C := RX4) (T := TX4) (N := 5) hx hb hts hI_X4 hown hK hP 0 rfl rfl 1 (by decide) gf15 (fun _ h9 => h9) rfl dX4_positionOf_9 ?_
      refine lv_iload_n hx hb dX4_positionOf_12 rfl (lv_at hl 1 rfl) ?_
      obtain ⟨h3, hf⟩ := ogd hf
      refine va_iald hx hb hK hP 1 0 rfl rfl (ib_in h3) dX4_positionOf_13 ?_
      refine lv_goto (tgt := 18) hx hb dX4_positionOf_14 (by decide) ?_
      have er := Option.some.inj hf
      exact rtI hx hb hr hS dX4_positionOf_18 er hlocks
  exact go s.heap [] hP hS
noncomputable def L_X1_firstWrong_2 (k_places : Nat → Int32) (k_positions : Nat → Int32) (k_count : Int32) (r_positions : Nat → Int32) (r_length : Int32) : Nat → Int32 → Option ((Unit) ⊕ (Int32))
  | 0, _ => none
  | n + 1, v2 => if k_count ≤ v2 then (some (.inl (()))) else (if 20 ≤ v2 then (some (.inl (()))) else (if ib v2 20 = true then ((f_X4_isPlace r_length (k_places v2.toNatClampNeg)).bind (fun z4 => if z4 = 0 then (some (.inr (v2))) else (if ib v2 20 = true then ((f_X4_positionOf r_positions r_length (k_places v2.toNatClampNeg)).bind (fun z7 => if ib v2 20 = true then (if z7 = (k_positions v2.toNatClampNeg) then ((some (v2 + 1 : Int32)).bind (fun y10 => L_X1_firstWrong_2 k_places k_positions k_count r_positions r_length n y10)) else (some (.inr (v2)))) else none)) else none))) else none))
noncomputable def f_X1_firstWrong (k_places : Nat → Int32) (k_positions : Nat → Int32) (k_count : Int32) (r_positions : Nat → Int32) (r_length : Int32) : Option (Int32) := (L_X1_firstWrong_2 k_places k_positions k_count r_positions r_length 4000 0).bind (fun z11 => Sum.elim (fun e12 => some ((-1))) (fun r9 => some (r9)) z11)
set_option maxHeartbeats 4000000 in
set_option maxRecDepth 100000 in
theorem c_X1_firstWrong (l : Launch) (D : va_G) (cI cJ cZ cQ : ClassId) (bs sz : Nat) (k : Nat → Nat) (r : Nat → Nat) (k_count : Int32) (k_places : Nat → Int32) (k_positions : Nat → Int32) (r_length : Int32) (r_positions : Nat → Int32) (zr : Int32) (hf : f_X1_firstWrong k_places k_positions k_count r_positions r_length = some zr) : Met l yX1_firstWrong wsX1_firstWrong { frames := 2, cells := 0, slots := 0, locals := 42 } (va_Pc [.ref (k 0), .ref (r 0)] (Pr D cI cJ cZ cQ bs sz [oX1 k k_count, aI cI (k 1) 20 k_places, aI cI (k 2) 20 k_positions, oX4 r r_length, aI cI (r 2) 12 r_positions])) (QrI zr) 0 0 no := by
  refine stM (cc := cX1_firstWrong) (maxL := 3) (ret := (some .int)) (by decide +kernel) rfl (Nat.le_of_ble_eq_true rfl) ?_
  intro p e s m args below meth c C0 hr hlocks hname hsz hP hDb hE ls hl
  have hAb : ∀ q, no q → bs ≤ q := fun _ h => h.elim
  obtain ⟨hx, hb, hml, hown, hts⟩ := id C0
  have hown : s.vm.findClass RX1 = some m.cls := hown
  obtain ⟨hK, hNW, -, tw, hZ, hT⟩ := id hE
  have hl : lv_has ls 3 [(0, .ref (k 0)), (1, .ref (r 0))] := hl
  have hS : va_S no s.heap s.heap [] := va_S.rf
  have hI_X1 := (show ∀ w ∈ wsX10, w ∈ wsX1_firstWrong by decide +kernel)
  have gf18 := hts (.fieldLink RX1 18 "RowRanks$Book" "count" "I") (by decide +kernel)
  have gf9 := hts (.fieldLink RX1 9 "RowRanks$Book" "places" "[I") (by decide +kernel)
  have gf15 := hts (.fieldLink RX1 15 "RowRanks$Book" "positions" "[I") (by decide +kernel)
  have W2 : ∀ (n : Nat) (v2 : Int32) (H : Heap) (locs : List Loc) (ls : Array Slot) (z : (Unit) ⊕ (Int32)), va_P D vwCl [oX1 k k_count, aI cI (k 1) 20 k_places, aI cI (k 2) 20 k_positions, oX4 r r_length, aI cI (r 2) 12 r_positions] H → va_S no s.heap H locs → lv_has ls 3 [(0, .ref (k 0)), (1, .ref (r 0)), (2, .int v2)] → L_X1_firstWrong_2 k_places k_positions k_count r_positions r_length n v2 = some z → (∀ e9, z = Sum.inl e9 → ∀ (H : Heap) (locs : List Loc) (ls : Array Slot), va_P D vwCl [oX1 k k_count, aI cI (k 1) 20 k_places, aI cI (k 2) 20 k_positions, oX4 r r_length, aI cI (r 2) 12 r_positions] H → va_S no s.heap H locs → lv_has ls 3 [] → W p l e { frames := 2, cells := 0, slots := 0, locals := 42 } s m args below meth c H locs 0 0 (MQ below (QrI zr) args s 0 0 no) (F0 m 56 ls [])) → (∀ r9, z = Sum.inr r9 → r9 = zr) → W p l e { frames := 2, cells := 0, slots := 0, locals := 42 } s m args below meth c H locs 0 0 (MQ below (QrI zr) args s 0 0 no) (F0 m 2 ls []) := by
    intro n
    induction n with
    | zero =>
      intro v2 H locs ls z hP hS hl hf
      exact absurd (show (none : Option ((Unit) ⊕ (Int32))) = some z from hf) (fun h => by cases h)
    | succ n ih =>
      intro v2 H locs ls z hP hS hl hf K K2
      rw [L_X1_firstWrong_2] at hf
      refine lv_iload_n hx hb dX1_firstWrong_2 rfl (lv_at hl 2 rfl) ?_
      refine lv_aload_n hx hb dX1_firstWrong_3 rfl (lv_at hl 0 rfl) ?_
      refine va_get (D := D) (ci := 1) (v := .int k_count) (C := RX1) (T := TX1) (N := 3) hx hb hts hI_X1 hown hK hP 0 rfl rfl 2 (by decide) gf18 (fun _ h9 => h9) rfl dX1_firstWrong_4 ?_
      refine lv_icmp_ge (tgt := 56) hx hb dX1_firstWrong_7 (by decide) (fun c1 => ?_) (fun c1 => ?_)
      · replace hf := oif c1 hf
        exact K _ (Option.some.inj hf).symm H locs ls hP hS (lv_sub hl [] rfl)
      · replace hf := oel c1 hf
        refine lv_iload_n hx hb dX1_firstWrong_10 rfl (lv_at hl 2 rfl) ?_
        refine lv_bipush (v := 20) hx hb dX1_firstWrong_11 (by decide) ?_
        refine lv_icmp_ge (tgt := 56) hx hb dX1_firstWrong_13 (by decide) (fun c2 => ?_) (fun c2 => ?_)
        · replace hf := oif c2 hf
          exact K _ (Option.some.inj hf).symm H locs ls hP hS (lv_sub hl [] rfl)
        · replace hf := oel c2 hf
          refine lv_aload_n hx hb dX1_firstWrong_16 rfl (lv_at hl 1 rfl) ?_
          refine lv_aload_n hx hb dX1_firstWrong_17 rfl (lv_at hl 0 rfl) ?_
          refine va_get (D := D) (ci := 1) (v := .ref (k 1)) (C := RX1) (T := TX1) (N := 3) hx hb hts hI_X1 hown hK hP 0 rfl rfl 0 (by decide) gf9 (fun _ h9 => h9) rfl dX1_firstWrong_18 ?_
          refine lv_iload_n hx hb dX1_firstWrong_21 rfl (lv_at hl 2 rfl) ?_
          obtain ⟨h3, hf⟩ := ogd hf
          refine va_iald hx hb hK hP 1 0 rfl rfl (ib_in h3) dX1_firstWrong_22 ?_
          obtain ⟨z4, hz4, hf⟩ := obd hf
          refine kZ (runV (As := [.int (k_places v2.toNatClampNeg)]) (rest := []) C0 hE hAb hP (hDb.addr rfl) hS [3] (wc := [oX4 r r_length]) (by decide) rfl 3 rfl rfl (c_X4_isPlace l D cI cJ cZ cQ bs H.size r r_length (k_places v2.toNatClampNeg) z4 hz4) (cwV 1 hts gX1_firstWrong_X4_isPlace rfl rfl rfl (by decide +kernel) ⟨Nat.le_of_ble_eq_true rfl, Nat.le_of_ble_eq_true rfl⟩) rfl hl.1 rfl (Nat.le_of_ble_eq_true rfl) dX1_firstWrong_23 ⟨Nat.le_of_ble_eq_true rfl, Nat.le_of_ble_eq_true rfl⟩) hS hP (fun bz4 H locs hP hS => ?_)
          refine lv_if_eq (tgt := 48) hx hb dX1_firstWrong_26 (by decide) (fun c5 => ?_) (fun c5 => ?_)
          · replace hf := oif c5 hf
            refine lv_iload_n hx hb dX1_firstWrong_48 rfl (lv_at hl 2 rfl) ?_
            have er := K2 _ (Option.some.inj hf).symm
            exact rtI hx hb hr hS dX1_firstWrong_49 er hlocks
          · replace hf := oel c5 hf
            refine lv_aload_n hx hb dX1_firstWrong_29 rfl (lv_at hl 1 rfl) ?_
            refine lv_aload_n hx hb dX1_firstWrong_30 rfl (lv_at hl 0 rfl) ?_
            refine va_get (D := D) (ci := 1) (v := .ref (k 1)) (C := RX1) (T := TX1) (N := 3) hx hb hts hI_X1 hown hK hP 0 rfl rfl 0 (by decide) gf9 (fun _ h9 => h9) rfl dX1_firstWrong_31 ?_
            refine lv_iload_n hx hb dX1_firstWrong_34 rfl (lv_at hl 2 rfl) ?_
            obtain ⟨h6, hf⟩ := ogd hf
            refine va_iald hx hb hK hP 1 0 rfl rfl (ib_in h6) dX1_firstWrong_35 ?_
            obtain ⟨z7, hz7, hf⟩ := obd hf
            refine kI (runV (As := [.int (k_places v2.toNatClampNeg)]) (rest := []) C0 hE hAb hP (hDb.addr rfl) hS [3, 4] (wc := [oX4 r r_length, aI cI (r 2) 12 r_positions]) (by decide) rfl 3 rfl rfl (c_X4_positionOf l D cI cJ cZ cQ bs H.size r r_length r_positions (k_places v2.toNatClampNeg) z7 hz7) (cwV 1 hts gX1_firstWrong_X4_positionOf rfl rfl rfl (by decide +kernel) ⟨Nat.le_of_ble_eq_true rfl, Nat.le_of_ble_eq_true rfl⟩) rfl hl.1 rfl (Nat.le_of_ble_eq_true rfl) dX1_firstWrong_36 ⟨Nat.le_of_ble_eq_true rfl, Nat.le_of_ble_eq_true rfl⟩) hS hP (fun H locs hP hS => ?_)
            refine lv_aload_n hx hb dX1_firstWrong_39 rfl (lv_at hl 0 rfl) ?_
            refine va_get (D := D) (ci := 1) (v := .ref (k 2)) (C := RX1) (T := TX1) (N := 3) hx hb hts hI_X1 hown hK hP 0 rfl rfl 1 (by decide) gf15 (fun _ h9 => h9) rfl dX1_firstWrong_40 ?_
            refine lv_iload_n hx hb dX1_firstWrong_43 rfl (lv_at hl 2 rfl) ?_
            obtain ⟨h8, hf⟩ := ogd hf
            refine va_iald hx hb hK hP 2 0 rfl rfl (ib_in h8) dX1_firstWrong_44 ?_
            refine lv_icmp_eq (tgt := 50) hx hb dX1_firstWrong_45 (by decide) (fun c9 => ?_) (fun c9 => ?_)
            · replace hf := oif c9 hf
              obtain ⟨y10, ey10⟩ : ∃ y : Int32, y = v2 + 1 := ⟨_, rfl⟩
              replace hf := onm ey10 hf
              refine lv_iinc (v := y10) (lv' := [(2, .int y10), (0, .ref (k 0)), (1, .ref (r 0))]) hx hb dX1_firstWrong_50 hl (k := 2) rfl (by rw [ey10]; rfl) (by decide) rfl (fun ls hl => ?_)
              refine lv_goto (tgt := 2) hx hb dX1_firstWrong_53 (by decide) ?_
              exact ih y10 H locs ls z hP hS (lv_sub hl [1, 2, 0] rfl) hf K K2
            · replace hf := oel c9 hf
              refine lv_iload_n hx hb dX1_firstWrong_48 rfl (lv_at hl 2 rfl) ?_
              have er := K2 _ (Option.some.inj hf).symm
              exact rtI hx hb hr hS dX1_firstWrong_49 er hlocks
  unfold f_X1_firstWrong at hf
  have go : ∀ (H : Heap) (locs : List Loc), va_P D vwCl [oX1 k k_count, aI cI (k 1) 20 k_places, aI cI (k 2) 20 k_positions, oX4 r r_length, aI cI (r 2) 12 r_positions] H → va_S no s.heap H locs → W p l e { frames := 2, cells := 0, slots := 0, locals := 42 } s m args below meth c H locs 0 0 (MQ below (QrI zr) args s 0 0 no) (F0 m 0 ls []) := by
    intro H locs hP hS
    refine lv_iconst (v := 0) hx hb dX1_firstWrong_0 (by decide) ?_
    refine lv_istore_n (lv' := [(2, .int 0), (0, .ref (k 0)), (1, .ref (r 0))]) hx hb dX1_firstWrong_1 rfl hl (by decide) rfl (fun ls hl => ?_)
    obtain ⟨z11, hz11, hf⟩ := obd hf
    refine W2 4000 0 H locs ls z11 hP hS (lv_sub hl [1, 2, 0] rfl) hz11 (fun e12 ee H locs ls hP hS hl => ?_) (fun r9 er => by subst er; exact Option.some.inj hf)
    subst ee
    replace hf := osl hf
    refine lv_iconst (v := (-1)) hx hb dX1_firstWrong_56 (by decide) ?_
    have er := Option.some.inj hf
    exact rtI hx hb hr hS dX1_firstWrong_57 er hlocks
  exact go s.heap [] hP hS
noncomputable def f_X3_clear (v_count : Int32) : Option (Int32) := some (0)
set_option maxHeartbeats 4000000 in
set_option maxRecDepth 100000 in
theorem c_X3_clear (l : Launch) (D : va_G) (cI cJ cZ cQ : ClassId) (bs sz : Nat) (v : Nat → Nat) (v_count : Int32) (zr : Int32) (hf : f_X3_clear v_count = some zr) : Met l yX3_clear wsX3_clear { frames := 0, cells := 0, slots := 0, locals := 0 } (va_Pc [.ref (v 0)] (Pr D cI cJ cZ cQ bs sz [oX3 v v_count])) (QwV D zr (fun u => [oX3 v u]) (va_A [oX3 v v_count] sz)) 0 0 (va_A [oX3 v v_count] sz) := by
  refine stW (cc := cX3_clear) (maxL := 1) (ret := none) (Qf := fun A => (QwV D zr (fun u => [oX3 v u]) A)) (by decide +kernel) rfl (Nat.le_of_ble_eq_true rfl) ?_
  intro p e s m args below meth c A C0 hr hlocks hname hsz hP hD hA hAb hE ls hl
  obtain ⟨hx, hb, hml, hown, hts⟩ := id C0
  have hown : s.vm.findClass RX3 = some m.cls := hown
  obtain ⟨hK, hNW, -, tw, hZ, hT⟩ := id hE
  have hl : lv_has ls 1 [(0, .ref (v 0))] := hl
  have hS : va_S A s.heap s.heap [] := va_S.rf
  have hI_X3 := (show ∀ w ∈ wsX30, w ∈ wsX3_clear by decide +kernel)
  have gf22 := hts (.fieldLink RX3 22 "RowRanks$Moves" "count" "I") (by decide +kernel)
  unfold f_X3_clear at hf
  have go : ∀ (H : Heap) (locs : List Loc), va_P D vwCl [oX3 v v_count] H → va_S A s.heap H locs → W p l e { frames := 0, cells := 0, slots := 0, locals := 0 } s m args below meth c H locs 0 0 (MQ below (QwV D zr (fun u => [oX3 v u]) A) args s 0 0 A) (F0 m 0 ls []) := by
    intro H locs hP hS
    refine lv_aload_n hx hb dX3_clear_0 rfl (lv_at hl 0 rfl) ?_
    refine lv_iconst (v := 0) hx hb dX3_clear_1 (by decide) ?_
    refine va_put (D := D) (ci := 3) (v := .int 0) (ty := .int) (C := RX3) (T := TX3) (N := 4) hx hb hts hI_X3 tyX3 tyX3_ok nmX3 hown hK hP (hD.addr rfl) hS 0 rfl rfl 3 (by decide) gf22 (fun _ h9 => h9) rfl (by decide +kernel) rfl rfl (Nat.le_of_ble_eq_true rfl) dX3_clear_2 (fun H locs hP _ hS => ?_)
    have hP : va_P D vwCl [oX3 v 0] H := hP
    have er := Option.some.inj hf
    exact rwV (wm := (fun u => [oX3 v u])) hx hb hr hS dX3_clear_5 hP er hlocks
  exact go s.heap [] hP hS
noncomputable def f_X3_add (v_from : Nat → Int32) (v_count : Int32) (x1 : Int32) : Option ((Nat → Int32) × Int32) := if v_count < 0 then (some ((v_from, v_count))) else (if 12 ≤ v_count then (some ((v_from, v_count))) else (if x1 < 0 then (some ((v_from, v_count))) else (if 12 ≤ x1 then (some ((v_from, v_count))) else (if ib v_count 12 = true then ((some (upd v_from v_count.toNatClampNeg x1 : Nat → Int32)).bind (fun h5a => some ((h5a, (v_count + 1))))) else none))))
set_option maxHeartbeats 4000000 in
set_option maxRecDepth 100000 in
theorem c_X3_add (l : Launch) (D : va_G) (cI cJ cZ cQ : ClassId) (bs sz : Nat) (v : Nat → Nat) (v_count : Int32) (v_from : Nat → Int32) (x1 : Int32) (zr : (Nat → Int32) × Int32) (hf : f_X3_add v_from v_count x1 = some zr) : Met l yX3_add wsX3_add { frames := 0, cells := 0, slots := 0, locals := 0 } (va_Pc [.ref (v 0), .int x1] (Pr D cI cJ cZ cQ bs sz [oX3 v v_count, aI cI (v 1) 12 v_from])) (QwV D zr (fun u => [oX3 v u.2, aI cI (v 1) 12 u.1]) (va_A [oX3 v v_count, aI cI (v 1) 12 v_from] sz)) 0 0 (va_A [oX3 v v_count, aI cI (v 1) 12 v_from] sz) := by
  refine stW (cc := cX3_add) (maxL := 2) (ret := none) (Qf := fun A => (QwV D zr (fun u => [oX3 v u.2, aI cI (v 1) 12 u.1]) A)) (by decide +kernel) rfl (Nat.le_of_ble_eq_true rfl) ?_
  intro p e s m args below meth c A C0 hr hlocks hname hsz hP hD hA hAb hE ls hl
  obtain ⟨hx, hb, hml, hown, hts⟩ := id C0
  have hown : s.vm.findClass RX3 = some m.cls := hown
  obtain ⟨hK, hNW, -, tw, hZ, hT⟩ := id hE
  have hl : lv_has ls 2 [(0, .ref (v 0)), (1, .int x1)] := hl
  have hS : va_S A s.heap s.heap [] := va_S.rf
  have hI_X3 := (show ∀ w ∈ wsX30, w ∈ wsX3_add by decide +kernel)
  have gf22 := hts (.fieldLink RX3 22 "RowRanks$Moves" "count" "I") (by decide +kernel)
  have gf9 := hts (.fieldLink RX3 9 "RowRanks$Moves" "from" "[I") (by decide +kernel)
  unfold f_X3_add at hf
  have go : ∀ (H : Heap) (locs : List Loc), va_P D vwCl [oX3 v v_count, aI cI (v 1) 12 v_from] H → va_S A s.heap H locs → W p l e { frames := 0, cells := 0, slots := 0, locals := 0 } s m args below meth c H locs 0 0 (MQ below (QwV D zr (fun u => [oX3 v u.2, aI cI (v 1) 12 u.1]) A) args s 0 0 A) (F0 m 0 ls []) := by
    intro H locs hP hS
    refine lv_aload_n hx hb dX3_add_0 rfl (lv_at hl 0 rfl) ?_
    refine va_get (D := D) (ci := 3) (v := .int v_count) (C := RX3) (T := TX3) (N := 4) hx hb hts hI_X3 hown hK hP 0 rfl rfl 3 (by decide) gf22 (fun _ h9 => h9) rfl dX3_add_1 ?_
    refine lv_if_lt (tgt := 46) hx hb dX3_add_4 (by decide) (fun c1 => ?_) (fun c1 => ?_)
    · replace hf := oif c1 hf
      have er := Option.some.inj hf
      exact rwV (wm := (fun u => [oX3 v u.2, aI cI (v 1) 12 u.1])) hx hb hr hS dX3_add_46 hP er hlocks
    · replace hf := oel c1 hf
      refine lv_aload_n hx hb dX3_add_7 rfl (lv_at hl 0 rfl) ?_
      refine va_get (D := D) (ci := 3) (v := .int v_count) (C := RX3) (T := TX3) (N := 4) hx hb hts hI_X3 hown hK hP 0 rfl rfl 3 (by decide) gf22 (fun _ h9 => h9) rfl dX3_add_8 ?_
      refine lv_bipush (v := 12) hx hb dX3_add_11 (by decide) ?_
      refine lv_icmp_ge (tgt := 46) hx hb dX3_add_13 (by decide) (fun c2 => ?_) (fun c2 => ?_)
      · replace hf := oif c2 hf
        have er := Option.some.inj hf
        exact rwV (wm := (fun u => [oX3 v u.2, aI cI (v 1) 12 u.1])) hx hb hr hS dX3_add_46 hP er hlocks
      · replace hf := oel c2 hf
        refine lv_iload_n hx hb dX3_add_16 rfl (lv_at hl 1 rfl) ?_
        refine lv_if_lt (tgt := 46) hx hb dX3_add_17 (by decide) (fun c3 => ?_) (fun c3 => ?_)
        · replace hf := oif c3 hf
          have er := Option.some.inj hf
          exact rwV (wm := (fun u => [oX3 v u.2, aI cI (v 1) 12 u.1])) hx hb hr hS dX3_add_46 hP er hlocks
        · replace hf := oel c3 hf
          refine lv_iload_n hx hb dX3_add_20 rfl (lv_at hl 1 rfl) ?_
          refine lv_bipush (v := 12) hx hb dX3_add_21 (by decide) ?_
          refine lv_icmp_ge (tgt := 46) hx hb dX3_add_23 (by decide) (fun c4 => ?_) (fun c4 => ?_)
          · replace hf := oif c4 hf
            have er := Option.some.inj hf
            exact rwV (wm := (fun u => [oX3 v u.2, aI cI (v 1) 12 u.1])) hx hb hr hS dX3_add_46 hP er hlocks
          · replace hf := oel c4 hf
            refine lv_aload_n hx hb dX3_add_26 rfl (lv_at hl 0 rfl) ?_
            refine va_get (D := D) (ci := 3) (v := .ref (v 1)) (C := RX3) (T := TX3) (N := 4) hx hb hts hI_X3 hown hK hP 0 rfl rfl 0 (by decide) gf9 (fun _ h9 => h9) rfl dX3_add_27 ?_
            refine lv_aload_n hx hb dX3_add_30 rfl (lv_at hl 0 rfl) ?_
            refine va_get (D := D) (ci := 3) (v := .int v_count) (C := RX3) (T := TX3) (N := 4) hx hb hts hI_X3 hown hK hP 0 rfl rfl 3 (by decide) gf22 (fun _ h9 => h9) rfl dX3_add_31 ?_
            refine lv_iload_n hx hb dX3_add_34 rfl (lv_at hl 1 rfl) ?_
            obtain ⟨h5, hf⟩ := ogd hf
            refine va_iast hx hb hK hP (hD.addr rfl) hS 1 0 rfl rfl (ib_in h5) dX3_add_35 (fun H locs hP _ hS => ?_)
            obtain ⟨h5a, eh5a⟩ : ∃ y : Nat → Int32, y = upd v_from v_count.toNatClampNeg x1 := ⟨_, rfl⟩
            replace hf := onm eh5a hf
            have hP : va_P D vwCl [oX3 v v_count, aI cI (v 1) 12 h5a] H := by rw [eh5a]; exact hP
            refine lv_aload_n hx hb dX3_add_36 rfl (lv_at hl 0 rfl) ?_
            refine lv_dup hx hb dX3_add_37 rfl ?_
            refine va_get (D := D) (ci := 3) (v := .int v_count) (C := RX3) (T := TX3) (N := 4) hx hb hts hI_X3 hown hK hP 0 rfl rfl 3 (by decide) gf22 (fun _ h9 => h9) rfl dX3_add_38 ?_
            refine lv_iconst (v := 1) hx hb dX3_add_41 (by decide) ?_
            refine lv_iadd hx hb dX3_add_42 ?_
            refine va_put (D := D) (ci := 3) (v := .int (v_count + 1)) (ty := .int) (C := RX3) (T := TX3) (N := 4) hx hb hts hI_X3 tyX3 tyX3_ok nmX3 hown hK hP (hD.addr rfl) hS 0 rfl rfl 3 (by decide) gf22 (fun _ h9 => h9) rfl (by decide +kernel) rfl rfl (Nat.le_of_ble_eq_true rfl) dX3_add_43 (fun H locs hP _ hS => ?_)
            have hP : va_P D vwCl [oX3 v (v_count + 1), aI cI (v 1) 12 h5a] H := hP
            have er := Option.some.inj hf
            exact rwV (wm := (fun u => [oX3 v u.2, aI cI (v 1) 12 u.1])) hx hb hr hS dX3_add_46 hP er hlocks
  exact go s.heap [] hP hS
noncomputable def L_X3_countMoved_4 (v_from : Nat → Int32) (v_count : Int32) : Nat → Int32 → Int32 → Option (Int32)
  | 0, _, _ => none
  | n + 1, v1, v2 => if v_count ≤ v2 then (some (v1)) else (if 12 ≤ v2 then (some (v1)) else (if ib v2 12 = true then (if (v_from v2.toNatClampNeg) = v2 then ((some (v2 + 1 : Int32)).bind (fun y5 => L_X3_countMoved_4 v_from v_count n v1 y5)) else ((some (v1 + 1 : Int32)).bind (fun y6 => (some (v2 + 1 : Int32)).bind (fun y7 => L_X3_countMoved_4 v_from v_count n y6 y7)))) else none))
noncomputable def f_X3_countMoved (v_from : Nat → Int32) (v_count : Int32) : Option (Int32) := (L_X3_countMoved_4 v_from v_count 4000 0 0).bind (fun z8 => some (z8))
set_option maxHeartbeats 4000000 in
set_option maxRecDepth 100000 in
theorem c_X3_countMoved (l : Launch) (D : va_G) (cI cJ cZ cQ : ClassId) (bs sz : Nat) (v : Nat → Nat) (v_count : Int32) (v_from : Nat → Int32) (zr : Int32) (hf : f_X3_countMoved v_from v_count = some zr) : Met l yX3_countMoved wsX3_countMoved { frames := 0, cells := 0, slots := 0, locals := 0 } (va_Pc [.ref (v 0)] (Pr D cI cJ cZ cQ bs sz [oX3 v v_count, aI cI (v 1) 12 v_from])) (QrI zr) 0 0 no := by
  refine stM (cc := cX3_countMoved) (maxL := 3) (ret := (some .int)) (by decide +kernel) rfl (Nat.le_of_ble_eq_true rfl) ?_
  intro p e s m args below meth c C0 hr hlocks hname hsz hP hDb hE ls hl
  have hAb : ∀ q, no q → bs ≤ q := fun _ h => h.elim
  obtain ⟨hx, hb, hml, hown, hts⟩ := id C0
  have hown : s.vm.findClass RX3 = some m.cls := hown
  obtain ⟨hK, hNW, -, tw, hZ, hT⟩ := id hE
  have hl : lv_has ls 3 [(0, .ref (v 0))] := hl
  have hS : va_S no s.heap s.heap [] := va_S.rf
  have hI_X3 := (show ∀ w ∈ wsX30, w ∈ wsX3_countMoved by decide +kernel)
  have gf22 := hts (.fieldLink RX3 22 "RowRanks$Moves" "count" "I") (by decide +kernel)
  have gf9 := hts (.fieldLink RX3 9 "RowRanks$Moves" "from" "[I") (by decide +kernel)
  have W4 : ∀ (n : Nat) (v1 : Int32) (v2 : Int32) (H : Heap) (locs : List Loc) (ls : Array Slot) (z : Int32), va_P D vwCl [oX3 v v_count, aI cI (v 1) 12 v_from] H → va_S no s.heap H locs → lv_has ls 3 [(0, .ref (v 0)), (1, .int v1), (2, .int v2)] → L_X3_countMoved_4 v_from v_count n v1 v2 = some z → (∀ (H : Heap) (locs : List Loc) (ls : Array Slot), va_P D vwCl [oX3 v v_count, aI cI (v 1) 12 v_from] H → va_S no s.heap H locs → lv_has ls 3 [(1, .int z)] → W p l e { frames := 0, cells := 0, slots := 0, locals := 0 } s m args below meth c H locs 0 0 (MQ below (QrI zr) args s 0 0 no) (F0 m 37 ls [])) → W p l e { frames := 0, cells := 0, slots := 0, locals := 0 } s m args below meth c H locs 0 0 (MQ below (QrI zr) args s 0 0 no) (F0 m 4 ls []) := by
    intro n
    induction n with
    | zero =>
      intro v1 v2 H locs ls z hP hS hl hf
      exact absurd (show (none : Option (Int32)) = some z from hf) (fun h => by cases h)
    | succ n ih =>
      intro v1 v2 H locs ls z hP hS hl hf K
      rw [L_X3_countMoved_4] at hf
      refine lv_iload_n hx hb dX3_countMoved_4 rfl (lv_at hl 2 rfl) ?_
      refine lv_aload_n hx hb dX3_countMoved_5 rfl (lv_at hl 0 rfl) ?_
      refine va_get (D := D) (ci := 3) (v := .int v_count) (C := RX3) (T := TX3) (N := 4) hx hb hts hI_X3 hown hK hP 0 rfl rfl 3 (by decide) gf22 (fun _ h9 => h9) rfl dX3_countMoved_6 ?_
      refine lv_icmp_ge (tgt := 37) hx hb dX3_countMoved_9 (by decide) (fun c1 => ?_) (fun c1 => ?_)
      · replace hf := oif c1 hf
        have hf := Option.some.inj hf
        subst hf
        exact K H locs ls hP hS (lv_sub hl [1] rfl)
      · replace hf := oel c1 hf
        refine lv_iload_n hx hb dX3_countMoved_12 rfl (lv_at hl 2 rfl) ?_
        refine lv_bipush (v := 12) hx hb dX3_countMoved_13 (by decide) ?_
        refine lv_icmp_ge (tgt := 37) hx hb dX3_countMoved_15 (by decide) (fun c2 => ?_) (fun c2 => ?_)
        · replace hf := oif c2 hf
          have hf := Option.some.inj hf
          subst hf
          exact K H locs ls hP hS (lv_sub hl [1] rfl)
        · replace hf := oel c2 hf
          refine lv_aload_n hx hb dX3_countMoved_18 rfl (lv_at hl 0 rfl) ?_
          refine va_get (D := D) (ci := 3) (v := .ref (v 1)) (C := RX3) (T := TX3) (N := 4) hx hb hts hI_X3 hown hK hP 0 rfl rfl 0 (by decide) gf9 (fun _ h9 => h9) rfl dX3_countMoved_19 ?_
          refine lv_iload_n hx hb dX3_countMoved_22 rfl (lv_at hl 2 rfl) ?_
          obtain ⟨h3, hf⟩ := ogd hf
          refine va_iald hx hb hK hP 1 0 rfl rfl (ib_in h3) dX3_countMoved_23 ?_
          refine lv_iload_n hx hb dX3_countMoved_24 rfl (lv_at hl 2 rfl) ?_
          refine lv_icmp_eq (tgt := 31) hx hb dX3_countMoved_25 (by decide) (fun c4 => ?_) (fun c4 => ?_)
          · replace hf := oif c4 hf
            obtain ⟨y5, ey5⟩ : ∃ y : Int32, y = v2 + 1 := ⟨_, rfl⟩
            replace hf := onm ey5 hf
            refine lv_iinc (v := y5) (lv' := [(2, .int y5), (0, .ref (v 0)), (1, .int v1)]) hx hb dX3_countMoved_31 hl (k := 2) rfl (by rw [ey5]; rfl) (by decide) rfl (fun ls hl => ?_)
            refine lv_goto (tgt := 4) hx hb dX3_countMoved_34 (by decide) ?_
            exact ih v1 y5 H locs ls z hP hS (lv_sub hl [1, 2, 0] rfl) hf K
          · replace hf := oel c4 hf
            obtain ⟨y6, ey6⟩ : ∃ y : Int32, y = v1 + 1 := ⟨_, rfl⟩
            replace hf := onm ey6 hf
            refine lv_iinc (v := y6) (lv' := [(1, .int y6), (0, .ref (v 0)), (2, .int v2)]) hx hb dX3_countMoved_28 hl (k := 1) rfl (by rw [ey6]; rfl) (by decide) rfl (fun ls hl => ?_)
            obtain ⟨y7, ey7⟩ : ∃ y : Int32, y = v2 + 1 := ⟨_, rfl⟩
            replace hf := onm ey7 hf
            refine lv_iinc (v := y7) (lv' := [(2, .int y7), (1, .int y6), (0, .ref (v 0))]) hx hb dX3_countMoved_31 hl (k := 2) rfl (by rw [ey7]; rfl) (by decide) rfl (fun ls hl => ?_)
            refine lv_goto (tgt := 4) hx hb dX3_countMoved_34 (by decide) ?_
            exact ih y6 y7 H locs ls z hP hS (lv_sub hl [2, 1, 0] rfl) hf K
  unfold f_X3_countMoved at hf
  have go : ∀ (H : Heap) (locs : List Loc), va_P D vwCl [oX3 v v_count, aI cI (v 1) 12 v_from] H → va_S no s.heap H locs → W p l e { frames := 0, cells := 0, slots := 0, locals := 0 } s m args below meth c H locs 0 0 (MQ below (QrI zr) args s 0 0 no) (F0 m 0 ls []) := by
    intro H locs hP hS
    refine lv_iconst (v := 0) hx hb dX3_countMoved_0 (by decide) ?_
    refine lv_istore_n (lv' := [(1, .int 0), (0, .ref (v 0))]) hx hb dX3_countMoved_1 rfl hl (by decide) rfl (fun ls hl => ?_)
    refine lv_iconst (v := 0) hx hb dX3_countMoved_2 (by decide) ?_
    refine lv_istore_n (lv' := [(2, .int 0), (1, .int 0), (0, .ref (v 0))]) hx hb dX3_countMoved_3 rfl hl (by decide) rfl (fun ls hl => ?_)
    obtain ⟨z8, hz8, hf⟩ := obd hf
    refine W4 4000 0 0 H locs ls z8 hP hS (lv_sub hl [2, 1, 0] rfl) hz8 (fun H locs ls hP hS hl => ?_)
    refine lv_iload_n hx hb dX3_countMoved_37 rfl (lv_at hl 0 rfl) ?_
    have er := Option.some.inj hf
    exact rtI hx hb hr hS dX3_countMoved_38 er hlocks
  exact go s.heap [] hP hS
noncomputable def L_X3_applyToSlot_2 (b_sorts : Nat → Int32) (b_numbers : Nat → Int64) (v_from : Nat → Int32) (v_count : Int32) (v2 : Int32) : Nat → Int32 → (Nat → Int32) → (Nat → Int64) → Option ((Nat → Int32) × (Nat → Int64))
  | 0, _, _, _ => none
  | n + 1, v3, v_oldSorts, v_oldNumbers => if v_count ≤ v3 then (some ((v_oldSorts, v_oldNumbers))) else (if 12 ≤ v3 then (some ((v_oldSorts, v_oldNumbers))) else (if ib v3 12 = true then ((f_X0_sortAt b_sorts v2 (v_from v3.toNatClampNeg)).bind (fun z4 => if ib v3 12 = true then ((some (upd v_oldSorts v3.toNatClampNeg z4 : Nat → Int32)).bind (fun h5a => if ib v3 12 = true then ((f_X0_numberAt b_numbers v2 (v_from v3.toNatClampNeg)).bind (fun z7 => if ib v3 12 = true then ((some (vp_updL v_oldNumbers v3.toNatClampNeg z7 : Nat → Int64)).bind (fun h8a => (some (v3 + 1 : Int32)).bind (fun y9 => L_X3_applyToSlot_2 b_sorts b_numbers v_from v_count v2 n y9 h5a h8a))) else none)) else none)) else none)) else none))
noncomputable def L_X3_applyToSlot_58 (v_oldSorts : Nat → Int32) (v_oldNumbers : Nat → Int64) (v_count : Int32) (v2 : Int32) : Nat → Int32 → (Nat → Int32) → (Nat → Int64) → Option ((Nat → Int32) × (Nat → Int64))
  | 0, _, _, _ => none
  | n + 1, v3, b_sorts, b_numbers => if v_count ≤ v3 then (some ((b_sorts, b_numbers))) else (if 12 ≤ v3 then (some ((b_sorts, b_numbers))) else (if ib v3 12 = true then (if ib v3 12 = true then ((f_X0_setCell b_sorts b_numbers v2 v3 (v_oldSorts v3.toNatClampNeg) (v_oldNumbers v3.toNatClampNeg)).bind (fun z15 => (some (v3 + 1 : Int32)).bind (fun y16 => L_X3_applyToSlot_58 v_oldSorts v_oldNumbers v_count v2 n y16 z15.1 z15.2))) else none) else none))
noncomputable def f_X3_applyToSlot (b_sorts : Nat → Int32) (b_numbers : Nat → Int64) (v_from : Nat → Int32) (v_oldSorts : Nat → Int32) (v_oldNumbers : Nat → Int64) (v_count : Int32) (x2 : Int32) : Option ((Nat → Int32) × (Nat → Int64) × (Nat → Int32) × (Nat → Int64)) := (L_X3_applyToSlot_2 b_sorts b_numbers v_from v_count x2 4000 0 v_oldSorts v_oldNumbers).bind (fun z10 => (L_X3_applyToSlot_58 z10.1 z10.2 v_count x2 4000 0 b_sorts b_numbers).bind (fun z17 => some ((z17.1, z17.2, z10.1, z10.2))))
set_option maxHeartbeats 4000000 in
set_option maxRecDepth 100000 in
theorem c_X3_applyToSlot (l : Launch) (D : va_G) (cI cJ cZ cQ : ClassId) (bs sz : Nat) (b : Nat → Nat) (v : Nat → Nat) (b_keyCount : Int32) (b_sheetSet : Int32) (b_handSort : Int32) (b_handNumber : Int64) (b_sorts : Nat → Int32) (b_numbers : Nat → Int64) (v_count : Int32) (v_from : Nat → Int32) (v_oldSorts : Nat → Int32) (v_oldNumbers : Nat → Int64) (x2 : Int32) (zr : (Nat → Int32) × (Nat → Int64) × (Nat → Int32) × (Nat → Int64)) (hf : f_X3_applyToSlot b_sorts b_numbers v_from v_oldSorts v_oldNumbers v_count x2 = some zr) : Met l yX3_applyToSlot wsX3_applyToSlot { frames := 2, cells := 0, slots := 0, locals := 46 } (va_Pc [.ref (v 0), .ref (b 0), .int x2] (Pr D cI cJ cZ cQ bs sz [oX0 b b_keyCount b_sheetSet b_handSort b_handNumber, aI cI (b 3) 72 b_sorts, aJ cJ (b 4) 72 b_numbers, oX3 v v_count, aI cI (v 1) 12 v_from, aI cI (v 2) 12 v_oldSorts, aJ cJ (v 3) 12 v_oldNumbers])) (QwV D zr (fun u => [oX0 b b_keyCount b_sheetSet b_handSort b_handNumber, aI cI (b 3) 72 u.1, aJ cJ (b 4) 72 u.2.1, oX3 v v_count, aI cI (v 1) 12 v_from, aI cI (v 2) 12 u.2.2.1, aJ cJ (v 3) 12 u.2.2.2]) (va_A [oX0 b b_keyCount b_sheetSet b_handSort b_handNumber, aI cI (b 3) 72 b_sorts, aJ cJ (b 4) 72 b_numbers, oX3 v v_count, aI cI (v 1) 12 v_from, aI cI (v 2) 12 v_oldSorts, aJ cJ (v 3) 12 v_oldNumbers] sz)) 0 0 (va_A [oX0 b b_keyCount b_sheetSet b_handSort b_handNumber, aI cI (b 3) 72 b_sorts, aJ cJ (b 4) 72 b_numbers, oX3 v v_count, aI cI (v 1) 12 v_from, aI cI (v 2) 12 v_oldSorts, aJ cJ (v 3) 12 v_oldNumbers] sz) := by
  refine stW (cc := cX3_applyToSlot) (maxL := 4) (ret := none) (Qf := fun A => (QwV D zr (fun u => [oX0 b b_keyCount b_sheetSet b_handSort b_handNumber, aI cI (b 3) 72 u.1, aJ cJ (b 4) 72 u.2.1, oX3 v v_count, aI cI (v 1) 12 v_from, aI cI (v 2) 12 u.2.2.1, aJ cJ (v 3) 12 u.2.2.2]) A)) (by decide +kernel) rfl (Nat.le_of_ble_eq_true rfl) ?_
  intro p e s m args below meth c A C0 hr hlocks hname hsz hP hD hA hAb hE ls hl
  obtain ⟨hx, hb, hml, hown, hts⟩ := id C0
  have hown : s.vm.findClass RX3 = some m.cls := hown
  obtain ⟨hK, hNW, -, tw, hZ, hT⟩ := id hE
  have hl : lv_has ls 4 [(0, .ref (v 0)), (1, .ref (b 0)), (2, .int x2)] := hl
  have hS : va_S A s.heap s.heap [] := va_S.rf
  have hI_X3 := (show ∀ w ∈ wsX30, w ∈ wsX3_applyToSlot by decide +kernel)
  have gf22 := hts (.fieldLink RX3 22 "RowRanks$Moves" "count" "I") (by decide +kernel)
  have gf15 := hts (.fieldLink RX3 15 "RowRanks$Moves" "oldSorts" "[I") (by decide +kernel)
  have gf9 := hts (.fieldLink RX3 9 "RowRanks$Moves" "from" "[I") (by decide +kernel)
  have gf18 := hts (.fieldLink RX3 18 "RowRanks$Moves" "oldNumbers" "[J") (by decide +kernel)
  have W2 : ∀ (n : Nat) (v2 : Int32) (v3 : Int32) (b_sorts : Nat → Int32) (b_numbers : Nat → Int64) (v_oldSorts : Nat → Int32) (v_oldNumbers : Nat → Int64) (H : Heap) (locs : List Loc) (ls : Array Slot) (z : (Nat → Int32) × (Nat → Int64)), va_P D vwCl [oX0 b b_keyCount b_sheetSet b_handSort b_handNumber, aI cI (b 3) 72 b_sorts, aJ cJ (b 4) 72 b_numbers, oX3 v v_count, aI cI (v 1) 12 v_from, aI cI (v 2) 12 v_oldSorts, aJ cJ (v 3) 12 v_oldNumbers] H → va_S A s.heap H locs → lv_has ls 4 [(0, .ref (v 0)), (1, .ref (b 0)), (2, .int v2), (3, .int v3)] → L_X3_applyToSlot_2 b_sorts b_numbers v_from v_count v2 n v3 v_oldSorts v_oldNumbers = some z → (∀ (H : Heap) (locs : List Loc) (ls : Array Slot), va_P D vwCl [oX0 b b_keyCount b_sheetSet b_handSort b_handNumber, aI cI (b 3) 72 b_sorts, aJ cJ (b 4) 72 b_numbers, oX3 v v_count, aI cI (v 1) 12 v_from, aI cI (v 2) 12 z.1, aJ cJ (v 3) 12 z.2] H → va_S A s.heap H locs → lv_has ls 4 [(0, .ref (v 0)), (1, .ref (b 0)), (2, .int v2)] → W p l e { frames := 2, cells := 0, slots := 0, locals := 46 } s m args below meth c H locs 0 0 (MQ below (QwV D zr (fun u => [oX0 b b_keyCount b_sheetSet b_handSort b_handNumber, aI cI (b 3) 72 u.1, aJ cJ (b 4) 72 u.2.1, oX3 v v_count, aI cI (v 1) 12 v_from, aI cI (v 2) 12 u.2.2.1, aJ cJ (v 3) 12 u.2.2.2]) A) args s 0 0 A) (F0 m 56 ls [])) → W p l e { frames := 2, cells := 0, slots := 0, locals := 46 } s m args below meth c H locs 0 0 (MQ below (QwV D zr (fun u => [oX0 b b_keyCount b_sheetSet b_handSort b_handNumber, aI cI (b 3) 72 u.1, aJ cJ (b 4) 72 u.2.1, oX3 v v_count, aI cI (v 1) 12 v_from, aI cI (v 2) 12 u.2.2.1, aJ cJ (v 3) 12 u.2.2.2]) A) args s 0 0 A) (F0 m 2 ls []) := by
    intro n
    induction n with
    | zero =>
      intro v2 v3 b_sorts b_numbers v_oldSorts v_oldNumbers H locs ls z hP hS hl hf
      exact absurd (show (none : Option ((Nat → Int32) × (Nat → Int64))) = some z from hf) (fun h => by cases h)
    | succ n ih =>
      intro v2 v3 b_sorts b_numbers v_oldSorts v_oldNumbers H locs ls z hP hS hl hf K
      rw [L_X3_applyToSlot_2] at hf
      refine lv_iload_n hx hb dX3_applyToSlot_2 rfl (lv_at hl 3 rfl) ?_
      refine lv_aload_n hx hb dX3_applyToSlot_3 rfl (lv_at hl 0 rfl) ?_
      refine va_get (D := D) (ci := 3) (v := .int v_count) (C := RX3) (T := TX3) (N := 4) hx hb hts hI_X3 hown hK hP 3 rfl rfl 3 (by decide) gf22 (fun _ h9 => h9) rfl dX3_applyToSlot_4 ?_
      refine lv_icmp_ge (tgt := 56) hx hb dX3_applyToSlot_7 (by decide) (fun c1 => ?_) (fun c1 => ?_)
      · replace hf := oif c1 hf
        have hf := Option.some.inj hf
        subst hf
        exact K H locs ls hP hS (lv_sub hl [0, 1, 2] rfl)
      · replace hf := oel c1 hf
        refine lv_iload_n hx hb dX3_applyToSlot_10 rfl (lv_at hl 3 rfl) ?_
        refine lv_bipush (v := 12) hx hb dX3_applyToSlot_11 (by decide) ?_
        refine lv_icmp_ge (tgt := 56) hx hb dX3_applyToSlot_13 (by decide) (fun c2 => ?_) (fun c2 => ?_)
        · replace hf := oif c2 hf
          have hf := Option.some.inj hf
          subst hf
          exact K H locs ls hP hS (lv_sub hl [0, 1, 2] rfl)
        · replace hf := oel c2 hf
          refine lv_aload_n hx hb dX3_applyToSlot_16 rfl (lv_at hl 0 rfl) ?_
          refine va_get (D := D) (ci := 3) (v := .ref (v 2)) (C := RX3) (T := TX3) (N := 4) hx hb hts hI_X3 hown hK hP 3 rfl rfl 1 (by decide) gf15 (fun _ h9 => h9) rfl dX3_applyToSlot_17 ?_
          refine lv_iload_n hx hb dX3_applyToSlot_20 rfl (lv_at hl 3 rfl) ?_
          refine lv_aload_n hx hb dX3_applyToSlot_21 rfl (lv_at hl 1 rfl) ?_
          refine lv_iload_n hx hb dX3_applyToSlot_22 rfl (lv_at hl 2 rfl) ?_
          refine lv_aload_n hx hb dX3_applyToSlot_23 rfl (lv_at hl 0 rfl) ?_
          refine va_get (D := D) (ci := 3) (v := .ref (v 1)) (C := RX3) (T := TX3) (N := 4) hx hb hts hI_X3 hown hK hP 3 rfl rfl 0 (by decide) gf9 (fun _ h9 => h9) rfl dX3_applyToSlot_24 ?_
          refine lv_iload_n hx hb dX3_applyToSlot_27 rfl (lv_at hl 3 rfl) ?_
          obtain ⟨h3, hf⟩ := ogd hf
          refine va_iald hx hb hK hP 4 0 rfl rfl (ib_in h3) dX3_applyToSlot_28 ?_
          obtain ⟨z4, hz4, hf⟩ := obd hf
          refine kI (runV (As := [.int v2, .int (v_from v3.toNatClampNeg)]) (rest := [.int v3, .ref (v 2)]) C0 hE hAb hP ((hD.weaken (fun _ _ _ h9 => hAb _ h9)).addr rfl) hS [0, 1] (wc := [oX0 b b_keyCount b_sheetSet b_handSort b_handNumber, aI cI (b 3) 72 b_sorts]) (by decide) rfl 0 rfl rfl (c_X0_sortAt l D cI cJ cZ cQ bs H.size b b_keyCount b_sheetSet b_handSort b_handNumber b_sorts v2 (v_from v3.toNatClampNeg) z4 hz4) (cwV 2 hts gX3_applyToSlot_X0_sortAt rfl rfl rfl (by decide +kernel) ⟨Nat.le_of_ble_eq_true rfl, Nat.le_of_ble_eq_true rfl⟩) rfl hl.1 rfl (Nat.le_of_ble_eq_true rfl) dX3_applyToSlot_29 ⟨Nat.le_of_ble_eq_true rfl, Nat.le_of_ble_eq_true rfl⟩) hS hP (fun H locs hP hS => ?_)
          obtain ⟨h5, hf⟩ := ogd hf
          refine va_iast hx hb hK hP (hD.addr rfl) hS 5 0 rfl rfl (ib_in h5) dX3_applyToSlot_32 (fun H locs hP _ hS => ?_)
          obtain ⟨h5a, eh5a⟩ : ∃ y : Nat → Int32, y = upd v_oldSorts v3.toNatClampNeg z4 := ⟨_, rfl⟩
          replace hf := onm eh5a hf
          have hP : va_P D vwCl [oX0 b b_keyCount b_sheetSet b_handSort b_handNumber, aI cI (b 3) 72 b_sorts, aJ cJ (b 4) 72 b_numbers, oX3 v v_count, aI cI (v 1) 12 v_from, aI cI (v 2) 12 h5a, aJ cJ (v 3) 12 v_oldNumbers] H := by rw [eh5a]; exact hP
          refine lv_aload_n hx hb dX3_applyToSlot_33 rfl (lv_at hl 0 rfl) ?_
          refine va_get (D := D) (ci := 3) (v := .ref (v 3)) (C := RX3) (T := TX3) (N := 4) hx hb hts hI_X3 hown hK hP 3 rfl rfl 2 (by decide) gf18 (fun _ h9 => h9) rfl dX3_applyToSlot_34 ?_
          refine lv_iload_n hx hb dX3_applyToSlot_37 rfl (lv_at hl 3 rfl) ?_
          refine lv_aload_n hx hb dX3_applyToSlot_38 rfl (lv_at hl 1 rfl) ?_
          refine lv_iload_n hx hb dX3_applyToSlot_39 rfl (lv_at hl 2 rfl) ?_
          refine lv_aload_n hx hb dX3_applyToSlot_40 rfl (lv_at hl 0 rfl) ?_
          refine va_get (D := D) (ci := 3) (v := .ref (v 1)) (C := RX3) (T := TX3) (N := 4) hx hb hts hI_X3 hown hK hP 3 rfl rfl 0 (by decide) gf9 (fun _ h9 => h9) rfl dX3_applyToSlot_41 ?_
          refine lv_iload_n hx hb dX3_applyToSlot_44 rfl (lv_at hl 3 rfl) ?_
          obtain ⟨h6, hf⟩ := ogd hf
          refine va_iald hx hb hK hP 4 0 rfl rfl (ib_in h6) dX3_applyToSlot_45 ?_
          obtain ⟨z7, hz7, hf⟩ := obd hf
          refine kJ (runV (As := [.int v2, .int (v_from v3.toNatClampNeg)]) (rest := [.int v3, .ref (v 3)]) C0 hE hAb hP ((hD.weaken (fun _ _ _ h9 => hAb _ h9)).addr rfl) hS [0, 2] (wc := [oX0 b b_keyCount b_sheetSet b_handSort b_handNumber, aJ cJ (b 4) 72 b_numbers]) (by decide) rfl 0 rfl rfl (c_X0_numberAt l D cI cJ cZ cQ bs H.size b b_keyCount b_sheetSet b_handSort b_handNumber b_numbers v2 (v_from v3.toNatClampNeg) z7 hz7) (cwV 2 hts gX3_applyToSlot_X0_numberAt rfl rfl rfl (by decide +kernel) ⟨Nat.le_of_ble_eq_true rfl, Nat.le_of_ble_eq_true rfl⟩) rfl hl.1 rfl (Nat.le_of_ble_eq_true rfl) dX3_applyToSlot_46 ⟨Nat.le_of_ble_eq_true rfl, Nat.le_of_ble_eq_true rfl⟩) hS hP (fun H locs hP hS => ?_)
          obtain ⟨h8, hf⟩ := ogd hf
          refine va_last hx hb hK hP (hD.addr rfl) hS 6 1 rfl rfl (ib_in h8) dX3_applyToSlot_49 (fun H locs hP _ hS => ?_)
          obtain ⟨h8a, eh8a⟩ : ∃ y : Nat → Int64, y = vp_updL v_oldNumbers v3.toNatClampNeg z7 := ⟨_, rfl⟩
          replace hf := onm eh8a hf
          have hP : va_P D vwCl [oX0 b b_keyCount b_sheetSet b_handSort b_handNumber, aI cI (b 3) 72 b_sorts, aJ cJ (b 4) 72 b_numbers, oX3 v v_count, aI cI (v 1) 12 v_from, aI cI (v 2) 12 h5a, aJ cJ (v 3) 12 h8a] H := by rw [eh8a]; exact hP
          obtain ⟨y9, ey9⟩ : ∃ y : Int32, y = v3 + 1 := ⟨_, rfl⟩
          replace hf := onm ey9 hf
          refine lv_iinc (v := y9) (lv' := [(3, .int y9), (0, .ref (v 0)), (1, .ref (b 0)), (2, .int v2)]) hx hb dX3_applyToSlot_50 hl (k := 3) rfl (by rw [ey9]; rfl) (by decide) rfl (fun ls hl => ?_)
          refine lv_goto (tgt := 2) hx hb dX3_applyToSlot_53 (by decide) ?_
          exact ih v2 y9 b_sorts b_numbers h5a h8a H locs ls z hP hS (lv_sub hl [1, 2, 3, 0] rfl) hf K
  have W58 : ∀ (n : Nat) (v2 : Int32) (v3 : Int32) (b_sorts : Nat → Int32) (b_numbers : Nat → Int64) (v_oldSorts : Nat → Int32) (v_oldNumbers : Nat → Int64) (H : Heap) (locs : List Loc) (ls : Array Slot) (z : (Nat → Int32) × (Nat → Int64)), va_P D vwCl [oX0 b b_keyCount b_sheetSet b_handSort b_handNumber, aI cI (b 3) 72 b_sorts, aJ cJ (b 4) 72 b_numbers, oX3 v v_count, aI cI (v 1) 12 v_from, aI cI (v 2) 12 v_oldSorts, aJ cJ (v 3) 12 v_oldNumbers] H → va_S A s.heap H locs → lv_has ls 4 [(0, .ref (v 0)), (1, .ref (b 0)), (2, .int v2), (3, .int v3)] → L_X3_applyToSlot_58 v_oldSorts v_oldNumbers v_count v2 n v3 b_sorts b_numbers = some z → (∀ (H : Heap) (locs : List Loc) (ls : Array Slot), va_P D vwCl [oX0 b b_keyCount b_sheetSet b_handSort b_handNumber, aI cI (b 3) 72 z.1, aJ cJ (b 4) 72 z.2, oX3 v v_count, aI cI (v 1) 12 v_from, aI cI (v 2) 12 v_oldSorts, aJ cJ (v 3) 12 v_oldNumbers] H → va_S A s.heap H locs → lv_has ls 4 [] → W p l e { frames := 2, cells := 0, slots := 0, locals := 46 } s m args below meth c H locs 0 0 (MQ below (QwV D zr (fun u => [oX0 b b_keyCount b_sheetSet b_handSort b_handNumber, aI cI (b 3) 72 u.1, aJ cJ (b 4) 72 u.2.1, oX3 v v_count, aI cI (v 1) 12 v_from, aI cI (v 2) 12 u.2.2.1, aJ cJ (v 3) 12 u.2.2.2]) A) args s 0 0 A) (F0 m 96 ls [])) → W p l e { frames := 2, cells := 0, slots := 0, locals := 46 } s m args below meth c H locs 0 0 (MQ below (QwV D zr (fun u => [oX0 b b_keyCount b_sheetSet b_handSort b_handNumber, aI cI (b 3) 72 u.1, aJ cJ (b 4) 72 u.2.1, oX3 v v_count, aI cI (v 1) 12 v_from, aI cI (v 2) 12 u.2.2.1, aJ cJ (v 3) 12 u.2.2.2]) A) args s 0 0 A) (F0 m 58 ls []) := by
    intro n
    induction n with
    | zero =>
      intro v2 v3 b_sorts b_numbers v_oldSorts v_oldNumbers H locs ls z hP hS hl hf
      exact absurd (show (none : Option ((Nat → Int32) × (Nat → Int64))) = some z from hf) (fun h => by cases h)
    | succ n ih =>
      intro v2 v3 b_sorts b_numbers v_oldSorts v_oldNumbers H locs ls z hP hS hl hf K
      rw [L_X3_applyToSlot_58] at hf
      refine lv_iload_n hx hb dX3_applyToSlot_58 rfl (lv_at hl 3 rfl) ?_
      refine lv_aload_n hx hb dX3_applyToSlot_59 rfl (lv_at hl 0 rfl) ?_
      refine va_get (D := D) (ci := 3) (v := .int v_count) (C := RX3) (T := TX3) (N := 4) hx hb hts hI_X3 hown hK hP 3 rfl rfl 3 (by decide) gf22 (fun _ h9 => h9) rfl dX3_applyToSlot_60 ?_
      refine lv_icmp_ge (tgt := 96) hx hb dX3_applyToSlot_63 (by decide) (fun c11 => ?_) (fun c11 => ?_)
      · replace hf := oif c11 hf
        have hf := Option.some.inj hf
        subst hf
        exact K H locs ls hP hS (lv_sub hl [] rfl)
      · replace hf := oel c11 hf
        refine lv_iload_n hx hb dX3_applyToSlot_66 rfl (lv_at hl 3 rfl) ?_
        refine lv_bipush (v := 12) hx hb dX3_applyToSlot_67 (by decide) ?_
        refine lv_icmp_ge (tgt := 96) hx hb dX3_applyToSlot_69 (by decide) (fun c12 => ?_) (fun c12 => ?_)
        · replace hf := oif c12 hf
          have hf := Option.some.inj hf
          subst hf
          exact K H locs ls hP hS (lv_sub hl [] rfl)
        · replace hf := oel c12 hf
          refine lv_aload_n hx hb dX3_applyToSlot_72 rfl (lv_at hl 1 rfl) ?_
          refine lv_iload_n hx hb dX3_applyToSlot_73 rfl (lv_at hl 2 rfl) ?_
          refine lv_iload_n hx hb dX3_applyToSlot_74 rfl (lv_at hl 3 rfl) ?_
          refine lv_aload_n hx hb dX3_applyToSlot_75 rfl (lv_at hl 0 rfl) ?_
          refine va_get (D := D) (ci := 3) (v := .ref (v 2)) (C := RX3) (T := TX3) (N := 4) hx hb hts hI_X3 hown hK hP 3 rfl rfl 1 (by decide) gf15 (fun _ h9 => h9) rfl dX3_applyToSlot_76 ?_
          refine lv_iload_n hx hb dX3_applyToSlot_79 rfl (lv_at hl 3 rfl) ?_
          obtain ⟨h13, hf⟩ := ogd hf
          refine va_iald hx hb hK hP 5 0 rfl rfl (ib_in h13) dX3_applyToSlot_80 ?_
          refine lv_aload_n hx hb dX3_applyToSlot_81 rfl (lv_at hl 0 rfl) ?_
          refine va_get (D := D) (ci := 3) (v := .ref (v 3)) (C := RX3) (T := TX3) (N := 4) hx hb hts hI_X3 hown hK hP 3 rfl rfl 2 (by decide) gf18 (fun _ h9 => h9) rfl dX3_applyToSlot_82 ?_
          refine lv_iload_n hx hb dX3_applyToSlot_85 rfl (lv_at hl 3 rfl) ?_
          obtain ⟨h14, hf⟩ := ogd hf
          refine va_lald hx hb hK hP 6 1 rfl rfl (ib_in h14) dX3_applyToSlot_86 ?_
          obtain ⟨z15, hz15, hf⟩ := obd hf
          refine kwV (runV (As := [.int v2, .int v3, .int (v_oldSorts v3.toNatClampNeg), .long (v_oldNumbers v3.toNatClampNeg)]) (rest := []) C0 hE hAb hP ((hD.weaken (fun _ _ _ h9 => hAb _ h9)).addr rfl) hS [0, 1, 2] (wc := [oX0 b b_keyCount b_sheetSet b_handSort b_handNumber, aI cI (b 3) 72 b_sorts, aJ cJ (b 4) 72 b_numbers]) (by decide) rfl 0 rfl rfl (c_X0_setCell l D cI cJ cZ cQ bs H.size b b_keyCount b_sheetSet b_handSort b_handNumber b_sorts b_numbers v2 v3 (v_oldSorts v3.toNatClampNeg) (v_oldNumbers v3.toNatClampNeg) z15 hz15) (cwV 4 hts gX3_applyToSlot_X0_setCell rfl rfl rfl (by decide +kernel) ⟨Nat.le_of_ble_eq_true rfl, Nat.le_of_ble_eq_true rfl⟩) rfl hl.1 rfl (Nat.le_of_ble_eq_true rfl) dX3_applyToSlot_87 ⟨Nat.le_of_ble_eq_true rfl, Nat.le_of_ble_eq_true rfl⟩) hS hP (hD.addr rfl) hA [0, 1, 2] rfl rfl (ws' := [oX0 b b_keyCount b_sheetSet b_handSort b_handNumber, aI cI (b 3) 72 z15.1, aJ cJ (b 4) 72 z15.2, oX3 v v_count, aI cI (v 1) 12 v_from, aI cI (v 2) 12 v_oldSorts, aJ cJ (v 3) 12 v_oldNumbers]) rfl rfl (fun H locs hP hS => ?_)
          obtain ⟨y16, ey16⟩ : ∃ y : Int32, y = v3 + 1 := ⟨_, rfl⟩
          replace hf := onm ey16 hf
          refine lv_iinc (v := y16) (lv' := [(3, .int y16), (0, .ref (v 0)), (1, .ref (b 0)), (2, .int v2)]) hx hb dX3_applyToSlot_90 hl (k := 3) rfl (by rw [ey16]; rfl) (by decide) rfl (fun ls hl => ?_)
          refine lv_goto (tgt := 58) hx hb dX3_applyToSlot_93 (by decide) ?_
          exact ih v2 y16 z15.1 z15.2 v_oldSorts v_oldNumbers H locs ls z hP hS (lv_sub hl [1, 2, 3, 0] rfl) hf K
  unfold f_X3_applyToSlot at hf
  have go : ∀ (H : Heap) (locs : List Loc), va_P D vwCl [oX0 b b_keyCount b_sheetSet b_handSort b_handNumber, aI cI (b 3) 72 b_sorts, aJ cJ (b 4) 72 b_numbers, oX3 v v_count, aI cI (v 1) 12 v_from, aI cI (v 2) 12 v_oldSorts, aJ cJ (v 3) 12 v_oldNumbers] H → va_S A s.heap H locs → W p l e { frames := 2, cells := 0, slots := 0, locals := 46 } s m args below meth c H locs 0 0 (MQ below (QwV D zr (fun u => [oX0 b b_keyCount b_sheetSet b_handSort b_handNumber, aI cI (b 3) 72 u.1, aJ cJ (b 4) 72 u.2.1, oX3 v v_count, aI cI (v 1) 12 v_from, aI cI (v 2) 12 u.2.2.1, aJ cJ (v 3) 12 u.2.2.2]) A) args s 0 0 A) (F0 m 0 ls []) := by
    intro H locs hP hS
    refine lv_iconst (v := 0) hx hb dX3_applyToSlot_0 (by decide) ?_
    refine lv_istore_n (lv' := [(3, .int 0), (0, .ref (v 0)), (1, .ref (b 0)), (2, .int x2)]) hx hb dX3_applyToSlot_1 rfl hl (by decide) rfl (fun ls hl => ?_)
    obtain ⟨z10, hz10, hf⟩ := obd hf
    refine W2 4000 x2 0 b_sorts b_numbers v_oldSorts v_oldNumbers H locs ls z10 hP hS (lv_sub hl [1, 2, 3, 0] rfl) hz10 (fun H locs ls hP hS hl => ?_)
    refine lv_iconst (v := 0) hx hb dX3_applyToSlot_56 (by decide) ?_
    refine lv_istore_n (lv' := [(3, .int 0), (0, .ref (v 0)), (1, .ref (b 0)), (2, .int x2)]) hx hb dX3_applyToSlot_57 rfl hl (by decide) rfl (fun ls hl => ?_)
    obtain ⟨z17, hz17, hf⟩ := obd hf
    refine W58 4000 x2 0 b_sorts b_numbers z10.1 z10.2 H locs ls z17 hP hS (lv_sub hl [1, 2, 3, 0] rfl) hz17 (fun H locs ls hP hS hl => ?_)
    have er := Option.some.inj hf
    exact rwV (wm := (fun u => [oX0 b b_keyCount b_sheetSet b_handSort b_handNumber, aI cI (b 3) 72 u.1, aJ cJ (b 4) 72 u.2.1, oX3 v v_count, aI cI (v 1) 12 v_from, aI cI (v 2) 12 u.2.2.1, aJ cJ (v 3) 12 u.2.2.2])) hx hb hr hS dX3_applyToSlot_96 hP er hlocks
  exact go s.heap [] hP hS
noncomputable def L_X3_applyTo_2 (b_sheetSet : Int32) (v_from : Nat → Int32) (v_count : Int32) : Nat → Int32 → (Nat → Int32) → (Nat → Int64) → (Nat → Int32) → (Nat → Int64) → Option ((Nat → Int32) × (Nat → Int64) × (Nat → Int32) × (Nat → Int64))
  | 0, _, _, _, _, _ => none
  | n + 1, v2, b_sorts, b_numbers, v_oldSorts, v_oldNumbers => if 6 ≤ v2 then (some ((b_sorts, b_numbers, v_oldSorts, v_oldNumbers))) else (if ((b_sheetSet >>> (v2 &&& 31)) &&& 1) = 1 then ((f_X3_applyToSlot b_sorts b_numbers v_from v_oldSorts v_oldNumbers v_count v2).bind (fun z4 => (some (v2 + 1 : Int32)).bind (fun y5 => L_X3_applyTo_2 b_sheetSet v_from v_count n y5 z4.1 z4.2.1 z4.2.2.1 z4.2.2.2))) else ((some (v2 + 1 : Int32)).bind (fun y3 => L_X3_applyTo_2 b_sheetSet v_from v_count n y3 b_sorts b_numbers v_oldSorts v_oldNumbers)))
noncomputable def f_X3_applyTo (b_sorts : Nat → Int32) (b_numbers : Nat → Int64) (b_sheetSet : Int32) (v_from : Nat → Int32) (v_oldSorts : Nat → Int32) (v_oldNumbers : Nat → Int64) (v_count : Int32) : Option ((Nat → Int32) × (Nat → Int64) × (Nat → Int32) × (Nat → Int64)) := (L_X3_applyTo_2 b_sheetSet v_from v_count 4000 0 b_sorts b_numbers v_oldSorts v_oldNumbers).bind (fun z6 => some ((z6.1, z6.2.1, z6.2.2.1, z6.2.2.2)))
set_option maxHeartbeats 4000000 in
set_option maxRecDepth 100000 in
theorem c_X3_applyTo (l : Launch) (D : va_G) (cI cJ cZ cQ : ClassId) (bs sz : Nat) (b : Nat → Nat) (v : Nat → Nat) (b_keyCount : Int32) (b_sheetSet : Int32) (b_handSort : Int32) (b_handNumber : Int64) (b_sorts : Nat → Int32) (b_numbers : Nat → Int64) (v_count : Int32) (v_from : Nat → Int32) (v_oldSorts : Nat → Int32) (v_oldNumbers : Nat → Int64) (zr : (Nat → Int32) × (Nat → Int64) × (Nat → Int32) × (Nat → Int64)) (hf : f_X3_applyTo b_sorts b_numbers b_sheetSet v_from v_oldSorts v_oldNumbers v_count = some zr) : Met l yX3_applyTo wsX3_applyTo { frames := 3, cells := 0, slots := 0, locals := 69 } (va_Pc [.ref (v 0), .ref (b 0)] (Pr D cI cJ cZ cQ bs sz [oX0 b b_keyCount b_sheetSet b_handSort b_handNumber, aI cI (b 3) 72 b_sorts, aJ cJ (b 4) 72 b_numbers, oX3 v v_count, aI cI (v 1) 12 v_from, aI cI (v 2) 12 v_oldSorts, aJ cJ (v 3) 12 v_oldNumbers])) (QwV D zr (fun u => [oX0 b b_keyCount b_sheetSet b_handSort b_handNumber, aI cI (b 3) 72 u.1, aJ cJ (b 4) 72 u.2.1, oX3 v v_count, aI cI (v 1) 12 v_from, aI cI (v 2) 12 u.2.2.1, aJ cJ (v 3) 12 u.2.2.2]) (va_A [oX0 b b_keyCount b_sheetSet b_handSort b_handNumber, aI cI (b 3) 72 b_sorts, aJ cJ (b 4) 72 b_numbers, oX3 v v_count, aI cI (v 1) 12 v_from, aI cI (v 2) 12 v_oldSorts, aJ cJ (v 3) 12 v_oldNumbers] sz)) 0 0 (va_A [oX0 b b_keyCount b_sheetSet b_handSort b_handNumber, aI cI (b 3) 72 b_sorts, aJ cJ (b 4) 72 b_numbers, oX3 v v_count, aI cI (v 1) 12 v_from, aI cI (v 2) 12 v_oldSorts, aJ cJ (v 3) 12 v_oldNumbers] sz) := by
  refine stW (cc := cX3_applyTo) (maxL := 3) (ret := none) (Qf := fun A => (QwV D zr (fun u => [oX0 b b_keyCount b_sheetSet b_handSort b_handNumber, aI cI (b 3) 72 u.1, aJ cJ (b 4) 72 u.2.1, oX3 v v_count, aI cI (v 1) 12 v_from, aI cI (v 2) 12 u.2.2.1, aJ cJ (v 3) 12 u.2.2.2]) A)) (by decide +kernel) rfl (Nat.le_of_ble_eq_true rfl) ?_
  intro p e s m args below meth c A C0 hr hlocks hname hsz hP hD hA hAb hE ls hl
  obtain ⟨hx, hb, hml, hown, hts⟩ := id C0
  have hown : s.vm.findClass RX3 = some m.cls := hown
  obtain ⟨hK, hNW, -, tw, hZ, hT⟩ := id hE
  have hl : lv_has ls 3 [(0, .ref (v 0)), (1, .ref (b 0))] := hl
  have hS : va_S A s.heap s.heap [] := va_S.rf
  have hI_X0 := (show ∀ w ∈ wsX00, w ∈ wsX3_applyTo by decide +kernel)
  have gf26 := hNW (.fieldLinkNest RX3 26 RX0 "sheetSet" "I" RX5) (by decide +kernel)
  have W2 : ∀ (n : Nat) (v2 : Int32) (b_sorts : Nat → Int32) (b_numbers : Nat → Int64) (v_oldSorts : Nat → Int32) (v_oldNumbers : Nat → Int64) (H : Heap) (locs : List Loc) (ls : Array Slot) (z : (Nat → Int32) × (Nat → Int64) × (Nat → Int32) × (Nat → Int64)), va_P D vwCl [oX0 b b_keyCount b_sheetSet b_handSort b_handNumber, aI cI (b 3) 72 b_sorts, aJ cJ (b 4) 72 b_numbers, oX3 v v_count, aI cI (v 1) 12 v_from, aI cI (v 2) 12 v_oldSorts, aJ cJ (v 3) 12 v_oldNumbers] H → va_S A s.heap H locs → lv_has ls 3 [(0, .ref (v 0)), (1, .ref (b 0)), (2, .int v2)] → L_X3_applyTo_2 b_sheetSet v_from v_count n v2 b_sorts b_numbers v_oldSorts v_oldNumbers = some z → (∀ (H : Heap) (locs : List Loc) (ls : Array Slot), va_P D vwCl [oX0 b b_keyCount b_sheetSet b_handSort b_handNumber, aI cI (b 3) 72 z.1, aJ cJ (b 4) 72 z.2.1, oX3 v v_count, aI cI (v 1) 12 v_from, aI cI (v 2) 12 z.2.2.1, aJ cJ (v 3) 12 z.2.2.2] H → va_S A s.heap H locs → lv_has ls 3 [] → W p l e { frames := 3, cells := 0, slots := 0, locals := 69 } s m args below meth c H locs 0 0 (MQ below (QwV D zr (fun u => [oX0 b b_keyCount b_sheetSet b_handSort b_handNumber, aI cI (b 3) 72 u.1, aJ cJ (b 4) 72 u.2.1, oX3 v v_count, aI cI (v 1) 12 v_from, aI cI (v 2) 12 u.2.2.1, aJ cJ (v 3) 12 u.2.2.2]) A) args s 0 0 A) (F0 m 32 ls [])) → W p l e { frames := 3, cells := 0, slots := 0, locals := 69 } s m args below meth c H locs 0 0 (MQ below (QwV D zr (fun u => [oX0 b b_keyCount b_sheetSet b_handSort b_handNumber, aI cI (b 3) 72 u.1, aJ cJ (b 4) 72 u.2.1, oX3 v v_count, aI cI (v 1) 12 v_from, aI cI (v 2) 12 u.2.2.1, aJ cJ (v 3) 12 u.2.2.2]) A) args s 0 0 A) (F0 m 2 ls []) := by
    intro n
    induction n with
    | zero =>
      intro v2 b_sorts b_numbers v_oldSorts v_oldNumbers H locs ls z hP hS hl hf
      exact absurd (show (none : Option ((Nat → Int32) × (Nat → Int64) × (Nat → Int32) × (Nat → Int64))) = some z from hf) (fun h => by cases h)
    | succ n ih =>
      intro v2 b_sorts b_numbers v_oldSorts v_oldNumbers H locs ls z hP hS hl hf K
      rw [L_X3_applyTo_2] at hf
      refine lv_iload_n hx hb dX3_applyTo_2 rfl (lv_at hl 2 rfl) ?_
      refine lv_bipush (v := 6) hx hb dX3_applyTo_3 (by decide) ?_
      refine lv_icmp_ge (tgt := 32) hx hb dX3_applyTo_5 (by decide) (fun c1 => ?_) (fun c1 => ?_)
      · replace hf := oif c1 hf
        have hf := Option.some.inj hf
        subst hf
        exact K H locs ls hP hS (lv_sub hl [] rfl)
      · replace hf := oel c1 hf
        refine lv_aload_n hx hb dX3_applyTo_8 rfl (lv_at hl 1 rfl) ?_
        refine va_getN (D := D) (ci := 0) (v := .int b_sheetSet) (C := RX0) (T := TX0) (N := 12) hx hb hts hI_X0 hown hK hP 0 rfl rfl 9 (by decide) (va_Nw.use rfl gf26) (fun _ h9 => h9) rfl dX3_applyTo_9 ?_
        refine lv_iload_n hx hb dX3_applyTo_12 rfl (lv_at hl 2 rfl) ?_
        refine lv_ishr hx hb dX3_applyTo_13 ?_
        refine lv_iconst (v := 1) hx hb dX3_applyTo_14 (by decide) ?_
        refine lv_iand hx hb dX3_applyTo_15 ?_
        refine lv_iconst (v := 1) hx hb dX3_applyTo_16 (by decide) ?_
        refine lv_icmp_ne (tgt := 26) hx hb dX3_applyTo_17 (by decide) (fun c2 => ?_) (fun c2 => ?_)
        · replace hf := oel c2 hf
          obtain ⟨y3, ey3⟩ : ∃ y : Int32, y = v2 + 1 := ⟨_, rfl⟩
          replace hf := onm ey3 hf
          refine lv_iinc (v := y3) (lv' := [(2, .int y3), (0, .ref (v 0)), (1, .ref (b 0))]) hx hb dX3_applyTo_26 hl (k := 2) rfl (by rw [ey3]; rfl) (by decide) rfl (fun ls hl => ?_)
          refine lv_goto (tgt := 2) hx hb dX3_applyTo_29 (by decide) ?_
          exact ih y3 b_sorts b_numbers v_oldSorts v_oldNumbers H locs ls z hP hS (lv_sub hl [1, 2, 0] rfl) hf K
        · replace hf := oif c2 hf
          refine lv_aload_n hx hb dX3_applyTo_20 rfl (lv_at hl 0 rfl) ?_
          refine lv_aload_n hx hb dX3_applyTo_21 rfl (lv_at hl 1 rfl) ?_
          refine lv_iload_n hx hb dX3_applyTo_22 rfl (lv_at hl 2 rfl) ?_
          obtain ⟨z4, hz4, hf⟩ := obd hf
          refine kwV (runV (As := [.ref (b 0), .int v2]) (rest := []) C0 hE hAb hP ((hD.weaken (fun _ _ _ h9 => hAb _ h9)).addr rfl) hS [0, 1, 2, 3, 4, 5, 6] (wc := [oX0 b b_keyCount b_sheetSet b_handSort b_handNumber, aI cI (b 3) 72 b_sorts, aJ cJ (b 4) 72 b_numbers, oX3 v v_count, aI cI (v 1) 12 v_from, aI cI (v 2) 12 v_oldSorts, aJ cJ (v 3) 12 v_oldNumbers]) (by decide) rfl 3 rfl rfl (c_X3_applyToSlot l D cI cJ cZ cQ bs H.size b v b_keyCount b_sheetSet b_handSort b_handNumber b_sorts b_numbers v_count v_from v_oldSorts v_oldNumbers v2 z4 hz4) (cwV 2 hts gX3_applyTo_X3_applyToSlot rfl rfl rfl (by decide +kernel) ⟨Nat.le_of_ble_eq_true rfl, Nat.le_of_ble_eq_true rfl⟩) rfl hl.1 rfl (Nat.le_of_ble_eq_true rfl) dX3_applyTo_23 ⟨Nat.le_of_ble_eq_true rfl, Nat.le_of_ble_eq_true rfl⟩) hS hP (hD.addr rfl) hA [0, 1, 2, 3, 4, 5, 6] rfl rfl (ws' := [oX0 b b_keyCount b_sheetSet b_handSort b_handNumber, aI cI (b 3) 72 z4.1, aJ cJ (b 4) 72 z4.2.1, oX3 v v_count, aI cI (v 1) 12 v_from, aI cI (v 2) 12 z4.2.2.1, aJ cJ (v 3) 12 z4.2.2.2]) rfl rfl (fun H locs hP hS => ?_)
          obtain ⟨y5, ey5⟩ : ∃ y : Int32, y = v2 + 1 := ⟨_, rfl⟩
          replace hf := onm ey5 hf
          refine lv_iinc (v := y5) (lv' := [(2, .int y5), (0, .ref (v 0)), (1, .ref (b 0))]) hx hb dX3_applyTo_26 hl (k := 2) rfl (by rw [ey5]; rfl) (by decide) rfl (fun ls hl => ?_)
          refine lv_goto (tgt := 2) hx hb dX3_applyTo_29 (by decide) ?_
          exact ih y5 z4.1 z4.2.1 z4.2.2.1 z4.2.2.2 H locs ls z hP hS (lv_sub hl [1, 2, 0] rfl) hf K
  unfold f_X3_applyTo at hf
  have go : ∀ (H : Heap) (locs : List Loc), va_P D vwCl [oX0 b b_keyCount b_sheetSet b_handSort b_handNumber, aI cI (b 3) 72 b_sorts, aJ cJ (b 4) 72 b_numbers, oX3 v v_count, aI cI (v 1) 12 v_from, aI cI (v 2) 12 v_oldSorts, aJ cJ (v 3) 12 v_oldNumbers] H → va_S A s.heap H locs → W p l e { frames := 3, cells := 0, slots := 0, locals := 69 } s m args below meth c H locs 0 0 (MQ below (QwV D zr (fun u => [oX0 b b_keyCount b_sheetSet b_handSort b_handNumber, aI cI (b 3) 72 u.1, aJ cJ (b 4) 72 u.2.1, oX3 v v_count, aI cI (v 1) 12 v_from, aI cI (v 2) 12 u.2.2.1, aJ cJ (v 3) 12 u.2.2.2]) A) args s 0 0 A) (F0 m 0 ls []) := by
    intro H locs hP hS
    refine lv_iconst (v := 0) hx hb dX3_applyTo_0 (by decide) ?_
    refine lv_istore_n (lv' := [(2, .int 0), (0, .ref (v 0)), (1, .ref (b 0))]) hx hb dX3_applyTo_1 rfl hl (by decide) rfl (fun ls hl => ?_)
    obtain ⟨z6, hz6, hf⟩ := obd hf
    refine W2 4000 0 b_sorts b_numbers v_oldSorts v_oldNumbers H locs ls z6 hP hS (lv_sub hl [1, 2, 0] rfl) hz6 (fun H locs ls hP hS hl => ?_)
    have er := Option.some.inj hf
    exact rwV (wm := (fun u => [oX0 b b_keyCount b_sheetSet b_handSort b_handNumber, aI cI (b 3) 72 u.1, aJ cJ (b 4) 72 u.2.1, oX3 v v_count, aI cI (v 1) 12 v_from, aI cI (v 2) 12 u.2.2.1, aJ cJ (v 3) 12 u.2.2.2])) hx hb hr hS dX3_applyTo_32 hP er hlocks
  exact go s.heap [] hP hS
noncomputable def f_X4_lesserThan (r_lesser : Nat → Int32) (r_length : Int32) (x1 : Int32) : Option (Int32) := (f_X4_isPlace r_length x1).bind (fun z1 => if z1 = 0 then (some (0)) else (if ib x1 12 = true then (some ((r_lesser x1.toNatClampNeg))) else none))
set_option maxHeartbeats 4000000 in
set_option maxRecDepth 100000 in
theorem c_X4_lesserThan (l : Launch) (D : va_G) (cI cJ cZ cQ : ClassId) (bs sz : Nat) (r : Nat → Nat) (r_length : Int32) (r_lesser : Nat → Int32) (x1 : Int32) (zr : Int32) (hf : f_X4_lesserThan r_lesser r_length x1 = some zr) : Met l yX4_lesserThan wsX4_lesserThan { frames := 1, cells := 0, slots := 0, locals := 21 } (va_Pc [.ref (r 0), .int x1] (Pr D cI cJ cZ cQ bs sz [oX4 r r_length, aI cI (r 1) 12 r_lesser])) (QrI zr) 0 0 no := by
  refine stM (cc := cX4_lesserThan) (maxL := 2) (ret := (some .int)) (by decide +kernel) rfl (Nat.le_of_ble_eq_true rfl) ?_
  intro p e s m args below meth c C0 hr hlocks hname hsz hP hDb hE ls hl
  have hAb : ∀ q, no q → bs ≤ q := fun _ h => h.elim
  obtain ⟨hx, hb, hml, hown, hts⟩ := id C0
  have hown : s.vm.findClass RX4 = some m.cls := hown
  obtain ⟨hK, hNW, -, tw, hZ, hT⟩ := id hE
  have hl : lv_has ls 2 [(0, .ref (r 0)), (1, .int x1)] := hl
  have hS : va_S no s.heap s.heap [] := va_S.rf
  have hI_X4 := (show ∀ w ∈ wsX40, w ∈ wsX4_lesserThan by decide +kernel)
  have gf9 := hts (.fieldLink RX4 9 "RowRanks$Ranking" "lesser" "[I") (by decide +kernel)
  unfold f_X4_lesserThan at hf
  have go : ∀ (H : Heap) (locs : List Loc), va_P D vwCl [oX4 r r_length, aI cI (r 1) 12 r_lesser] H → va_S no s.heap H locs → W p l e { frames := 1, cells := 0, slots := 0, locals := 21 } s m args below meth c H locs 0 0 (MQ below (QrI zr) args s 0 0 no) (F0 m 0 ls []) := by
    intro H locs hP hS
    refine lv_aload_n hx hb dX4_lesserThan_0 rfl (lv_at hl 0 rfl) ?_
    refine lv_iload_n hx hb dX4_lesserThan_1 rfl (lv_at hl 1 rfl) ?_
    obtain ⟨z1, hz1, hf⟩ := obd hf
    refine kZ (runV (As := [.int x1]) (rest := []) C0 hE hAb hP (hDb.addr rfl) hS [0] (wc := [oX4 r r_length]) (by decide) rfl 0 rfl rfl (c_X4_isPlace l D cI cJ cZ cQ bs H.size r r_length x1 z1 hz1) (cwV 1 hts gX4_lesserThan_X4_isPlace rfl rfl rfl (by decide +kernel) ⟨Nat.le_of_ble_eq_true rfl, Nat.le_of_ble_eq_true rfl⟩) rfl hl.1 rfl (Nat.le_of_ble_eq_true rfl) dX4_lesserThan_2 ⟨Nat.le_of_ble_eq_true rfl, Nat.le_of_ble_eq_true rfl⟩) hS hP (fun bz1 H locs hP hS => ?_)
    refine lv_if_eq (tgt := 17) hx hb dX4_lesserThan_5 (by decide) (fun c2 => ?_) (fun c2 => ?_)
    · replace hf := oif c2 hf
      refine lv_iconst (v := 0) hx hb dX4_lesserThan_17 (by decide) ?_
      have er := Option.some.inj hf
      exact rtI hx hb hr hS dX4_lesserThan_18 er hlocks
    · replace hf := oel c2 hf
      refine lv_aload_n hx hb dX4_lesserThan_8 rfl (lv_at hl 0 rfl) ?_
      refine va_get (D := D) (ci := 4) (v := .ref (r 1)) (C := RX4) (T := TX4) (N := 5) hx hb hts hI_X4 hown hK hP 0 rfl rfl 0 (by decide) gf9 (fun _ h9 => h9) rfl dX4_lesserThan_9 ?_
      refine lv_iload_n hx hb dX4_lesserThan_12 rfl (lv_at hl 1 rfl) ?_
      obtain ⟨h3, hf⟩ := ogd hf
      refine va_iald hx hb hK hP 1 0 rfl rfl (ib_in h3) dX4_lesserThan_13 ?_
      refine lv_goto (tgt := 18) hx hb dX4_lesserThan_14 (by decide) ?_
      have er := Option.some.inj hf
      exact rtI hx hb hr hS dX4_lesserThan_18 er hlocks
  exact go s.heap [] hP hS
noncomputable def f_X4_compareByRank (r_lesser : Nat → Int32) (r_length : Int32) (x1 : Int32) (x2 : Int32) : Option (Int32) := (f_X4_lesserThan r_lesser r_length x1).bind (fun z1 => (f_X4_lesserThan r_lesser r_length x2).bind (fun z2 => (f_J6_compare_7cf53 z1 z2).bind (fun z3 => some (z3))))
set_option maxHeartbeats 4000000 in
set_option maxRecDepth 100000 in
theorem c_X4_compareByRank (l : Launch) (D : va_G) (cI cJ cZ cQ : ClassId) (bs sz : Nat) (r : Nat → Nat) (r_length : Int32) (r_lesser : Nat → Int32) (x1 : Int32) (x2 : Int32) (zr : Int32) (hf : f_X4_compareByRank r_lesser r_length x1 x2 = some zr) : Met l yX4_compareByRank wsX4_compareByRank { frames := 2, cells := 0, slots := 0, locals := 42 } (va_Pc [.ref (r 0), .int x1, .int x2] (Pr D cI cJ cZ cQ bs sz [oX4 r r_length, aI cI (r 1) 12 r_lesser])) (QrI zr) 0 0 no := by
  refine stM (cc := cX4_compareByRank) (maxL := 3) (ret := (some .int)) (by decide +kernel) rfl (Nat.le_of_ble_eq_true rfl) ?_
  intro p e s m args below meth c C0 hr hlocks hname hsz hP hDb hE ls hl
  have hAb : ∀ q, no q → bs ≤ q := fun _ h => h.elim
  obtain ⟨hx, hb, hml, hown, hts⟩ := id C0
  have hown : s.vm.findClass RX4 = some m.cls := hown
  obtain ⟨hK, hNW, -, tw, hZ, hT⟩ := id hE
  have hl : lv_has ls 3 [(0, .ref (r 0)), (1, .int x1), (2, .int x2)] := hl
  have hS : va_S no s.heap s.heap [] := va_S.rf
  unfold f_X4_compareByRank at hf
  have go : ∀ (H : Heap) (locs : List Loc), va_P D vwCl [oX4 r r_length, aI cI (r 1) 12 r_lesser] H → va_S no s.heap H locs → W p l e { frames := 2, cells := 0, slots := 0, locals := 42 } s m args below meth c H locs 0 0 (MQ below (QrI zr) args s 0 0 no) (F0 m 0 ls []) := by
    intro H locs hP hS
    refine lv_aload_n hx hb dX4_compareByRank_0 rfl (lv_at hl 0 rfl) ?_
    refine lv_iload_n hx hb dX4_compareByRank_1 rfl (lv_at hl 1 rfl) ?_
    obtain ⟨z1, hz1, hf⟩ := obd hf
    refine kI (runV (As := [.int x1]) (rest := []) C0 hE hAb hP (hDb.addr rfl) hS [0, 1] (wc := [oX4 r r_length, aI cI (r 1) 12 r_lesser]) (by decide) rfl 0 rfl rfl (c_X4_lesserThan l D cI cJ cZ cQ bs H.size r r_length r_lesser x1 z1 hz1) (cwV 1 hts gX4_compareByRank_X4_lesserThan rfl rfl rfl (by decide +kernel) ⟨Nat.le_of_ble_eq_true rfl, Nat.le_of_ble_eq_true rfl⟩) rfl hl.1 rfl (Nat.le_of_ble_eq_true rfl) dX4_compareByRank_2 ⟨Nat.le_of_ble_eq_true rfl, Nat.le_of_ble_eq_true rfl⟩) hS hP (fun H locs hP hS => ?_)
    refine lv_aload_n hx hb dX4_compareByRank_5 rfl (lv_at hl 0 rfl) ?_
    refine lv_iload_n hx hb dX4_compareByRank_6 rfl (lv_at hl 2 rfl) ?_
    obtain ⟨z2, hz2, hf⟩ := obd hf
    refine kI (runV (As := [.int x2]) (rest := [.int z1]) C0 hE hAb hP (hDb.addr rfl) hS [0, 1] (wc := [oX4 r r_length, aI cI (r 1) 12 r_lesser]) (by decide) rfl 0 rfl rfl (c_X4_lesserThan l D cI cJ cZ cQ bs H.size r r_length r_lesser x2 z2 hz2) (cwV 1 hts gX4_compareByRank_X4_lesserThan rfl rfl rfl (by decide +kernel) ⟨Nat.le_of_ble_eq_true rfl, Nat.le_of_ble_eq_true rfl⟩) rfl hl.1 rfl (Nat.le_of_ble_eq_true rfl) dX4_compareByRank_7 ⟨Nat.le_of_ble_eq_true rfl, Nat.le_of_ble_eq_true rfl⟩) hS hP (fun H locs hP hS => ?_)
    obtain ⟨z3, hz3, hf⟩ := obd hf
    refine kI (runS (As := [.int z1, .int z2]) (rest := []) C0 hE hAb hP (hDb.addr rfl) hS [] (wc := []) (by decide) rfl (c_J6_compare_7cf53 l D cI cJ cZ cQ bs H.size z1 z2 z3 hz3) (va_cwS 2 hts gX4_compareByRank_J6_compare_7cf53 rfl rfl rfl (by decide +kernel) ⟨Nat.le_of_ble_eq_true rfl, Nat.le_of_ble_eq_true rfl⟩) rfl hl.1 rfl (Nat.le_of_ble_eq_true rfl) dX4_compareByRank_10 ⟨Nat.le_of_ble_eq_true rfl, Nat.le_of_ble_eq_true rfl⟩) hS hP (fun H locs hP hS => ?_)
    have er := Option.some.inj hf
    exact rtI hx hb hr hS dX4_compareByRank_13 er hlocks
  exact go s.heap [] hP hS
noncomputable def L_X4_alikeBefore_4 (r_lesser : Nat → Int32) (r_length : Int32) (v1 : Int32) : Nat → Int32 → Int32 → Option (Int32)
  | 0, _, _ => none
  | n + 1, v2, v3 => if v1 ≤ v3 then (some (v2)) else ((f_X4_compareByRank r_lesser r_length v3 v1).bind (fun z2 => if z2 = 0 then ((some (v2 + 1 : Int32)).bind (fun y5 => (some (v3 + 1 : Int32)).bind (fun y6 => L_X4_alikeBefore_4 r_lesser r_length v1 n y5 y6))) else ((some (v3 + 1 : Int32)).bind (fun y4 => L_X4_alikeBefore_4 r_lesser r_length v1 n v2 y4))))
noncomputable def f_X4_alikeBefore (r_lesser : Nat → Int32) (r_length : Int32) (x1 : Int32) : Option (Int32) := (L_X4_alikeBefore_4 r_lesser r_length x1 4000 0 0).bind (fun z7 => some (z7))
set_option maxHeartbeats 4000000 in
set_option maxRecDepth 100000 in
theorem c_X4_alikeBefore (l : Launch) (D : va_G) (cI cJ cZ cQ : ClassId) (bs sz : Nat) (r : Nat → Nat) (r_length : Int32) (r_lesser : Nat → Int32) (x1 : Int32) (zr : Int32) (hf : f_X4_alikeBefore r_lesser r_length x1 = some zr) : Met l yX4_alikeBefore wsX4_alikeBefore { frames := 3, cells := 0, slots := 0, locals := 64 } (va_Pc [.ref (r 0), .int x1] (Pr D cI cJ cZ cQ bs sz [oX4 r r_length, aI cI (r 1) 12 r_lesser])) (QrI zr) 0 0 no := by
  refine stM (cc := cX4_alikeBefore) (maxL := 4) (ret := (some .int)) (by decide +kernel) rfl (Nat.le_of_ble_eq_true rfl) ?_
  intro p e s m args below meth c C0 hr hlocks hname hsz hP hDb hE ls hl
  have hAb : ∀ q, no q → bs ≤ q := fun _ h => h.elim
  obtain ⟨hx, hb, hml, hown, hts⟩ := id C0
  have hown : s.vm.findClass RX4 = some m.cls := hown
  obtain ⟨hK, hNW, -, tw, hZ, hT⟩ := id hE
  have hl : lv_has ls 4 [(0, .ref (r 0)), (1, .int x1)] := hl
  have hS : va_S no s.heap s.heap [] := va_S.rf
  have W4 : ∀ (n : Nat) (v1 : Int32) (v2 : Int32) (v3 : Int32) (H : Heap) (locs : List Loc) (ls : Array Slot) (z : Int32), va_P D vwCl [oX4 r r_length, aI cI (r 1) 12 r_lesser] H → va_S no s.heap H locs → lv_has ls 4 [(0, .ref (r 0)), (1, .int v1), (2, .int v2), (3, .int v3)] → L_X4_alikeBefore_4 r_lesser r_length v1 n v2 v3 = some z → (∀ (H : Heap) (locs : List Loc) (ls : Array Slot), va_P D vwCl [oX4 r r_length, aI cI (r 1) 12 r_lesser] H → va_S no s.heap H locs → lv_has ls 4 [(2, .int z)] → W p l e { frames := 3, cells := 0, slots := 0, locals := 64 } s m args below meth c H locs 0 0 (MQ below (QrI zr) args s 0 0 no) (F0 m 27 ls [])) → W p l e { frames := 3, cells := 0, slots := 0, locals := 64 } s m args below meth c H locs 0 0 (MQ below (QrI zr) args s 0 0 no) (F0 m 4 ls []) := by
    intro n
    induction n with
    | zero =>
      intro v1 v2 v3 H locs ls z hP hS hl hf
      exact absurd (show (none : Option (Int32)) = some z from hf) (fun h => by cases h)
    | succ n ih =>
      intro v1 v2 v3 H locs ls z hP hS hl hf K
      rw [L_X4_alikeBefore_4] at hf
      refine lv_iload_n hx hb dX4_alikeBefore_4 rfl (lv_at hl 3 rfl) ?_
      refine lv_iload_n hx hb dX4_alikeBefore_5 rfl (lv_at hl 1 rfl) ?_
      refine lv_icmp_ge (tgt := 27) hx hb dX4_alikeBefore_6 (by decide) (fun c1 => ?_) (fun c1 => ?_)
      · replace hf := oif c1 hf
        have hf := Option.some.inj hf
        subst hf
        exact K H locs ls hP hS (lv_sub hl [2] rfl)
      · replace hf := oel c1 hf
        refine lv_aload_n hx hb dX4_alikeBefore_9 rfl (lv_at hl 0 rfl) ?_
        refine lv_iload_n hx hb dX4_alikeBefore_10 rfl (lv_at hl 3 rfl) ?_
        refine lv_iload_n hx hb dX4_alikeBefore_11 rfl (lv_at hl 1 rfl) ?_
        obtain ⟨z2, hz2, hf⟩ := obd hf
        refine kI (runV (As := [.int v3, .int v1]) (rest := []) C0 hE hAb hP (hDb.addr rfl) hS [0, 1] (wc := [oX4 r r_length, aI cI (r 1) 12 r_lesser]) (by decide) rfl 0 rfl rfl (c_X4_compareByRank l D cI cJ cZ cQ bs H.size r r_length r_lesser v3 v1 z2 hz2) (cwV 2 hts gX4_alikeBefore_X4_compareByRank rfl rfl rfl (by decide +kernel) ⟨Nat.le_of_ble_eq_true rfl, Nat.le_of_ble_eq_true rfl⟩) rfl hl.1 rfl (Nat.le_of_ble_eq_true rfl) dX4_alikeBefore_12 ⟨Nat.le_of_ble_eq_true rfl, Nat.le_of_ble_eq_true rfl⟩) hS hP (fun H locs hP hS => ?_)
        refine lv_if_ne (tgt := 21) hx hb dX4_alikeBefore_15 (by decide) (fun c3 => ?_) (fun c3 => ?_)
        · replace hf := oel c3 hf
          obtain ⟨y4, ey4⟩ : ∃ y : Int32, y = v3 + 1 := ⟨_, rfl⟩
          replace hf := onm ey4 hf
          refine lv_iinc (v := y4) (lv' := [(3, .int y4), (0, .ref (r 0)), (1, .int v1), (2, .int v2)]) hx hb dX4_alikeBefore_21 hl (k := 3) rfl (by rw [ey4]; rfl) (by decide) rfl (fun ls hl => ?_)
          refine lv_goto (tgt := 4) hx hb dX4_alikeBefore_24 (by decide) ?_
          exact ih v1 v2 y4 H locs ls z hP hS (lv_sub hl [1, 2, 3, 0] rfl) hf K
        · replace hf := oif c3 hf
          obtain ⟨y5, ey5⟩ : ∃ y : Int32, y = v2 + 1 := ⟨_, rfl⟩
          replace hf := onm ey5 hf
          refine lv_iinc (v := y5) (lv' := [(2, .int y5), (0, .ref (r 0)), (1, .int v1), (3, .int v3)]) hx hb dX4_alikeBefore_18 hl (k := 2) rfl (by rw [ey5]; rfl) (by decide) rfl (fun ls hl => ?_)
          obtain ⟨y6, ey6⟩ : ∃ y : Int32, y = v3 + 1 := ⟨_, rfl⟩
          replace hf := onm ey6 hf
          refine lv_iinc (v := y6) (lv' := [(3, .int y6), (2, .int y5), (0, .ref (r 0)), (1, .int v1)]) hx hb dX4_alikeBefore_21 hl (k := 3) rfl (by rw [ey6]; rfl) (by decide) rfl (fun ls hl => ?_)
          refine lv_goto (tgt := 4) hx hb dX4_alikeBefore_24 (by decide) ?_
          exact ih v1 y5 y6 H locs ls z hP hS (lv_sub hl [2, 3, 1, 0] rfl) hf K
  unfold f_X4_alikeBefore at hf
  have go : ∀ (H : Heap) (locs : List Loc), va_P D vwCl [oX4 r r_length, aI cI (r 1) 12 r_lesser] H → va_S no s.heap H locs → W p l e { frames := 3, cells := 0, slots := 0, locals := 64 } s m args below meth c H locs 0 0 (MQ below (QrI zr) args s 0 0 no) (F0 m 0 ls []) := by
    intro H locs hP hS
    refine lv_iconst (v := 0) hx hb dX4_alikeBefore_0 (by decide) ?_
    refine lv_istore_n (lv' := [(2, .int 0), (0, .ref (r 0)), (1, .int x1)]) hx hb dX4_alikeBefore_1 rfl hl (by decide) rfl (fun ls hl => ?_)
    refine lv_iconst (v := 0) hx hb dX4_alikeBefore_2 (by decide) ?_
    refine lv_istore_n (lv' := [(3, .int 0), (2, .int 0), (0, .ref (r 0)), (1, .int x1)]) hx hb dX4_alikeBefore_3 rfl hl (by decide) rfl (fun ls hl => ?_)
    obtain ⟨z7, hz7, hf⟩ := obd hf
    refine W4 4000 x1 0 0 H locs ls z7 hP hS (lv_sub hl [2, 3, 1, 0] rfl) hz7 (fun H locs ls hP hS hl => ?_)
    refine lv_iload_n hx hb dX4_alikeBefore_27 rfl (lv_at hl 0 rfl) ?_
    have er := Option.some.inj hf
    exact rtI hx hb hr hS dX4_alikeBefore_28 er hlocks
  exact go s.heap [] hP hS
noncomputable def L_X4_sortPlaces_33 (b_sorts : Nat → Int32) (b_numbers : Nat → Int64) (b_weights : Nat → Int32) (b_keySlots : Nat → Int32) (b_keyBys : Nat → Int32) (b_keyWays : Nat → Int32) (b_keyCount : Int32) (r_length : Int32) (v2 : Int32) (v3 : Int32) : Nat → Int32 → (Nat → Int32) → Option ((Nat → Int32))
  | 0, _, _ => none
  | n + 1, v4, r_lesser => if r_length ≤ v4 then (some (r_lesser)) else ((f_X0_comparePlaces b_sorts b_numbers b_weights b_keySlots b_keyBys b_keyWays b_keyCount v4 v3 v2).bind (fun z5 => if 0 ≤ z5 then ((some (v4 + 1 : Int32)).bind (fun y7 => L_X4_sortPlaces_33 b_sorts b_numbers b_weights b_keySlots b_keyBys b_keyWays b_keyCount r_length v2 v3 n y7 r_lesser)) else (if ib v3 12 = true then (if ib v3 12 = true then ((some (upd r_lesser v3.toNatClampNeg ((r_lesser v3.toNatClampNeg) + 1) : Nat → Int32)).bind (fun h9a => (some (v4 + 1 : Int32)).bind (fun y10 => L_X4_sortPlaces_33 b_sorts b_numbers b_weights b_keySlots b_keyBys b_keyWays b_keyCount r_length v2 v3 n y10 h9a))) else none) else none)))
noncomputable def L_X4_sortPlaces_15 (b_sorts : Nat → Int32) (b_numbers : Nat → Int64) (b_weights : Nat → Int32) (b_keySlots : Nat → Int32) (b_keyBys : Nat → Int32) (b_keyWays : Nat → Int32) (b_keyCount : Int32) (r_length : Int32) (v2 : Int32) : Nat → Int32 → (Nat → Int32) → Option ((Nat → Int32))
  | 0, _, _ => none
  | n + 1, v3, r_lesser => if r_length ≤ v3 then (some (r_lesser)) else (if ib v3 12 = true then ((some (upd r_lesser v3.toNatClampNeg 0 : Nat → Int32)).bind (fun h3a => (L_X4_sortPlaces_33 b_sorts b_numbers b_weights b_keySlots b_keyBys b_keyWays b_keyCount r_length v2 v3 4000 0 h3a).bind (fun z11 => (some (v3 + 1 : Int32)).bind (fun y12 => L_X4_sortPlaces_15 b_sorts b_numbers b_weights b_keySlots b_keyBys b_keyWays b_keyCount r_length v2 n y12 z11)))) else none)
noncomputable def L_X4_sortPlaces_77 (r_lesser : Nat → Int32) (r_length : Int32) : Nat → Int32 → (Nat → Int32) → Option ((Nat → Int32))
  | 0, _, _ => none
  | n + 1, v3, r_positions => if r_length ≤ v3 then (some (r_positions)) else (if ib v3 12 = true then ((f_X4_alikeBefore r_lesser r_length v3).bind (fun z16 => if ib v3 12 = true then ((some (upd r_positions v3.toNatClampNeg ((r_lesser v3.toNatClampNeg) + z16) : Nat → Int32)).bind (fun h17a => (some (v3 + 1 : Int32)).bind (fun y18 => L_X4_sortPlaces_77 r_lesser r_length n y18 h17a))) else none)) else none)
noncomputable def L_X4_sortPlaces_111 (r_positions : Nat → Int32) (r_length : Int32) : Nat → Int32 → (Nat → Int32) → Option ((Nat → Int32))
  | 0, _, _ => none
  | n + 1, v3, r_places => if r_length ≤ v3 then (some (r_places)) else (if ib v3 12 = true then ((f_X4_isPlace r_length (r_positions v3.toNatClampNeg)).bind (fun z22 => if z22 = 0 then ((some (v3 + 1 : Int32)).bind (fun y24 => L_X4_sortPlaces_111 r_positions r_length n y24 r_places)) else (if ib v3 12 = true then (if ib (r_positions v3.toNatClampNeg) 12 = true then ((some (upd r_places (r_positions v3.toNatClampNeg).toNatClampNeg v3 : Nat → Int32)).bind (fun h26a => (some (v3 + 1 : Int32)).bind (fun y27 => L_X4_sortPlaces_111 r_positions r_length n y27 h26a))) else none) else none))) else none)
noncomputable def f_X4_sortPlaces (b_kinds : Nat → Int32) (b_sizes : Nat → Int32) (b_sorts : Nat → Int32) (b_numbers : Nat → Int64) (b_weights : Nat → Int32) (b_keySlots : Nat → Int32) (b_keyBys : Nat → Int32) (b_keyWays : Nat → Int32) (b_keyCount : Int32) (b_sheetSet : Int32) (r_lesser : Nat → Int32) (r_positions : Nat → Int32) (r_places : Nat → Int32) (r_length : Int32) (x2 : Int32) : Option ((Nat → Int32) × (Nat → Int32) × (Nat → Int32) × Int32) := (f_X0_length b_kinds b_sizes b_keySlots b_keyBys b_keyCount b_sheetSet).bind (fun z1 => (L_X4_sortPlaces_15 b_sorts b_numbers b_weights b_keySlots b_keyBys b_keyWays b_keyCount (if 12 < z1 then 12 else z1) x2 4000 0 r_lesser).bind (fun z13 => (L_X4_sortPlaces_77 z13 (if 12 < z1 then 12 else z1) 4000 0 r_positions).bind (fun z19 => (L_X4_sortPlaces_111 z19 (if 12 < z1 then 12 else z1) 4000 0 r_places).bind (fun z28 => some ((z13, z19, z28, (if 12 < z1 then 12 else z1)))))))
set_option maxHeartbeats 4000000 in
set_option maxRecDepth 100000 in
theorem c_X4_sortPlaces (l : Launch) (D : va_G) (cI cJ cZ cQ : ClassId) (bs sz : Nat) (b : Nat → Nat) (r : Nat → Nat) (b_keyCount : Int32) (b_sheetSet : Int32) (b_handSort : Int32) (b_handNumber : Int64) (b_kinds : Nat → Int32) (b_sizes : Nat → Int32) (b_sorts : Nat → Int32) (b_numbers : Nat → Int64) (b_weights : Nat → Int32) (b_keySlots : Nat → Int32) (b_keyBys : Nat → Int32) (b_keyWays : Nat → Int32) (r_length : Int32) (r_lesser : Nat → Int32) (r_positions : Nat → Int32) (r_places : Nat → Int32) (x2 : Int32) (zr : (Nat → Int32) × (Nat → Int32) × (Nat → Int32) × Int32) (hf : f_X4_sortPlaces b_kinds b_sizes b_sorts b_numbers b_weights b_keySlots b_keyBys b_keyWays b_keyCount b_sheetSet r_lesser r_positions r_places r_length x2 = some zr) : Met l yX4_sortPlaces wsX4_sortPlaces { frames := 4, cells := 0, slots := 0, locals := 98 } (va_Pc [.ref (r 0), .ref (b 0), .int x2] (Pr D cI cJ cZ cQ bs sz [oX0 b b_keyCount b_sheetSet b_handSort b_handNumber, aI cI (b 1) 6 b_kinds, aI cI (b 2) 6 b_sizes, aI cI (b 3) 72 b_sorts, aJ cJ (b 4) 72 b_numbers, aI cI (b 5) 8 b_weights, aI cI (b 6) 4 b_keySlots, aI cI (b 7) 4 b_keyBys, aI cI (b 8) 4 b_keyWays, oX4 r r_length, aI cI (r 1) 12 r_lesser, aI cI (r 2) 12 r_positions, aI cI (r 3) 12 r_places])) (QwV D zr (fun u => [oX0 b b_keyCount b_sheetSet b_handSort b_handNumber, aI cI (b 1) 6 b_kinds, aI cI (b 2) 6 b_sizes, aI cI (b 3) 72 b_sorts, aJ cJ (b 4) 72 b_numbers, aI cI (b 5) 8 b_weights, aI cI (b 6) 4 b_keySlots, aI cI (b 7) 4 b_keyBys, aI cI (b 8) 4 b_keyWays, oX4 r u.2.2.2, aI cI (r 1) 12 u.1, aI cI (r 2) 12 u.2.1, aI cI (r 3) 12 u.2.2.1]) (va_A [oX0 b b_keyCount b_sheetSet b_handSort b_handNumber, aI cI (b 1) 6 b_kinds, aI cI (b 2) 6 b_sizes, aI cI (b 3) 72 b_sorts, aJ cJ (b 4) 72 b_numbers, aI cI (b 5) 8 b_weights, aI cI (b 6) 4 b_keySlots, aI cI (b 7) 4 b_keyBys, aI cI (b 8) 4 b_keyWays, oX4 r r_length, aI cI (r 1) 12 r_lesser, aI cI (r 2) 12 r_positions, aI cI (r 3) 12 r_places] sz)) 0 0 (va_A [oX0 b b_keyCount b_sheetSet b_handSort b_handNumber, aI cI (b 1) 6 b_kinds, aI cI (b 2) 6 b_sizes, aI cI (b 3) 72 b_sorts, aJ cJ (b 4) 72 b_numbers, aI cI (b 5) 8 b_weights, aI cI (b 6) 4 b_keySlots, aI cI (b 7) 4 b_keyBys, aI cI (b 8) 4 b_keyWays, oX4 r r_length, aI cI (r 1) 12 r_lesser, aI cI (r 2) 12 r_positions, aI cI (r 3) 12 r_places] sz) := by
  refine stW (cc := cX4_sortPlaces) (maxL := 5) (ret := none) (Qf := fun A => (QwV D zr (fun u => [oX0 b b_keyCount b_sheetSet b_handSort b_handNumber, aI cI (b 1) 6 b_kinds, aI cI (b 2) 6 b_sizes, aI cI (b 3) 72 b_sorts, aJ cJ (b 4) 72 b_numbers, aI cI (b 5) 8 b_weights, aI cI (b 6) 4 b_keySlots, aI cI (b 7) 4 b_keyBys, aI cI (b 8) 4 b_keyWays, oX4 r u.2.2.2, aI cI (r 1) 12 u.1, aI cI (r 2) 12 u.2.1, aI cI (r 3) 12 u.2.2.1]) A)) (by decide +kernel) rfl (Nat.le_of_ble_eq_true rfl) ?_
  intro p e s m args below meth c A C0 hr hlocks hname hsz hP hD hA hAb hE ls hl
  obtain ⟨hx, hb, hml, hown, hts⟩ := id C0
  have hown : s.vm.findClass RX4 = some m.cls := hown
  obtain ⟨hK, hNW, -, tw, hZ, hT⟩ := id hE
  have hl : lv_has ls 5 [(0, .ref (r 0)), (1, .ref (b 0)), (2, .int x2)] := hl
  have hS : va_S A s.heap s.heap [] := va_S.rf
  have gl30 := hts (.methodLink RX4 30 Lib.Math.min.name) (by decide +kernel)
  have gmmin2 := hts (.static Lib.Math.min.name) (by decide +kernel)
  have gmI := hts (.initialized "java/lang/Math") (by decide +kernel)
  have gmmin4 := hts (.code Lib.Math.min.name Lib.Math.min.code 2 (some .int)) (by decide +kernel)
  have hI_X4 := (show ∀ w ∈ wsX40, w ∈ wsX4_sortPlaces by decide +kernel)
  have gf36 := hts (.fieldLink RX4 36 "RowRanks$Ranking" "length" "I") (by decide +kernel)
  have gf9 := hts (.fieldLink RX4 9 "RowRanks$Ranking" "lesser" "[I") (by decide +kernel)
  have gf15 := hts (.fieldLink RX4 15 "RowRanks$Ranking" "positions" "[I") (by decide +kernel)
  have gf18 := hts (.fieldLink RX4 18 "RowRanks$Ranking" "places" "[I") (by decide +kernel)
  have W33 : ∀ (n : Nat) (v2 : Int32) (v3 : Int32) (v4 : Int32) (r_lesser : Nat → Int32) (r_positions : Nat → Int32) (r_places : Nat → Int32) (r_length : Int32) (H : Heap) (locs : List Loc) (ls : Array Slot) (z : (Nat → Int32)), va_P D vwCl [oX0 b b_keyCount b_sheetSet b_handSort b_handNumber, aI cI (b 1) 6 b_kinds, aI cI (b 2) 6 b_sizes, aI cI (b 3) 72 b_sorts, aJ cJ (b 4) 72 b_numbers, aI cI (b 5) 8 b_weights, aI cI (b 6) 4 b_keySlots, aI cI (b 7) 4 b_keyBys, aI cI (b 8) 4 b_keyWays, oX4 r r_length, aI cI (r 1) 12 r_lesser, aI cI (r 2) 12 r_positions, aI cI (r 3) 12 r_places] H → va_S A s.heap H locs → lv_has ls 5 [(0, .ref (r 0)), (1, .ref (b 0)), (2, .int v2), (3, .int v3), (4, .int v4)] → L_X4_sortPlaces_33 b_sorts b_numbers b_weights b_keySlots b_keyBys b_keyWays b_keyCount r_length v2 v3 n v4 r_lesser = some z → (∀ (H : Heap) (locs : List Loc) (ls : Array Slot), va_P D vwCl [oX0 b b_keyCount b_sheetSet b_handSort b_handNumber, aI cI (b 1) 6 b_kinds, aI cI (b 2) 6 b_sizes, aI cI (b 3) 72 b_sorts, aJ cJ (b 4) 72 b_numbers, aI cI (b 5) 8 b_weights, aI cI (b 6) 4 b_keySlots, aI cI (b 7) 4 b_keyBys, aI cI (b 8) 4 b_keyWays, oX4 r r_length, aI cI (r 1) 12 z, aI cI (r 2) 12 r_positions, aI cI (r 3) 12 r_places] H → va_S A s.heap H locs → lv_has ls 5 [(0, .ref (r 0)), (1, .ref (b 0)), (2, .int v2), (3, .int v3)] → W p l e { frames := 4, cells := 0, slots := 0, locals := 98 } s m args below meth c H locs 0 0 (MQ below (QwV D zr (fun u => [oX0 b b_keyCount b_sheetSet b_handSort b_handNumber, aI cI (b 1) 6 b_kinds, aI cI (b 2) 6 b_sizes, aI cI (b 3) 72 b_sorts, aJ cJ (b 4) 72 b_numbers, aI cI (b 5) 8 b_weights, aI cI (b 6) 4 b_keySlots, aI cI (b 7) 4 b_keyBys, aI cI (b 8) 4 b_keyWays, oX4 r u.2.2.2, aI cI (r 1) 12 u.1, aI cI (r 2) 12 u.2.1, aI cI (r 3) 12 u.2.2.1]) A) args s 0 0 A) (F0 m 69 ls [])) → W p l e { frames := 4, cells := 0, slots := 0, locals := 98 } s m args below meth c H locs 0 0 (MQ below (QwV D zr (fun u => [oX0 b b_keyCount b_sheetSet b_handSort b_handNumber, aI cI (b 1) 6 b_kinds, aI cI (b 2) 6 b_sizes, aI cI (b 3) 72 b_sorts, aJ cJ (b 4) 72 b_numbers, aI cI (b 5) 8 b_weights, aI cI (b 6) 4 b_keySlots, aI cI (b 7) 4 b_keyBys, aI cI (b 8) 4 b_keyWays, oX4 r u.2.2.2, aI cI (r 1) 12 u.1, aI cI (r 2) 12 u.2.1, aI cI (r 3) 12 u.2.2.1]) A) args s 0 0 A) (F0 m 33 ls []) := by
    intro n
    induction n with
    | zero =>
      intro v2 v3 v4 r_lesser r_positions r_places r_length H locs ls z hP hS hl hf
      exact absurd (show (none : Option ((Nat → Int32))) = some z from hf) (fun h => by cases h)
    | succ n ih =>
      intro v2 v3 v4 r_lesser r_positions r_places r_length H locs ls z hP hS hl hf K
      rw [L_X4_sortPlaces_33] at hf
      refine lv_iload hx hb dX4_sortPlaces_33 (lv_at hl 4 rfl) ?_
      refine lv_aload_n hx hb dX4_sortPlaces_35 rfl (lv_at hl 0 rfl) ?_
      refine va_get (D := D) (ci := 4) (v := .int r_length) (C := RX4) (T := TX4) (N := 5) hx hb hts hI_X4 hown hK hP 9 rfl rfl 4 (by decide) gf36 (fun _ h9 => h9) rfl dX4_sortPlaces_36 ?_
      refine lv_icmp_ge (tgt := 69) hx hb dX4_sortPlaces_39 (by decide) (fun c4 => ?_) (fun c4 => ?_)
      · replace hf := oif c4 hf
        have hf := Option.some.inj hf
        subst hf
        exact K H locs ls hP hS (lv_sub hl [0, 1, 2, 3] rfl)
      · replace hf := oel c4 hf
        refine lv_aload_n hx hb dX4_sortPlaces_42 rfl (lv_at hl 1 rfl) ?_
        refine lv_iload hx hb dX4_sortPlaces_43 (lv_at hl 4 rfl) ?_
        refine lv_iload_n hx hb dX4_sortPlaces_45 rfl (lv_at hl 3 rfl) ?_
        refine lv_iload_n hx hb dX4_sortPlaces_46 rfl (lv_at hl 2 rfl) ?_
        obtain ⟨z5, hz5, hf⟩ := obd hf
        refine kI (runV (As := [.int v4, .int v3, .int v2]) (rest := []) C0 hE hAb hP ((hD.weaken (fun _ _ _ h9 => hAb _ h9)).addr rfl) hS [0, 3, 4, 5, 6, 7, 8] (wc := [oX0 b b_keyCount b_sheetSet b_handSort b_handNumber, aI cI (b 3) 72 b_sorts, aJ cJ (b 4) 72 b_numbers, aI cI (b 5) 8 b_weights, aI cI (b 6) 4 b_keySlots, aI cI (b 7) 4 b_keyBys, aI cI (b 8) 4 b_keyWays]) (by decide) rfl 0 rfl rfl (c_X0_comparePlaces l D cI cJ cZ cQ bs H.size b b_keyCount b_sheetSet b_handSort b_handNumber b_sorts b_numbers b_weights b_keySlots b_keyBys b_keyWays v4 v3 v2 z5 hz5) (cwV 3 hts gX4_sortPlaces_X0_comparePlaces rfl rfl rfl (by decide +kernel) ⟨Nat.le_of_ble_eq_true rfl, Nat.le_of_ble_eq_true rfl⟩) rfl hl.1 rfl (Nat.le_of_ble_eq_true rfl) dX4_sortPlaces_47 ⟨Nat.le_of_ble_eq_true rfl, Nat.le_of_ble_eq_true rfl⟩) hS hP (fun H locs hP hS => ?_)
        refine lv_if_ge (tgt := 63) hx hb dX4_sortPlaces_50 (by decide) (fun c6 => ?_) (fun c6 => ?_)
        · replace hf := oif c6 hf
          obtain ⟨y7, ey7⟩ : ∃ y : Int32, y = v4 + 1 := ⟨_, rfl⟩
          replace hf := onm ey7 hf
          refine lv_iinc (v := y7) (lv' := [(4, .int y7), (0, .ref (r 0)), (1, .ref (b 0)), (2, .int v2), (3, .int v3)]) hx hb dX4_sortPlaces_63 hl (k := 4) rfl (by rw [ey7]; rfl) (by decide) rfl (fun ls hl => ?_)
          refine lv_goto (tgt := 33) hx hb dX4_sortPlaces_66 (by decide) ?_
          exact ih v2 v3 y7 r_lesser r_positions r_places r_length H locs ls z hP hS (lv_sub hl [1, 2, 3, 4, 0] rfl) hf K
        · replace hf := oel c6 hf
          refine lv_aload_n hx hb dX4_sortPlaces_53 rfl (lv_at hl 0 rfl) ?_
          refine va_get (D := D) (ci := 4) (v := .ref (r 1)) (C := RX4) (T := TX4) (N := 5) hx hb hts hI_X4 hown hK hP 9 rfl rfl 0 (by decide) gf9 (fun _ h9 => h9) rfl dX4_sortPlaces_54 ?_
          refine lv_iload_n hx hb dX4_sortPlaces_57 rfl (lv_at hl 3 rfl) ?_
          refine lv_dup2_11 hx hb dX4_sortPlaces_58 rfl rfl ?_
          obtain ⟨h8, hf⟩ := ogd hf
          refine va_iald hx hb hK hP 10 0 rfl rfl (ib_in h8) dX4_sortPlaces_59 ?_
          refine lv_iconst (v := 1) hx hb dX4_sortPlaces_60 (by decide) ?_
          refine lv_iadd hx hb dX4_sortPlaces_61 ?_
          obtain ⟨h9, hf⟩ := ogd hf
          refine va_iast hx hb hK hP (hD.addr rfl) hS 10 0 rfl rfl (ib_in h9) dX4_sortPlaces_62 (fun H locs hP _ hS => ?_)
          obtain ⟨h9a, eh9a⟩ : ∃ y : Nat → Int32, y = upd r_lesser v3.toNatClampNeg ((r_lesser v3.toNatClampNeg) + 1) := ⟨_, rfl⟩
          replace hf := onm eh9a hf
          have hP : va_P D vwCl [oX0 b b_keyCount b_sheetSet b_handSort b_handNumber, aI cI (b 1) 6 b_kinds, aI cI (b 2) 6 b_sizes, aI cI (b 3) 72 b_sorts, aJ cJ (b 4) 72 b_numbers, aI cI (b 5) 8 b_weights, aI cI (b 6) 4 b_keySlots, aI cI (b 7) 4 b_keyBys, aI cI (b 8) 4 b_keyWays, oX4 r r_length, aI cI (r 1) 12 h9a, aI cI (r 2) 12 r_positions, aI cI (r 3) 12 r_places] H := by rw [eh9a]; exact hP
          obtain ⟨y10, ey10⟩ : ∃ y : Int32, y = v4 + 1 := ⟨_, rfl⟩
          replace hf := onm ey10 hf
          refine lv_iinc (v := y10) (lv' := [(4, .int y10), (0, .ref (r 0)), (1, .ref (b 0)), (2, .int v2), (3, .int v3)]) hx hb dX4_sortPlaces_63 hl (k := 4) rfl (by rw [ey10]; rfl) (by decide) rfl (fun ls hl => ?_)
          refine lv_goto (tgt := 33) hx hb dX4_sortPlaces_66 (by decide) ?_
          exact ih v2 v3 y10 h9a r_positions r_places r_length H locs ls z hP hS (lv_sub hl [1, 2, 3, 4, 0] rfl) hf K
  have W15 : ∀ (n : Nat) (v2 : Int32) (v3 : Int32) (r_lesser : Nat → Int32) (r_positions : Nat → Int32) (r_places : Nat → Int32) (r_length : Int32) (H : Heap) (locs : List Loc) (ls : Array Slot) (z : (Nat → Int32)), va_P D vwCl [oX0 b b_keyCount b_sheetSet b_handSort b_handNumber, aI cI (b 1) 6 b_kinds, aI cI (b 2) 6 b_sizes, aI cI (b 3) 72 b_sorts, aJ cJ (b 4) 72 b_numbers, aI cI (b 5) 8 b_weights, aI cI (b 6) 4 b_keySlots, aI cI (b 7) 4 b_keyBys, aI cI (b 8) 4 b_keyWays, oX4 r r_length, aI cI (r 1) 12 r_lesser, aI cI (r 2) 12 r_positions, aI cI (r 3) 12 r_places] H → va_S A s.heap H locs → lv_has ls 5 [(0, .ref (r 0)), (1, .ref (b 0)), (2, .int v2), (3, .int v3)] → L_X4_sortPlaces_15 b_sorts b_numbers b_weights b_keySlots b_keyBys b_keyWays b_keyCount r_length v2 n v3 r_lesser = some z → (∀ (H : Heap) (locs : List Loc) (ls : Array Slot), va_P D vwCl [oX0 b b_keyCount b_sheetSet b_handSort b_handNumber, aI cI (b 1) 6 b_kinds, aI cI (b 2) 6 b_sizes, aI cI (b 3) 72 b_sorts, aJ cJ (b 4) 72 b_numbers, aI cI (b 5) 8 b_weights, aI cI (b 6) 4 b_keySlots, aI cI (b 7) 4 b_keyBys, aI cI (b 8) 4 b_keyWays, oX4 r r_length, aI cI (r 1) 12 z, aI cI (r 2) 12 r_positions, aI cI (r 3) 12 r_places] H → va_S A s.heap H locs → lv_has ls 5 [(0, .ref (r 0))] → W p l e { frames := 4, cells := 0, slots := 0, locals := 98 } s m args below meth c H locs 0 0 (MQ below (QwV D zr (fun u => [oX0 b b_keyCount b_sheetSet b_handSort b_handNumber, aI cI (b 1) 6 b_kinds, aI cI (b 2) 6 b_sizes, aI cI (b 3) 72 b_sorts, aJ cJ (b 4) 72 b_numbers, aI cI (b 5) 8 b_weights, aI cI (b 6) 4 b_keySlots, aI cI (b 7) 4 b_keyBys, aI cI (b 8) 4 b_keyWays, oX4 r u.2.2.2, aI cI (r 1) 12 u.1, aI cI (r 2) 12 u.2.1, aI cI (r 3) 12 u.2.2.1]) A) args s 0 0 A) (F0 m 75 ls [])) → W p l e { frames := 4, cells := 0, slots := 0, locals := 98 } s m args below meth c H locs 0 0 (MQ below (QwV D zr (fun u => [oX0 b b_keyCount b_sheetSet b_handSort b_handNumber, aI cI (b 1) 6 b_kinds, aI cI (b 2) 6 b_sizes, aI cI (b 3) 72 b_sorts, aJ cJ (b 4) 72 b_numbers, aI cI (b 5) 8 b_weights, aI cI (b 6) 4 b_keySlots, aI cI (b 7) 4 b_keyBys, aI cI (b 8) 4 b_keyWays, oX4 r u.2.2.2, aI cI (r 1) 12 u.1, aI cI (r 2) 12 u.2.1, aI cI (r 3) 12 u.2.2.1]) A) args s 0 0 A) (F0 m 15 ls []) := by
    intro n
    induction n with
    | zero =>
      intro v2 v3 r_lesser r_positions r_places r_length H locs ls z hP hS hl hf
      exact absurd (show (none : Option ((Nat → Int32))) = some z from hf) (fun h => by cases h)
    | succ n ih =>
      intro v2 v3 r_lesser r_positions r_places r_length H locs ls z hP hS hl hf K
      rw [L_X4_sortPlaces_15] at hf
      refine lv_iload_n hx hb dX4_sortPlaces_15 rfl (lv_at hl 3 rfl) ?_
      refine lv_aload_n hx hb dX4_sortPlaces_16 rfl (lv_at hl 0 rfl) ?_
      refine va_get (D := D) (ci := 4) (v := .int r_length) (C := RX4) (T := TX4) (N := 5) hx hb hts hI_X4 hown hK hP 9 rfl rfl 4 (by decide) gf36 (fun _ h9 => h9) rfl dX4_sortPlaces_17 ?_
      refine lv_icmp_ge (tgt := 75) hx hb dX4_sortPlaces_20 (by decide) (fun c2 => ?_) (fun c2 => ?_)
      · replace hf := oif c2 hf
        have hf := Option.some.inj hf
        subst hf
        exact K H locs ls hP hS (lv_sub hl [0] rfl)
      · replace hf := oel c2 hf
        refine lv_aload_n hx hb dX4_sortPlaces_23 rfl (lv_at hl 0 rfl) ?_
        refine va_get (D := D) (ci := 4) (v := .ref (r 1)) (C := RX4) (T := TX4) (N := 5) hx hb hts hI_X4 hown hK hP 9 rfl rfl 0 (by decide) gf9 (fun _ h9 => h9) rfl dX4_sortPlaces_24 ?_
        refine lv_iload_n hx hb dX4_sortPlaces_27 rfl (lv_at hl 3 rfl) ?_
        refine lv_iconst (v := 0) hx hb dX4_sortPlaces_28 (by decide) ?_
        obtain ⟨h3, hf⟩ := ogd hf
        refine va_iast hx hb hK hP (hD.addr rfl) hS 10 0 rfl rfl (ib_in h3) dX4_sortPlaces_29 (fun H locs hP _ hS => ?_)
        obtain ⟨h3a, eh3a⟩ : ∃ y : Nat → Int32, y = upd r_lesser v3.toNatClampNeg 0 := ⟨_, rfl⟩
        replace hf := onm eh3a hf
        have hP : va_P D vwCl [oX0 b b_keyCount b_sheetSet b_handSort b_handNumber, aI cI (b 1) 6 b_kinds, aI cI (b 2) 6 b_sizes, aI cI (b 3) 72 b_sorts, aJ cJ (b 4) 72 b_numbers, aI cI (b 5) 8 b_weights, aI cI (b 6) 4 b_keySlots, aI cI (b 7) 4 b_keyBys, aI cI (b 8) 4 b_keyWays, oX4 r r_length, aI cI (r 1) 12 h3a, aI cI (r 2) 12 r_positions, aI cI (r 3) 12 r_places] H := by rw [eh3a]; exact hP
        refine lv_iconst (v := 0) hx hb dX4_sortPlaces_30 (by decide) ?_
        refine lv_istore (lv' := [(4, .int 0), (0, .ref (r 0)), (1, .ref (b 0)), (2, .int v2), (3, .int v3)]) hx hb dX4_sortPlaces_31 hl (by decide) rfl (fun ls hl => ?_)
        obtain ⟨z11, hz11, hf⟩ := obd hf
        refine W33 4000 v2 v3 0 h3a r_positions r_places r_length H locs ls z11 hP hS (lv_sub hl [1, 2, 3, 4, 0] rfl) hz11 (fun H locs ls hP hS hl => ?_)
        obtain ⟨y12, ey12⟩ : ∃ y : Int32, y = v3 + 1 := ⟨_, rfl⟩
        replace hf := onm ey12 hf
        refine lv_iinc (v := y12) (lv' := [(3, .int y12), (0, .ref (r 0)), (1, .ref (b 0)), (2, .int v2)]) hx hb dX4_sortPlaces_69 hl (k := 3) rfl (by rw [ey12]; rfl) (by decide) rfl (fun ls hl => ?_)
        refine lv_goto (tgt := 15) hx hb dX4_sortPlaces_72 (by decide) ?_
        exact ih v2 y12 z11 r_positions r_places r_length H locs ls z hP hS (lv_sub hl [1, 2, 3, 0] rfl) hf K
  have W77 : ∀ (n : Nat) (v3 : Int32) (r_lesser : Nat → Int32) (r_positions : Nat → Int32) (r_places : Nat → Int32) (r_length : Int32) (H : Heap) (locs : List Loc) (ls : Array Slot) (z : (Nat → Int32)), va_P D vwCl [oX0 b b_keyCount b_sheetSet b_handSort b_handNumber, aI cI (b 1) 6 b_kinds, aI cI (b 2) 6 b_sizes, aI cI (b 3) 72 b_sorts, aJ cJ (b 4) 72 b_numbers, aI cI (b 5) 8 b_weights, aI cI (b 6) 4 b_keySlots, aI cI (b 7) 4 b_keyBys, aI cI (b 8) 4 b_keyWays, oX4 r r_length, aI cI (r 1) 12 r_lesser, aI cI (r 2) 12 r_positions, aI cI (r 3) 12 r_places] H → va_S A s.heap H locs → lv_has ls 5 [(0, .ref (r 0)), (3, .int v3)] → L_X4_sortPlaces_77 r_lesser r_length n v3 r_positions = some z → (∀ (H : Heap) (locs : List Loc) (ls : Array Slot), va_P D vwCl [oX0 b b_keyCount b_sheetSet b_handSort b_handNumber, aI cI (b 1) 6 b_kinds, aI cI (b 2) 6 b_sizes, aI cI (b 3) 72 b_sorts, aJ cJ (b 4) 72 b_numbers, aI cI (b 5) 8 b_weights, aI cI (b 6) 4 b_keySlots, aI cI (b 7) 4 b_keyBys, aI cI (b 8) 4 b_keyWays, oX4 r r_length, aI cI (r 1) 12 r_lesser, aI cI (r 2) 12 z, aI cI (r 3) 12 r_places] H → va_S A s.heap H locs → lv_has ls 5 [(0, .ref (r 0))] → W p l e { frames := 4, cells := 0, slots := 0, locals := 98 } s m args below meth c H locs 0 0 (MQ below (QwV D zr (fun u => [oX0 b b_keyCount b_sheetSet b_handSort b_handNumber, aI cI (b 1) 6 b_kinds, aI cI (b 2) 6 b_sizes, aI cI (b 3) 72 b_sorts, aJ cJ (b 4) 72 b_numbers, aI cI (b 5) 8 b_weights, aI cI (b 6) 4 b_keySlots, aI cI (b 7) 4 b_keyBys, aI cI (b 8) 4 b_keyWays, oX4 r u.2.2.2, aI cI (r 1) 12 u.1, aI cI (r 2) 12 u.2.1, aI cI (r 3) 12 u.2.2.1]) A) args s 0 0 A) (F0 m 109 ls [])) → W p l e { frames := 4, cells := 0, slots := 0, locals := 98 } s m args below meth c H locs 0 0 (MQ below (QwV D zr (fun u => [oX0 b b_keyCount b_sheetSet b_handSort b_handNumber, aI cI (b 1) 6 b_kinds, aI cI (b 2) 6 b_sizes, aI cI (b 3) 72 b_sorts, aJ cJ (b 4) 72 b_numbers, aI cI (b 5) 8 b_weights, aI cI (b 6) 4 b_keySlots, aI cI (b 7) 4 b_keyBys, aI cI (b 8) 4 b_keyWays, oX4 r u.2.2.2, aI cI (r 1) 12 u.1, aI cI (r 2) 12 u.2.1, aI cI (r 3) 12 u.2.2.1]) A) args s 0 0 A) (F0 m 77 ls []) := by
    intro n
    induction n with
    | zero =>
      intro v3 r_lesser r_positions r_places r_length H locs ls z hP hS hl hf
      exact absurd (show (none : Option ((Nat → Int32))) = some z from hf) (fun h => by cases h)
    | succ n ih =>
      intro v3 r_lesser r_positions r_places r_length H locs ls z hP hS hl hf K
      rw [L_X4_sortPlaces_77] at hf
      refine lv_iload_n hx hb dX4_sortPlaces_77 rfl (lv_at hl 1 rfl) ?_
      refine lv_aload_n hx hb dX4_sortPlaces_78 rfl (lv_at hl 0 rfl) ?_
      refine va_get (D := D) (ci := 4) (v := .int r_length) (C := RX4) (T := TX4) (N := 5) hx hb hts hI_X4 hown hK hP 9 rfl rfl 4 (by decide) gf36 (fun _ h9 => h9) rfl dX4_sortPlaces_79 ?_
      refine lv_icmp_ge (tgt := 109) hx hb dX4_sortPlaces_82 (by decide) (fun c14 => ?_) (fun c14 => ?_)
      · replace hf := oif c14 hf
        have hf := Option.some.inj hf
        subst hf
        exact K H locs ls hP hS (lv_sub hl [0] rfl)
      · replace hf := oel c14 hf
        refine lv_aload_n hx hb dX4_sortPlaces_85 rfl (lv_at hl 0 rfl) ?_
        refine va_get (D := D) (ci := 4) (v := .ref (r 2)) (C := RX4) (T := TX4) (N := 5) hx hb hts hI_X4 hown hK hP 9 rfl rfl 1 (by decide) gf15 (fun _ h9 => h9) rfl dX4_sortPlaces_86 ?_
        refine lv_iload_n hx hb dX4_sortPlaces_89 rfl (lv_at hl 1 rfl) ?_
        refine lv_aload_n hx hb dX4_sortPlaces_90 rfl (lv_at hl 0 rfl) ?_
        refine va_get (D := D) (ci := 4) (v := .ref (r 1)) (C := RX4) (T := TX4) (N := 5) hx hb hts hI_X4 hown hK hP 9 rfl rfl 0 (by decide) gf9 (fun _ h9 => h9) rfl dX4_sortPlaces_91 ?_
        refine lv_iload_n hx hb dX4_sortPlaces_94 rfl (lv_at hl 1 rfl) ?_
        obtain ⟨h15, hf⟩ := ogd hf
        refine va_iald hx hb hK hP 10 0 rfl rfl (ib_in h15) dX4_sortPlaces_95 ?_
        refine lv_aload_n hx hb dX4_sortPlaces_96 rfl (lv_at hl 0 rfl) ?_
        refine lv_iload_n hx hb dX4_sortPlaces_97 rfl (lv_at hl 1 rfl) ?_
        obtain ⟨z16, hz16, hf⟩ := obd hf
        refine kI (runV (As := [.int v3]) (rest := [.int (r_lesser v3.toNatClampNeg), .int v3, .ref (r 2)]) C0 hE hAb hP ((hD.weaken (fun _ _ _ h9 => hAb _ h9)).addr rfl) hS [9, 10] (wc := [oX4 r r_length, aI cI (r 1) 12 r_lesser]) (by decide) rfl 9 rfl rfl (c_X4_alikeBefore l D cI cJ cZ cQ bs H.size r r_length r_lesser v3 z16 hz16) (cwV 1 hts gX4_sortPlaces_X4_alikeBefore rfl rfl rfl (by decide +kernel) ⟨Nat.le_of_ble_eq_true rfl, Nat.le_of_ble_eq_true rfl⟩) rfl hl.1 rfl (Nat.le_of_ble_eq_true rfl) dX4_sortPlaces_98 ⟨Nat.le_of_ble_eq_true rfl, Nat.le_of_ble_eq_true rfl⟩) hS hP (fun H locs hP hS => ?_)
        refine lv_iadd hx hb dX4_sortPlaces_101 ?_
        obtain ⟨h17, hf⟩ := ogd hf
        refine va_iast hx hb hK hP (hD.addr rfl) hS 11 0 rfl rfl (ib_in h17) dX4_sortPlaces_102 (fun H locs hP _ hS => ?_)
        obtain ⟨h17a, eh17a⟩ : ∃ y : Nat → Int32, y = upd r_positions v3.toNatClampNeg ((r_lesser v3.toNatClampNeg) + z16) := ⟨_, rfl⟩
        replace hf := onm eh17a hf
        have hP : va_P D vwCl [oX0 b b_keyCount b_sheetSet b_handSort b_handNumber, aI cI (b 1) 6 b_kinds, aI cI (b 2) 6 b_sizes, aI cI (b 3) 72 b_sorts, aJ cJ (b 4) 72 b_numbers, aI cI (b 5) 8 b_weights, aI cI (b 6) 4 b_keySlots, aI cI (b 7) 4 b_keyBys, aI cI (b 8) 4 b_keyWays, oX4 r r_length, aI cI (r 1) 12 r_lesser, aI cI (r 2) 12 h17a, aI cI (r 3) 12 r_places] H := by rw [eh17a]; exact hP
        obtain ⟨y18, ey18⟩ : ∃ y : Int32, y = v3 + 1 := ⟨_, rfl⟩
        replace hf := onm ey18 hf
        refine lv_iinc (v := y18) (lv' := [(3, .int y18), (0, .ref (r 0))]) hx hb dX4_sortPlaces_103 hl (k := 1) rfl (by rw [ey18]; rfl) (by decide) rfl (fun ls hl => ?_)
        refine lv_goto (tgt := 77) hx hb dX4_sortPlaces_106 (by decide) ?_
        exact ih y18 r_lesser h17a r_places r_length H locs ls z hP hS (lv_sub hl [1, 0] rfl) hf K
  have W111 : ∀ (n : Nat) (v3 : Int32) (r_lesser : Nat → Int32) (r_positions : Nat → Int32) (r_places : Nat → Int32) (r_length : Int32) (H : Heap) (locs : List Loc) (ls : Array Slot) (z : (Nat → Int32)), va_P D vwCl [oX0 b b_keyCount b_sheetSet b_handSort b_handNumber, aI cI (b 1) 6 b_kinds, aI cI (b 2) 6 b_sizes, aI cI (b 3) 72 b_sorts, aJ cJ (b 4) 72 b_numbers, aI cI (b 5) 8 b_weights, aI cI (b 6) 4 b_keySlots, aI cI (b 7) 4 b_keyBys, aI cI (b 8) 4 b_keyWays, oX4 r r_length, aI cI (r 1) 12 r_lesser, aI cI (r 2) 12 r_positions, aI cI (r 3) 12 r_places] H → va_S A s.heap H locs → lv_has ls 5 [(0, .ref (r 0)), (3, .int v3)] → L_X4_sortPlaces_111 r_positions r_length n v3 r_places = some z → (∀ (H : Heap) (locs : List Loc) (ls : Array Slot), va_P D vwCl [oX0 b b_keyCount b_sheetSet b_handSort b_handNumber, aI cI (b 1) 6 b_kinds, aI cI (b 2) 6 b_sizes, aI cI (b 3) 72 b_sorts, aJ cJ (b 4) 72 b_numbers, aI cI (b 5) 8 b_weights, aI cI (b 6) 4 b_keySlots, aI cI (b 7) 4 b_keyBys, aI cI (b 8) 4 b_keyWays, oX4 r r_length, aI cI (r 1) 12 r_lesser, aI cI (r 2) 12 r_positions, aI cI (r 3) 12 z] H → va_S A s.heap H locs → lv_has ls 5 [] → W p l e { frames := 4, cells := 0, slots := 0, locals := 98 } s m args below meth c H locs 0 0 (MQ below (QwV D zr (fun u => [oX0 b b_keyCount b_sheetSet b_handSort b_handNumber, aI cI (b 1) 6 b_kinds, aI cI (b 2) 6 b_sizes, aI cI (b 3) 72 b_sorts, aJ cJ (b 4) 72 b_numbers, aI cI (b 5) 8 b_weights, aI cI (b 6) 4 b_keySlots, aI cI (b 7) 4 b_keyBys, aI cI (b 8) 4 b_keyWays, oX4 r u.2.2.2, aI cI (r 1) 12 u.1, aI cI (r 2) 12 u.2.1, aI cI (r 3) 12 u.2.2.1]) A) args s 0 0 A) (F0 m 150 ls [])) → W p l e { frames := 4, cells := 0, slots := 0, locals := 98 } s m args below meth c H locs 0 0 (MQ below (QwV D zr (fun u => [oX0 b b_keyCount b_sheetSet b_handSort b_handNumber, aI cI (b 1) 6 b_kinds, aI cI (b 2) 6 b_sizes, aI cI (b 3) 72 b_sorts, aJ cJ (b 4) 72 b_numbers, aI cI (b 5) 8 b_weights, aI cI (b 6) 4 b_keySlots, aI cI (b 7) 4 b_keyBys, aI cI (b 8) 4 b_keyWays, oX4 r u.2.2.2, aI cI (r 1) 12 u.1, aI cI (r 2) 12 u.2.1, aI cI (r 3) 12 u.2.2.1]) A) args s 0 0 A) (F0 m 111 ls []) := by
    intro n
    induction n with
    | zero =>
      intro v3 r_lesser r_positions r_places r_length H locs ls z hP hS hl hf
      exact absurd (show (none : Option ((Nat → Int32))) = some z from hf) (fun h => by cases h)
    | succ n ih =>
      intro v3 r_lesser r_positions r_places r_length H locs ls z hP hS hl hf K
      rw [L_X4_sortPlaces_111] at hf
      refine lv_iload_n hx hb dX4_sortPlaces_111 rfl (lv_at hl 1 rfl) ?_
      refine lv_aload_n hx hb dX4_sortPlaces_112 rfl (lv_at hl 0 rfl) ?_
      refine va_get (D := D) (ci := 4) (v := .int r_length) (C := RX4) (T := TX4) (N := 5) hx hb hts hI_X4 hown hK hP 9 rfl rfl 4 (by decide) gf36 (fun _ h9 => h9) rfl dX4_sortPlaces_113 ?_
      refine lv_icmp_ge (tgt := 150) hx hb dX4_sortPlaces_116 (by decide) (fun c20 => ?_) (fun c20 => ?_)
      · replace hf := oif c20 hf
        have hf := Option.some.inj hf
        subst hf
        exact K H locs ls hP hS (lv_sub hl [] rfl)
      · replace hf := oel c20 hf
        refine lv_aload_n hx hb dX4_sortPlaces_119 rfl (lv_at hl 0 rfl) ?_
        refine lv_aload_n hx hb dX4_sortPlaces_120 rfl (lv_at hl 0 rfl) ?_
        refine va_get (D := D) (ci := 4) (v := .ref (r 2)) (C := RX4) (T := TX4) (N := 5) hx hb hts hI_X4 hown hK hP 9 rfl rfl 1 (by decide) gf15 (fun _ h9 => h9) rfl dX4_sortPlaces_121 ?_
        refine lv_iload_n hx hb dX4_sortPlaces_124 rfl (lv_at hl 1 rfl) ?_
        obtain ⟨h21, hf⟩ := ogd hf
        refine va_iald hx hb hK hP 11 0 rfl rfl (ib_in h21) dX4_sortPlaces_125 ?_
        obtain ⟨z22, hz22, hf⟩ := obd hf
        refine kZ (runV (As := [.int (r_positions v3.toNatClampNeg)]) (rest := []) C0 hE hAb hP ((hD.weaken (fun _ _ _ h9 => hAb _ h9)).addr rfl) hS [9] (wc := [oX4 r r_length]) (by decide) rfl 9 rfl rfl (c_X4_isPlace l D cI cJ cZ cQ bs H.size r r_length (r_positions v3.toNatClampNeg) z22 hz22) (cwV 1 hts gX4_sortPlaces_X4_isPlace rfl rfl rfl (by decide +kernel) ⟨Nat.le_of_ble_eq_true rfl, Nat.le_of_ble_eq_true rfl⟩) rfl hl.1 rfl (Nat.le_of_ble_eq_true rfl) dX4_sortPlaces_126 ⟨Nat.le_of_ble_eq_true rfl, Nat.le_of_ble_eq_true rfl⟩) hS hP (fun bz22 H locs hP hS => ?_)
        refine lv_if_eq (tgt := 144) hx hb dX4_sortPlaces_129 (by decide) (fun c23 => ?_) (fun c23 => ?_)
        · replace hf := oif c23 hf
          obtain ⟨y24, ey24⟩ : ∃ y : Int32, y = v3 + 1 := ⟨_, rfl⟩
          replace hf := onm ey24 hf
          refine lv_iinc (v := y24) (lv' := [(3, .int y24), (0, .ref (r 0))]) hx hb dX4_sortPlaces_144 hl (k := 1) rfl (by rw [ey24]; rfl) (by decide) rfl (fun ls hl => ?_)
          refine lv_goto (tgt := 111) hx hb dX4_sortPlaces_147 (by decide) ?_
          exact ih y24 r_lesser r_positions r_places r_length H locs ls z hP hS (lv_sub hl [1, 0] rfl) hf K
        · replace hf := oel c23 hf
          refine lv_aload_n hx hb dX4_sortPlaces_132 rfl (lv_at hl 0 rfl) ?_
          refine va_get (D := D) (ci := 4) (v := .ref (r 3)) (C := RX4) (T := TX4) (N := 5) hx hb hts hI_X4 hown hK hP 9 rfl rfl 2 (by decide) gf18 (fun _ h9 => h9) rfl dX4_sortPlaces_133 ?_
          refine lv_aload_n hx hb dX4_sortPlaces_136 rfl (lv_at hl 0 rfl) ?_
          refine va_get (D := D) (ci := 4) (v := .ref (r 2)) (C := RX4) (T := TX4) (N := 5) hx hb hts hI_X4 hown hK hP 9 rfl rfl 1 (by decide) gf15 (fun _ h9 => h9) rfl dX4_sortPlaces_137 ?_
          refine lv_iload_n hx hb dX4_sortPlaces_140 rfl (lv_at hl 1 rfl) ?_
          obtain ⟨h25, hf⟩ := ogd hf
          refine va_iald hx hb hK hP 11 0 rfl rfl (ib_in h25) dX4_sortPlaces_141 ?_
          refine lv_iload_n hx hb dX4_sortPlaces_142 rfl (lv_at hl 1 rfl) ?_
          obtain ⟨h26, hf⟩ := ogd hf
          refine va_iast hx hb hK hP (hD.addr rfl) hS 12 0 rfl rfl (ib_in h26) dX4_sortPlaces_143 (fun H locs hP _ hS => ?_)
          obtain ⟨h26a, eh26a⟩ : ∃ y : Nat → Int32, y = upd r_places (r_positions v3.toNatClampNeg).toNatClampNeg v3 := ⟨_, rfl⟩
          replace hf := onm eh26a hf
          have hP : va_P D vwCl [oX0 b b_keyCount b_sheetSet b_handSort b_handNumber, aI cI (b 1) 6 b_kinds, aI cI (b 2) 6 b_sizes, aI cI (b 3) 72 b_sorts, aJ cJ (b 4) 72 b_numbers, aI cI (b 5) 8 b_weights, aI cI (b 6) 4 b_keySlots, aI cI (b 7) 4 b_keyBys, aI cI (b 8) 4 b_keyWays, oX4 r r_length, aI cI (r 1) 12 r_lesser, aI cI (r 2) 12 r_positions, aI cI (r 3) 12 h26a] H := by rw [eh26a]; exact hP
          obtain ⟨y27, ey27⟩ : ∃ y : Int32, y = v3 + 1 := ⟨_, rfl⟩
          replace hf := onm ey27 hf
          refine lv_iinc (v := y27) (lv' := [(3, .int y27), (0, .ref (r 0))]) hx hb dX4_sortPlaces_144 hl (k := 1) rfl (by rw [ey27]; rfl) (by decide) rfl (fun ls hl => ?_)
          refine lv_goto (tgt := 111) hx hb dX4_sortPlaces_147 (by decide) ?_
          exact ih y27 r_lesser r_positions h26a r_length H locs ls z hP hS (lv_sub hl [1, 0] rfl) hf K
  unfold f_X4_sortPlaces at hf
  have go : ∀ (H : Heap) (locs : List Loc), va_P D vwCl [oX0 b b_keyCount b_sheetSet b_handSort b_handNumber, aI cI (b 1) 6 b_kinds, aI cI (b 2) 6 b_sizes, aI cI (b 3) 72 b_sorts, aJ cJ (b 4) 72 b_numbers, aI cI (b 5) 8 b_weights, aI cI (b 6) 4 b_keySlots, aI cI (b 7) 4 b_keyBys, aI cI (b 8) 4 b_keyWays, oX4 r r_length, aI cI (r 1) 12 r_lesser, aI cI (r 2) 12 r_positions, aI cI (r 3) 12 r_places] H → va_S A s.heap H locs → W p l e { frames := 4, cells := 0, slots := 0, locals := 98 } s m args below meth c H locs 0 0 (MQ below (QwV D zr (fun u => [oX0 b b_keyCount b_sheetSet b_handSort b_handNumber, aI cI (b 1) 6 b_kinds, aI cI (b 2) 6 b_sizes, aI cI (b 3) 72 b_sorts, aJ cJ (b 4) 72 b_numbers, aI cI (b 5) 8 b_weights, aI cI (b 6) 4 b_keySlots, aI cI (b 7) 4 b_keyBys, aI cI (b 8) 4 b_keyWays, oX4 r u.2.2.2, aI cI (r 1) 12 u.1, aI cI (r 2) 12 u.2.1, aI cI (r 3) 12 u.2.2.1]) A) args s 0 0 A) (F0 m 0 ls []) := by
    intro H locs hP hS
    refine lv_aload_n hx hb dX4_sortPlaces_0 rfl (lv_at hl 0 rfl) ?_
    refine lv_aload_n hx hb dX4_sortPlaces_1 rfl (lv_at hl 1 rfl) ?_
    obtain ⟨z1, hz1, hf⟩ := obd hf
    refine kI (runV (As := []) (rest := [.ref (r 0)]) C0 hE hAb hP ((hD.weaken (fun _ _ _ h9 => hAb _ h9)).addr rfl) hS [0, 1, 2, 6, 7] (wc := [oX0 b b_keyCount b_sheetSet b_handSort b_handNumber, aI cI (b 1) 6 b_kinds, aI cI (b 2) 6 b_sizes, aI cI (b 6) 4 b_keySlots, aI cI (b 7) 4 b_keyBys]) (by decide) rfl 0 rfl rfl (c_X0_length l D cI cJ cZ cQ bs H.size b b_keyCount b_sheetSet b_handSort b_handNumber b_kinds b_sizes b_keySlots b_keyBys z1 hz1) (cwV 0 hts gX4_sortPlaces_X0_length rfl rfl rfl (by decide +kernel) ⟨Nat.le_of_ble_eq_true rfl, Nat.le_of_ble_eq_true rfl⟩) rfl hl.1 rfl (Nat.le_of_ble_eq_true rfl) dX4_sortPlaces_2 ⟨Nat.le_of_ble_eq_true rfl, Nat.le_of_ble_eq_true rfl⟩) hS hP (fun H locs hP hS => ?_)
    refine lv_bipush (v := 12) hx hb dX4_sortPlaces_5 (by decide) ?_
    refine va_mmin hx hb (hml.trans hl.1.symm) hown gl30 gmmin2 gmI gmmin4 (Nat.le_of_ble_eq_true rfl) (Nat.le_of_ble_eq_true rfl) (Nat.zero_le _) (Nat.zero_le _) dX4_sortPlaces_7 ?_
    refine va_put (D := D) (ci := 4) (v := .int (if 12 < z1 then 12 else z1)) (ty := .int) (C := RX4) (T := TX4) (N := 5) hx hb hts hI_X4 tyX4 tyX4_ok nmX4 hown hK hP (hD.addr rfl) hS 9 rfl rfl 4 (by decide) gf36 (fun _ h9 => h9) rfl (by decide +kernel) rfl rfl (Nat.le_of_ble_eq_true rfl) dX4_sortPlaces_10 (fun H locs hP _ hS => ?_)
    have hP : va_P D vwCl [oX0 b b_keyCount b_sheetSet b_handSort b_handNumber, aI cI (b 1) 6 b_kinds, aI cI (b 2) 6 b_sizes, aI cI (b 3) 72 b_sorts, aJ cJ (b 4) 72 b_numbers, aI cI (b 5) 8 b_weights, aI cI (b 6) 4 b_keySlots, aI cI (b 7) 4 b_keyBys, aI cI (b 8) 4 b_keyWays, oX4 r (if 12 < z1 then 12 else z1), aI cI (r 1) 12 r_lesser, aI cI (r 2) 12 r_positions, aI cI (r 3) 12 r_places] H := hP
    refine lv_iconst (v := 0) hx hb dX4_sortPlaces_13 (by decide) ?_
    refine lv_istore_n (lv' := [(3, .int 0), (0, .ref (r 0)), (1, .ref (b 0)), (2, .int x2)]) hx hb dX4_sortPlaces_14 rfl hl (by decide) rfl (fun ls hl => ?_)
    obtain ⟨z13, hz13, hf⟩ := obd hf
    refine W15 4000 x2 0 r_lesser r_positions r_places (if 12 < z1 then 12 else z1) H locs ls z13 hP hS (lv_sub hl [1, 2, 3, 0] rfl) hz13 (fun H locs ls hP hS hl => ?_)
    refine lv_iconst (v := 0) hx hb dX4_sortPlaces_75 (by decide) ?_
    refine lv_istore_n (lv' := [(3, .int 0), (0, .ref (r 0))]) hx hb dX4_sortPlaces_76 rfl hl (by decide) rfl (fun ls hl => ?_)
    obtain ⟨z19, hz19, hf⟩ := obd hf
    refine W77 4000 0 z13 r_positions r_places (if 12 < z1 then 12 else z1) H locs ls z19 hP hS (lv_sub hl [1, 0] rfl) hz19 (fun H locs ls hP hS hl => ?_)
    refine lv_iconst (v := 0) hx hb dX4_sortPlaces_109 (by decide) ?_
    refine lv_istore_n (lv' := [(3, .int 0), (0, .ref (r 0))]) hx hb dX4_sortPlaces_110 rfl hl (by decide) rfl (fun ls hl => ?_)
    obtain ⟨z28, hz28, hf⟩ := obd hf
    refine W111 4000 0 z13 z19 r_places (if 12 < z1 then 12 else z1) H locs ls z28 hP hS (lv_sub hl [1, 0] rfl) hz28 (fun H locs ls hP hS hl => ?_)
    have er := Option.some.inj hf
    exact rwV (wm := (fun u => [oX0 b b_keyCount b_sheetSet b_handSort b_handNumber, aI cI (b 1) 6 b_kinds, aI cI (b 2) 6 b_sizes, aI cI (b 3) 72 b_sorts, aJ cJ (b 4) 72 b_numbers, aI cI (b 5) 8 b_weights, aI cI (b 6) 4 b_keySlots, aI cI (b 7) 4 b_keyBys, aI cI (b 8) 4 b_keyWays, oX4 r u.2.2.2, aI cI (r 1) 12 u.1, aI cI (r 2) 12 u.2.1, aI cI (r 3) 12 u.2.2.1])) hx hb hr hS dX4_sortPlaces_150 hP er hlocks
  exact go s.heap [] hP hS
noncomputable def f_X4_isFit (r_length : Int32) : Option (Int32) := if r_length = (-1) then (some (0)) else (some (1))
set_option maxHeartbeats 4000000 in
set_option maxRecDepth 100000 in
theorem c_X4_isFit (l : Launch) (D : va_G) (cI cJ cZ cQ : ClassId) (bs sz : Nat) (r : Nat → Nat) (r_length : Int32) (zr : Int32) (hf : f_X4_isFit r_length = some zr) : Met l yX4_isFit wsX4_isFit { frames := 0, cells := 0, slots := 0, locals := 0 } (va_Pc [.ref (r 0)] (Pr D cI cJ cZ cQ bs sz [oX4 r r_length])) (QrZ zr) 0 0 no := by
  refine stM (cc := cX4_isFit) (maxL := 1) (ret := (some .boolean)) (by decide +kernel) rfl (Nat.le_of_ble_eq_true rfl) ?_
  intro p e s m args below meth c C0 hr hlocks hname hsz hP hDb hE ls hl
  have hAb : ∀ q, no q → bs ≤ q := fun _ h => h.elim
  obtain ⟨hx, hb, hml, hown, hts⟩ := id C0
  have hown : s.vm.findClass RX4 = some m.cls := hown
  obtain ⟨hK, hNW, -, tw, hZ, hT⟩ := id hE
  have hl : lv_has ls 1 [(0, .ref (r 0))] := hl
  have hS : va_S no s.heap s.heap [] := va_S.rf
  have hI_X4 := (show ∀ w ∈ wsX40, w ∈ wsX4_isFit by decide +kernel)
  have gf36 := hts (.fieldLink RX4 36 "RowRanks$Ranking" "length" "I") (by decide +kernel)
  unfold f_X4_isFit at hf
  have go : ∀ (H : Heap) (locs : List Loc), va_P D vwCl [oX4 r r_length] H → va_S no s.heap H locs → W p l e { frames := 0, cells := 0, slots := 0, locals := 0 } s m args below meth c H locs 0 0 (MQ below (QrZ zr) args s 0 0 no) (F0 m 0 ls []) := by
    intro H locs hP hS
    refine lv_aload_n hx hb dX4_isFit_0 rfl (lv_at hl 0 rfl) ?_
    refine va_get (D := D) (ci := 4) (v := .int r_length) (C := RX4) (T := TX4) (N := 5) hx hb hts hI_X4 hown hK hP 0 rfl rfl 4 (by decide) gf36 (fun _ h9 => h9) rfl dX4_isFit_1 ?_
    refine lv_iconst (v := (-1)) hx hb dX4_isFit_4 (by decide) ?_
    refine lv_icmp_eq (tgt := 12) hx hb dX4_isFit_5 (by decide) (fun c1 => ?_) (fun c1 => ?_)
    · replace hf := oif c1 hf
      refine lv_iconst (v := 0) hx hb dX4_isFit_12 (by decide) ?_
      have er := Option.some.inj hf
      exact rtZ hx hb hr hS dX4_isFit_13 er (by decide) hlocks
    · replace hf := oel c1 hf
      refine lv_iconst (v := 1) hx hb dX4_isFit_8 (by decide) ?_
      refine lv_goto (tgt := 13) hx hb dX4_isFit_9 (by decide) ?_
      have er := Option.some.inj hf
      exact rtZ hx hb hr hS dX4_isFit_13 er (by decide) hlocks
  exact go s.heap [] hP hS
noncomputable def f_X4_placeAt (r_places : Nat → Int32) (r_length : Int32) (x1 : Int32) : Option (Int32) := (f_X4_isPlace r_length x1).bind (fun z1 => if z1 = 0 then (some ((-1))) else (if ib x1 12 = true then (some ((r_places x1.toNatClampNeg))) else none))
set_option maxHeartbeats 4000000 in
set_option maxRecDepth 100000 in
theorem c_X4_placeAt (l : Launch) (D : va_G) (cI cJ cZ cQ : ClassId) (bs sz : Nat) (r : Nat → Nat) (r_length : Int32) (r_places : Nat → Int32) (x1 : Int32) (zr : Int32) (hf : f_X4_placeAt r_places r_length x1 = some zr) : Met l yX4_placeAt wsX4_placeAt { frames := 1, cells := 0, slots := 0, locals := 21 } (va_Pc [.ref (r 0), .int x1] (Pr D cI cJ cZ cQ bs sz [oX4 r r_length, aI cI (r 3) 12 r_places])) (QrI zr) 0 0 no := by
  refine stM (cc := cX4_placeAt) (maxL := 2) (ret := (some .int)) (by decide +kernel) rfl (Nat.le_of_ble_eq_true rfl) ?_
  intro p e s m args below meth c C0 hr hlocks hname hsz hP hDb hE ls hl
  have hAb : ∀ q, no q → bs ≤ q := fun _ h => h.elim
  obtain ⟨hx, hb, hml, hown, hts⟩ := id C0
  have hown : s.vm.findClass RX4 = some m.cls := hown
  obtain ⟨hK, hNW, -, tw, hZ, hT⟩ := id hE
  have hl : lv_has ls 2 [(0, .ref (r 0)), (1, .int x1)] := hl
  have hS : va_S no s.heap s.heap [] := va_S.rf
  have hI_X4 := (show ∀ w ∈ wsX40, w ∈ wsX4_placeAt by decide +kernel)
  have gf18 := hts (.fieldLink RX4 18 "RowRanks$Ranking" "places" "[I") (by decide +kernel)
  unfold f_X4_placeAt at hf
  have go : ∀ (H : Heap) (locs : List Loc), va_P D vwCl [oX4 r r_length, aI cI (r 3) 12 r_places] H → va_S no s.heap H locs → W p l e { frames := 1, cells := 0, slots := 0, locals := 21 } s m args below meth c H locs 0 0 (MQ below (QrI zr) args s 0 0 no) (F0 m 0 ls []) := by
    intro H locs hP hS
    refine lv_aload_n hx hb dX4_placeAt_0 rfl (lv_at hl 0 rfl) ?_
    refine lv_iload_n hx hb dX4_placeAt_1 rfl (lv_at hl 1 rfl) ?_
    obtain ⟨z1, hz1, hf⟩ := obd hf
    refine kZ (runV (As := [.int x1]) (rest := []) C0 hE hAb hP (hDb.addr rfl) hS [0] (wc := [oX4 r r_length]) (by decide) rfl 0 rfl rfl (c_X4_isPlace l D cI cJ cZ cQ bs H.size r r_length x1 z1 hz1) (cwV 1 hts gX4_placeAt_X4_isPlace rfl rfl rfl (by decide +kernel) ⟨Nat.le_of_ble_eq_true rfl, Nat.le_of_ble_eq_true rfl⟩) rfl hl.1 rfl (Nat.le_of_ble_eq_true rfl) dX4_placeAt_2 ⟨Nat.le_of_ble_eq_true rfl, Nat.le_of_ble_eq_true rfl⟩) hS hP (fun bz1 H locs hP hS => ?_)
    refine lv_if_eq (tgt := 17) hx hb dX4_placeAt_5 (by decide) (fun c2 => ?_) (fun c2 => ?_)
    · replace hf := oif c2 hf
      refine lv_iconst (v := (-1)) hx hb dX4_placeAt_17 (by decide) ?_
      have er := Option.some.inj hf
      exact rtI hx hb hr hS dX4_placeAt_18 er hlocks
    · replace hf := oel c2 hf
      refine lv_aload_n hx hb dX4_placeAt_8 rfl (lv_at hl 0 rfl) ?_
      refine va_get (D := D) (ci := 4) (v := .ref (r 3)) (C := RX4) (T := TX4) (N := 5) hx hb hts hI_X4 hown hK hP 0 rfl rfl 2 (by decide) gf18 (fun _ h9 => h9) rfl dX4_placeAt_9 ?_
      refine lv_iload_n hx hb dX4_placeAt_12 rfl (lv_at hl 1 rfl) ?_
      obtain ⟨h3, hf⟩ := ogd hf
      refine va_iald hx hb hK hP 1 0 rfl rfl (ib_in h3) dX4_placeAt_13 ?_
      refine lv_goto (tgt := 18) hx hb dX4_placeAt_14 (by decide) ?_
      have er := Option.some.inj hf
      exact rtI hx hb hr hS dX4_placeAt_18 er hlocks
  exact go s.heap [] hP hS
noncomputable def L_X4_alikeTo_4 (r_lesser : Nat → Int32) (r_length : Int32) (v1 : Int32) : Nat → Int32 → Int32 → Option (Int32)
  | 0, _, _ => none
  | n + 1, v2, v3 => if r_length ≤ v3 then (some (v2)) else ((f_X4_compareByRank r_lesser r_length v3 v1).bind (fun z2 => if z2 = 0 then ((some (v2 + 1 : Int32)).bind (fun y5 => (some (v3 + 1 : Int32)).bind (fun y6 => L_X4_alikeTo_4 r_lesser r_length v1 n y5 y6))) else ((some (v3 + 1 : Int32)).bind (fun y4 => L_X4_alikeTo_4 r_lesser r_length v1 n v2 y4))))
noncomputable def f_X4_alikeTo (r_lesser : Nat → Int32) (r_length : Int32) (x1 : Int32) : Option (Int32) := (L_X4_alikeTo_4 r_lesser r_length x1 4000 0 0).bind (fun z7 => some (z7))
set_option maxHeartbeats 4000000 in
set_option maxRecDepth 100000 in
theorem c_X4_alikeTo (l : Launch) (D : va_G) (cI cJ cZ cQ : ClassId) (bs sz : Nat) (r : Nat → Nat) (r_length : Int32) (r_lesser : Nat → Int32) (x1 : Int32) (zr : Int32) (hf : f_X4_alikeTo r_lesser r_length x1 = some zr) : Met l yX4_alikeTo wsX4_alikeTo { frames := 3, cells := 0, slots := 0, locals := 64 } (va_Pc [.ref (r 0), .int x1] (Pr D cI cJ cZ cQ bs sz [oX4 r r_length, aI cI (r 1) 12 r_lesser])) (QrI zr) 0 0 no := by
  refine stM (cc := cX4_alikeTo) (maxL := 4) (ret := (some .int)) (by decide +kernel) rfl (Nat.le_of_ble_eq_true rfl) ?_
  intro p e s m args below meth c C0 hr hlocks hname hsz hP hDb hE ls hl
  have hAb : ∀ q, no q → bs ≤ q := fun _ h => h.elim
  obtain ⟨hx, hb, hml, hown, hts⟩ := id C0
  have hown : s.vm.findClass RX4 = some m.cls := hown
  obtain ⟨hK, hNW, -, tw, hZ, hT⟩ := id hE
  have hl : lv_has ls 4 [(0, .ref (r 0)), (1, .int x1)] := hl
  have hS : va_S no s.heap s.heap [] := va_S.rf
  have hI_X4 := (show ∀ w ∈ wsX40, w ∈ wsX4_alikeTo by decide +kernel)
  have gf36 := hts (.fieldLink RX4 36 "RowRanks$Ranking" "length" "I") (by decide +kernel)
  have W4 : ∀ (n : Nat) (v1 : Int32) (v2 : Int32) (v3 : Int32) (H : Heap) (locs : List Loc) (ls : Array Slot) (z : Int32), va_P D vwCl [oX4 r r_length, aI cI (r 1) 12 r_lesser] H → va_S no s.heap H locs → lv_has ls 4 [(0, .ref (r 0)), (1, .int v1), (2, .int v2), (3, .int v3)] → L_X4_alikeTo_4 r_lesser r_length v1 n v2 v3 = some z → (∀ (H : Heap) (locs : List Loc) (ls : Array Slot), va_P D vwCl [oX4 r r_length, aI cI (r 1) 12 r_lesser] H → va_S no s.heap H locs → lv_has ls 4 [(2, .int z)] → W p l e { frames := 3, cells := 0, slots := 0, locals := 64 } s m args below meth c H locs 0 0 (MQ below (QrI zr) args s 0 0 no) (F0 m 30 ls [])) → W p l e { frames := 3, cells := 0, slots := 0, locals := 64 } s m args below meth c H locs 0 0 (MQ below (QrI zr) args s 0 0 no) (F0 m 4 ls []) := by
    intro n
    induction n with
    | zero =>
      intro v1 v2 v3 H locs ls z hP hS hl hf
      exact absurd (show (none : Option (Int32)) = some z from hf) (fun h => by cases h)
    | succ n ih =>
      intro v1 v2 v3 H locs ls z hP hS hl hf K
      rw [L_X4_alikeTo_4] at hf
      refine lv_iload_n hx hb dX4_alikeTo_4 rfl (lv_at hl 3 rfl) ?_
      refine lv_aload_n hx hb dX4_alikeTo_5 rfl (lv_at hl 0 rfl) ?_
      refine va_get (D := D) (ci := 4) (v := .int r_length) (C := RX4) (T := TX4) (N := 5) hx hb hts hI_X4 hown hK hP 0 rfl rfl 4 (by decide) gf36 (fun _ h9 => h9) rfl dX4_alikeTo_6 ?_
      refine lv_icmp_ge (tgt := 30) hx hb dX4_alikeTo_9 (by decide) (fun c1 => ?_) (fun c1 => ?_)
      · replace hf := oif c1 hf
        have hf := Option.some.inj hf
        subst hf
        exact K H locs ls hP hS (lv_sub hl [2] rfl)
      · replace hf := oel c1 hf
        refine lv_aload_n hx hb dX4_alikeTo_12 rfl (lv_at hl 0 rfl) ?_
        refine lv_iload_n hx hb dX4_alikeTo_13 rfl (lv_at hl 3 rfl) ?_
        refine lv_iload_n hx hb dX4_alikeTo_14 rfl (lv_at hl 1 rfl) ?_
        obtain ⟨z2, hz2, hf⟩ := obd hf
        refine kI (runV (As := [.int v3, .int v1]) (rest := []) C0 hE hAb hP (hDb.addr rfl) hS [0, 1] (wc := [oX4 r r_length, aI cI (r 1) 12 r_lesser]) (by decide) rfl 0 rfl rfl (c_X4_compareByRank l D cI cJ cZ cQ bs H.size r r_length r_lesser v3 v1 z2 hz2) (cwV 2 hts gX4_alikeTo_X4_compareByRank rfl rfl rfl (by decide +kernel) ⟨Nat.le_of_ble_eq_true rfl, Nat.le_of_ble_eq_true rfl⟩) rfl hl.1 rfl (Nat.le_of_ble_eq_true rfl) dX4_alikeTo_15 ⟨Nat.le_of_ble_eq_true rfl, Nat.le_of_ble_eq_true rfl⟩) hS hP (fun H locs hP hS => ?_)
        refine lv_if_ne (tgt := 24) hx hb dX4_alikeTo_18 (by decide) (fun c3 => ?_) (fun c3 => ?_)
        · replace hf := oel c3 hf
          obtain ⟨y4, ey4⟩ : ∃ y : Int32, y = v3 + 1 := ⟨_, rfl⟩
          replace hf := onm ey4 hf
          refine lv_iinc (v := y4) (lv' := [(3, .int y4), (0, .ref (r 0)), (1, .int v1), (2, .int v2)]) hx hb dX4_alikeTo_24 hl (k := 3) rfl (by rw [ey4]; rfl) (by decide) rfl (fun ls hl => ?_)
          refine lv_goto (tgt := 4) hx hb dX4_alikeTo_27 (by decide) ?_
          exact ih v1 v2 y4 H locs ls z hP hS (lv_sub hl [1, 2, 3, 0] rfl) hf K
        · replace hf := oif c3 hf
          obtain ⟨y5, ey5⟩ : ∃ y : Int32, y = v2 + 1 := ⟨_, rfl⟩
          replace hf := onm ey5 hf
          refine lv_iinc (v := y5) (lv' := [(2, .int y5), (0, .ref (r 0)), (1, .int v1), (3, .int v3)]) hx hb dX4_alikeTo_21 hl (k := 2) rfl (by rw [ey5]; rfl) (by decide) rfl (fun ls hl => ?_)
          obtain ⟨y6, ey6⟩ : ∃ y : Int32, y = v3 + 1 := ⟨_, rfl⟩
          replace hf := onm ey6 hf
          refine lv_iinc (v := y6) (lv' := [(3, .int y6), (2, .int y5), (0, .ref (r 0)), (1, .int v1)]) hx hb dX4_alikeTo_24 hl (k := 3) rfl (by rw [ey6]; rfl) (by decide) rfl (fun ls hl => ?_)
          refine lv_goto (tgt := 4) hx hb dX4_alikeTo_27 (by decide) ?_
          exact ih v1 y5 y6 H locs ls z hP hS (lv_sub hl [2, 3, 1, 0] rfl) hf K
  unfold f_X4_alikeTo at hf
  have go : ∀ (H : Heap) (locs : List Loc), va_P D vwCl [oX4 r r_length, aI cI (r 1) 12 r_lesser] H → va_S no s.heap H locs → W p l e { frames := 3, cells := 0, slots := 0, locals := 64 } s m args below meth c H locs 0 0 (MQ below (QrI zr) args s 0 0 no) (F0 m 0 ls []) := by
    intro H locs hP hS
    refine lv_iconst (v := 0) hx hb dX4_alikeTo_0 (by decide) ?_
    refine lv_istore_n (lv' := [(2, .int 0), (0, .ref (r 0)), (1, .int x1)]) hx hb dX4_alikeTo_1 rfl hl (by decide) rfl (fun ls hl => ?_)
    refine lv_iconst (v := 0) hx hb dX4_alikeTo_2 (by decide) ?_
    refine lv_istore_n (lv' := [(3, .int 0), (2, .int 0), (0, .ref (r 0)), (1, .int x1)]) hx hb dX4_alikeTo_3 rfl hl (by decide) rfl (fun ls hl => ?_)
    obtain ⟨z7, hz7, hf⟩ := obd hf
    refine W4 4000 x1 0 0 H locs ls z7 hP hS (lv_sub hl [2, 3, 1, 0] rfl) hz7 (fun H locs ls hP hS hl => ?_)
    refine lv_iload_n hx hb dX4_alikeTo_30 rfl (lv_at hl 0 rfl) ?_
    have er := Option.some.inj hf
    exact rtI hx hb hr hS dX4_alikeTo_31 er hlocks
  exact go s.heap [] hP hS
noncomputable def L_X4_classesBelow_4 (r_lesser : Nat → Int32) (r_length : Int32) (v1 : Int32) : Nat → Int32 → Int32 → Option (Int32)
  | 0, _, _ => none
  | n + 1, v2, v3 => if r_length ≤ v3 then (some (v2)) else ((f_X4_compareByRank r_lesser r_length v3 v1).bind (fun z2 => if 0 ≤ z2 then ((some (v3 + 1 : Int32)).bind (fun y4 => L_X4_classesBelow_4 r_lesser r_length v1 n v2 y4)) else ((f_X4_alikeBefore r_lesser r_length v3).bind (fun z5 => if z5 = 0 then ((some (v2 + 1 : Int32)).bind (fun y8 => (some (v3 + 1 : Int32)).bind (fun y9 => L_X4_classesBelow_4 r_lesser r_length v1 n y8 y9))) else ((some (v3 + 1 : Int32)).bind (fun y7 => L_X4_classesBelow_4 r_lesser r_length v1 n v2 y7))))))
noncomputable def f_X4_classesBelow (r_lesser : Nat → Int32) (r_length : Int32) (x1 : Int32) : Option (Int32) := (L_X4_classesBelow_4 r_lesser r_length x1 4000 0 0).bind (fun z10 => some (z10))
set_option maxHeartbeats 4000000 in
set_option maxRecDepth 100000 in
theorem c_X4_classesBelow (l : Launch) (D : va_G) (cI cJ cZ cQ : ClassId) (bs sz : Nat) (r : Nat → Nat) (r_length : Int32) (r_lesser : Nat → Int32) (x1 : Int32) (zr : Int32) (hf : f_X4_classesBelow r_lesser r_length x1 = some zr) : Met l yX4_classesBelow wsX4_classesBelow { frames := 4, cells := 0, slots := 0, locals := 87 } (va_Pc [.ref (r 0), .int x1] (Pr D cI cJ cZ cQ bs sz [oX4 r r_length, aI cI (r 1) 12 r_lesser])) (QrI zr) 0 0 no := by
  refine stM (cc := cX4_classesBelow) (maxL := 4) (ret := (some .int)) (by decide +kernel) rfl (Nat.le_of_ble_eq_true rfl) ?_
  intro p e s m args below meth c C0 hr hlocks hname hsz hP hDb hE ls hl
  have hAb : ∀ q, no q → bs ≤ q := fun _ h => h.elim
  obtain ⟨hx, hb, hml, hown, hts⟩ := id C0
  have hown : s.vm.findClass RX4 = some m.cls := hown
  obtain ⟨hK, hNW, -, tw, hZ, hT⟩ := id hE
  have hl : lv_has ls 4 [(0, .ref (r 0)), (1, .int x1)] := hl
  have hS : va_S no s.heap s.heap [] := va_S.rf
  have hI_X4 := (show ∀ w ∈ wsX40, w ∈ wsX4_classesBelow by decide +kernel)
  have gf36 := hts (.fieldLink RX4 36 "RowRanks$Ranking" "length" "I") (by decide +kernel)
  have W4 : ∀ (n : Nat) (v1 : Int32) (v2 : Int32) (v3 : Int32) (H : Heap) (locs : List Loc) (ls : Array Slot) (z : Int32), va_P D vwCl [oX4 r r_length, aI cI (r 1) 12 r_lesser] H → va_S no s.heap H locs → lv_has ls 4 [(0, .ref (r 0)), (1, .int v1), (2, .int v2), (3, .int v3)] → L_X4_classesBelow_4 r_lesser r_length v1 n v2 v3 = some z → (∀ (H : Heap) (locs : List Loc) (ls : Array Slot), va_P D vwCl [oX4 r r_length, aI cI (r 1) 12 r_lesser] H → va_S no s.heap H locs → lv_has ls 4 [(2, .int z)] → W p l e { frames := 4, cells := 0, slots := 0, locals := 87 } s m args below meth c H locs 0 0 (MQ below (QrI zr) args s 0 0 no) (F0 m 38 ls [])) → W p l e { frames := 4, cells := 0, slots := 0, locals := 87 } s m args below meth c H locs 0 0 (MQ below (QrI zr) args s 0 0 no) (F0 m 4 ls []) := by
    intro n
    induction n with
    | zero =>
      intro v1 v2 v3 H locs ls z hP hS hl hf
      exact absurd (show (none : Option (Int32)) = some z from hf) (fun h => by cases h)
    | succ n ih =>
      intro v1 v2 v3 H locs ls z hP hS hl hf K
      rw [L_X4_classesBelow_4] at hf
      refine lv_iload_n hx hb dX4_classesBelow_4 rfl (lv_at hl 3 rfl) ?_
      refine lv_aload_n hx hb dX4_classesBelow_5 rfl (lv_at hl 0 rfl) ?_
      refine va_get (D := D) (ci := 4) (v := .int r_length) (C := RX4) (T := TX4) (N := 5) hx hb hts hI_X4 hown hK hP 0 rfl rfl 4 (by decide) gf36 (fun _ h9 => h9) rfl dX4_classesBelow_6 ?_
      refine lv_icmp_ge (tgt := 38) hx hb dX4_classesBelow_9 (by decide) (fun c1 => ?_) (fun c1 => ?_)
      · replace hf := oif c1 hf
        have hf := Option.some.inj hf
        subst hf
        exact K H locs ls hP hS (lv_sub hl [2] rfl)
      · replace hf := oel c1 hf
        refine lv_aload_n hx hb dX4_classesBelow_12 rfl (lv_at hl 0 rfl) ?_
        refine lv_iload_n hx hb dX4_classesBelow_13 rfl (lv_at hl 3 rfl) ?_
        refine lv_iload_n hx hb dX4_classesBelow_14 rfl (lv_at hl 1 rfl) ?_
        obtain ⟨z2, hz2, hf⟩ := obd hf
        refine kI (runV (As := [.int v3, .int v1]) (rest := []) C0 hE hAb hP (hDb.addr rfl) hS [0, 1] (wc := [oX4 r r_length, aI cI (r 1) 12 r_lesser]) (by decide) rfl 0 rfl rfl (c_X4_compareByRank l D cI cJ cZ cQ bs H.size r r_length r_lesser v3 v1 z2 hz2) (cwV 2 hts gX4_classesBelow_X4_compareByRank rfl rfl rfl (by decide +kernel) ⟨Nat.le_of_ble_eq_true rfl, Nat.le_of_ble_eq_true rfl⟩) rfl hl.1 rfl (Nat.le_of_ble_eq_true rfl) dX4_classesBelow_15 ⟨Nat.le_of_ble_eq_true rfl, Nat.le_of_ble_eq_true rfl⟩) hS hP (fun H locs hP hS => ?_)
        refine lv_if_ge (tgt := 32) hx hb dX4_classesBelow_18 (by decide) (fun c3 => ?_) (fun c3 => ?_)
        · replace hf := oif c3 hf
          obtain ⟨y4, ey4⟩ : ∃ y : Int32, y = v3 + 1 := ⟨_, rfl⟩
          replace hf := onm ey4 hf
          refine lv_iinc (v := y4) (lv' := [(3, .int y4), (0, .ref (r 0)), (1, .int v1), (2, .int v2)]) hx hb dX4_classesBelow_32 hl (k := 3) rfl (by rw [ey4]; rfl) (by decide) rfl (fun ls hl => ?_)
          refine lv_goto (tgt := 4) hx hb dX4_classesBelow_35 (by decide) ?_
          exact ih v1 v2 y4 H locs ls z hP hS (lv_sub hl [1, 2, 3, 0] rfl) hf K
        · replace hf := oel c3 hf
          refine lv_aload_n hx hb dX4_classesBelow_21 rfl (lv_at hl 0 rfl) ?_
          refine lv_iload_n hx hb dX4_classesBelow_22 rfl (lv_at hl 3 rfl) ?_
          obtain ⟨z5, hz5, hf⟩ := obd hf
          refine kI (runV (As := [.int v3]) (rest := []) C0 hE hAb hP (hDb.addr rfl) hS [0, 1] (wc := [oX4 r r_length, aI cI (r 1) 12 r_lesser]) (by decide) rfl 0 rfl rfl (c_X4_alikeBefore l D cI cJ cZ cQ bs H.size r r_length r_lesser v3 z5 hz5) (cwV 1 hts gX4_classesBelow_X4_alikeBefore rfl rfl rfl (by decide +kernel) ⟨Nat.le_of_ble_eq_true rfl, Nat.le_of_ble_eq_true rfl⟩) rfl hl.1 rfl (Nat.le_of_ble_eq_true rfl) dX4_classesBelow_23 ⟨Nat.le_of_ble_eq_true rfl, Nat.le_of_ble_eq_true rfl⟩) hS hP (fun H locs hP hS => ?_)
          refine lv_if_ne (tgt := 32) hx hb dX4_classesBelow_26 (by decide) (fun c6 => ?_) (fun c6 => ?_)
          · replace hf := oel c6 hf
            obtain ⟨y7, ey7⟩ : ∃ y : Int32, y = v3 + 1 := ⟨_, rfl⟩
            replace hf := onm ey7 hf
            refine lv_iinc (v := y7) (lv' := [(3, .int y7), (0, .ref (r 0)), (1, .int v1), (2, .int v2)]) hx hb dX4_classesBelow_32 hl (k := 3) rfl (by rw [ey7]; rfl) (by decide) rfl (fun ls hl => ?_)
            refine lv_goto (tgt := 4) hx hb dX4_classesBelow_35 (by decide) ?_
            exact ih v1 v2 y7 H locs ls z hP hS (lv_sub hl [1, 2, 3, 0] rfl) hf K
          · replace hf := oif c6 hf
            obtain ⟨y8, ey8⟩ : ∃ y : Int32, y = v2 + 1 := ⟨_, rfl⟩
            replace hf := onm ey8 hf
            refine lv_iinc (v := y8) (lv' := [(2, .int y8), (0, .ref (r 0)), (1, .int v1), (3, .int v3)]) hx hb dX4_classesBelow_29 hl (k := 2) rfl (by rw [ey8]; rfl) (by decide) rfl (fun ls hl => ?_)
            obtain ⟨y9, ey9⟩ : ∃ y : Int32, y = v3 + 1 := ⟨_, rfl⟩
            replace hf := onm ey9 hf
            refine lv_iinc (v := y9) (lv' := [(3, .int y9), (2, .int y8), (0, .ref (r 0)), (1, .int v1)]) hx hb dX4_classesBelow_32 hl (k := 3) rfl (by rw [ey9]; rfl) (by decide) rfl (fun ls hl => ?_)
            refine lv_goto (tgt := 4) hx hb dX4_classesBelow_35 (by decide) ?_
            exact ih v1 y8 y9 H locs ls z hP hS (lv_sub hl [2, 3, 1, 0] rfl) hf K
  unfold f_X4_classesBelow at hf
  have go : ∀ (H : Heap) (locs : List Loc), va_P D vwCl [oX4 r r_length, aI cI (r 1) 12 r_lesser] H → va_S no s.heap H locs → W p l e { frames := 4, cells := 0, slots := 0, locals := 87 } s m args below meth c H locs 0 0 (MQ below (QrI zr) args s 0 0 no) (F0 m 0 ls []) := by
    intro H locs hP hS
    refine lv_iconst (v := 0) hx hb dX4_classesBelow_0 (by decide) ?_
    refine lv_istore_n (lv' := [(2, .int 0), (0, .ref (r 0)), (1, .int x1)]) hx hb dX4_classesBelow_1 rfl hl (by decide) rfl (fun ls hl => ?_)
    refine lv_iconst (v := 0) hx hb dX4_classesBelow_2 (by decide) ?_
    refine lv_istore_n (lv' := [(3, .int 0), (2, .int 0), (0, .ref (r 0)), (1, .int x1)]) hx hb dX4_classesBelow_3 rfl hl (by decide) rfl (fun ls hl => ?_)
    obtain ⟨z10, hz10, hf⟩ := obd hf
    refine W4 4000 x1 0 0 H locs ls z10 hP hS (lv_sub hl [2, 3, 1, 0] rfl) hz10 (fun H locs ls hP hS hl => ?_)
    refine lv_iload_n hx hb dX4_classesBelow_38 rfl (lv_at hl 0 rfl) ?_
    have er := Option.some.inj hf
    exact rtI hx hb hr hS dX4_classesBelow_39 er hlocks
  exact go s.heap [] hP hS
noncomputable def L_X4_hasOrderOf_2 (r_positions : Nat → Int32) (r_length : Int32) (q_positions : Nat → Int32) (q_length : Int32) : Nat → Int32 → Option ((Unit) ⊕ (Int32))
  | 0, _ => none
  | n + 1, v2 => if r_length ≤ v2 then (some (.inl (()))) else ((f_X4_positionOf r_positions r_length v2).bind (fun z2 => (f_X4_positionOf q_positions q_length v2).bind (fun z3 => if z2 = z3 then ((some (v2 + 1 : Int32)).bind (fun y5 => L_X4_hasOrderOf_2 r_positions r_length q_positions q_length n y5)) else (some (.inr (0))))))
noncomputable def f_X4_hasOrderOf (r_positions : Nat → Int32) (r_length : Int32) (q_positions : Nat → Int32) (q_length : Int32) : Option (Int32) := (L_X4_hasOrderOf_2 r_positions r_length q_positions q_length 4000 0).bind (fun z6 => Sum.elim (fun e7 => some (1)) (fun r9 => some (r9)) z6)
set_option maxHeartbeats 4000000 in
set_option maxRecDepth 100000 in
theorem c_X4_hasOrderOf (l : Launch) (D : va_G) (cI cJ cZ cQ : ClassId) (bs sz : Nat) (r : Nat → Nat) (q : Nat → Nat) (r_length : Int32) (r_positions : Nat → Int32) (q_length : Int32) (q_positions : Nat → Int32) (zr : Int32) (hf : f_X4_hasOrderOf r_positions r_length q_positions q_length = some zr) : Met l yX4_hasOrderOf wsX4_hasOrderOf { frames := 2, cells := 0, slots := 0, locals := 42 } (va_Pc [.ref (r 0), .ref (q 0)] (Pr D cI cJ cZ cQ bs sz [oX4 r r_length, aI cI (r 2) 12 r_positions, oX4 q q_length, aI cI (q 2) 12 q_positions])) (QrZ zr) 0 0 no := by
  refine stM (cc := cX4_hasOrderOf) (maxL := 3) (ret := (some .boolean)) (by decide +kernel) rfl (Nat.le_of_ble_eq_true rfl) ?_
  intro p e s m args below meth c C0 hr hlocks hname hsz hP hDb hE ls hl
  have hAb : ∀ q, no q → bs ≤ q := fun _ h => h.elim
  obtain ⟨hx, hb, hml, hown, hts⟩ := id C0
  have hown : s.vm.findClass RX4 = some m.cls := hown
  obtain ⟨hK, hNW, -, tw, hZ, hT⟩ := id hE
  have hl : lv_has ls 3 [(0, .ref (r 0)), (1, .ref (q 0))] := hl
  have hS : va_S no s.heap s.heap [] := va_S.rf
  have hI_X4 := (show ∀ w ∈ wsX40, w ∈ wsX4_hasOrderOf by decide +kernel)
  have gf36 := hts (.fieldLink RX4 36 "RowRanks$Ranking" "length" "I") (by decide +kernel)
  have W2 : ∀ (n : Nat) (v2 : Int32) (H : Heap) (locs : List Loc) (ls : Array Slot) (z : (Unit) ⊕ (Int32)), va_P D vwCl [oX4 r r_length, aI cI (r 2) 12 r_positions, oX4 q q_length, aI cI (q 2) 12 q_positions] H → va_S no s.heap H locs → lv_has ls 3 [(0, .ref (r 0)), (1, .ref (q 0)), (2, .int v2)] → L_X4_hasOrderOf_2 r_positions r_length q_positions q_length n v2 = some z → (∀ e9, z = Sum.inl e9 → ∀ (H : Heap) (locs : List Loc) (ls : Array Slot), va_P D vwCl [oX4 r r_length, aI cI (r 2) 12 r_positions, oX4 q q_length, aI cI (q 2) 12 q_positions] H → va_S no s.heap H locs → lv_has ls 3 [] → W p l e { frames := 2, cells := 0, slots := 0, locals := 42 } s m args below meth c H locs 0 0 (MQ below (QrZ zr) args s 0 0 no) (F0 m 31 ls [])) → (∀ r9, z = Sum.inr r9 → r9 = zr) → W p l e { frames := 2, cells := 0, slots := 0, locals := 42 } s m args below meth c H locs 0 0 (MQ below (QrZ zr) args s 0 0 no) (F0 m 2 ls []) := by
    intro n
    induction n with
    | zero =>
      intro v2 H locs ls z hP hS hl hf
      exact absurd (show (none : Option ((Unit) ⊕ (Int32))) = some z from hf) (fun h => by cases h)
    | succ n ih =>
      intro v2 H locs ls z hP hS hl hf K K2
      rw [L_X4_hasOrderOf_2] at hf
      refine lv_iload_n hx hb dX4_hasOrderOf_2 rfl (lv_at hl 2 rfl) ?_
      refine lv_aload_n hx hb dX4_hasOrderOf_3 rfl (lv_at hl 0 rfl) ?_
      refine va_get (D := D) (ci := 4) (v := .int r_length) (C := RX4) (T := TX4) (N := 5) hx hb hts hI_X4 hown hK hP 0 rfl rfl 4 (by decide) gf36 (fun _ h9 => h9) rfl dX4_hasOrderOf_4 ?_
      refine lv_icmp_ge (tgt := 31) hx hb dX4_hasOrderOf_7 (by decide) (fun c1 => ?_) (fun c1 => ?_)
      · replace hf := oif c1 hf
        exact K _ (Option.some.inj hf).symm H locs ls hP hS (lv_sub hl [] rfl)
      · replace hf := oel c1 hf
        refine lv_aload_n hx hb dX4_hasOrderOf_10 rfl (lv_at hl 0 rfl) ?_
        refine lv_iload_n hx hb dX4_hasOrderOf_11 rfl (lv_at hl 2 rfl) ?_
        obtain ⟨z2, hz2, hf⟩ := obd hf
        refine kI (runV (As := [.int v2]) (rest := []) C0 hE hAb hP (hDb.addr rfl) hS [0, 1] (wc := [oX4 r r_length, aI cI (r 2) 12 r_positions]) (by decide) rfl 0 rfl rfl (c_X4_positionOf l D cI cJ cZ cQ bs H.size r r_length r_positions v2 z2 hz2) (cwV 1 hts gX4_hasOrderOf_X4_positionOf rfl rfl rfl (by decide +kernel) ⟨Nat.le_of_ble_eq_true rfl, Nat.le_of_ble_eq_true rfl⟩) rfl hl.1 rfl (Nat.le_of_ble_eq_true rfl) dX4_hasOrderOf_12 ⟨Nat.le_of_ble_eq_true rfl, Nat.le_of_ble_eq_true rfl⟩) hS hP (fun H locs hP hS => ?_)
        refine lv_aload_n hx hb dX4_hasOrderOf_15 rfl (lv_at hl 1 rfl) ?_
        refine lv_iload_n hx hb dX4_hasOrderOf_16 rfl (lv_at hl 2 rfl) ?_
        obtain ⟨z3, hz3, hf⟩ := obd hf
        refine kI (runV (As := [.int v2]) (rest := [.int z2]) C0 hE hAb hP (hDb.addr rfl) hS [2, 3] (wc := [oX4 q q_length, aI cI (q 2) 12 q_positions]) (by decide) rfl 2 rfl rfl (c_X4_positionOf l D cI cJ cZ cQ bs H.size q q_length q_positions v2 z3 hz3) (cwV 1 hts gX4_hasOrderOf_X4_positionOf rfl rfl rfl (by decide +kernel) ⟨Nat.le_of_ble_eq_true rfl, Nat.le_of_ble_eq_true rfl⟩) rfl hl.1 rfl (Nat.le_of_ble_eq_true rfl) dX4_hasOrderOf_17 ⟨Nat.le_of_ble_eq_true rfl, Nat.le_of_ble_eq_true rfl⟩) hS hP (fun H locs hP hS => ?_)
        refine lv_icmp_eq (tgt := 25) hx hb dX4_hasOrderOf_20 (by decide) (fun c4 => ?_) (fun c4 => ?_)
        · replace hf := oif c4 hf
          obtain ⟨y5, ey5⟩ : ∃ y : Int32, y = v2 + 1 := ⟨_, rfl⟩
          replace hf := onm ey5 hf
          refine lv_iinc (v := y5) (lv' := [(2, .int y5), (0, .ref (r 0)), (1, .ref (q 0))]) hx hb dX4_hasOrderOf_25 hl (k := 2) rfl (by rw [ey5]; rfl) (by decide) rfl (fun ls hl => ?_)
          refine lv_goto (tgt := 2) hx hb dX4_hasOrderOf_28 (by decide) ?_
          exact ih y5 H locs ls z hP hS (lv_sub hl [1, 2, 0] rfl) hf K K2
        · replace hf := oel c4 hf
          refine lv_iconst (v := 0) hx hb dX4_hasOrderOf_23 (by decide) ?_
          have er := K2 _ (Option.some.inj hf).symm
          exact rtZ hx hb hr hS dX4_hasOrderOf_24 er (by decide) hlocks
  unfold f_X4_hasOrderOf at hf
  have go : ∀ (H : Heap) (locs : List Loc), va_P D vwCl [oX4 r r_length, aI cI (r 2) 12 r_positions, oX4 q q_length, aI cI (q 2) 12 q_positions] H → va_S no s.heap H locs → W p l e { frames := 2, cells := 0, slots := 0, locals := 42 } s m args below meth c H locs 0 0 (MQ below (QrZ zr) args s 0 0 no) (F0 m 0 ls []) := by
    intro H locs hP hS
    refine lv_iconst (v := 0) hx hb dX4_hasOrderOf_0 (by decide) ?_
    refine lv_istore_n (lv' := [(2, .int 0), (0, .ref (r 0)), (1, .ref (q 0))]) hx hb dX4_hasOrderOf_1 rfl hl (by decide) rfl (fun ls hl => ?_)
    obtain ⟨z6, hz6, hf⟩ := obd hf
    refine W2 4000 0 H locs ls z6 hP hS (lv_sub hl [1, 2, 0] rfl) hz6 (fun e7 ee H locs ls hP hS hl => ?_) (fun r9 er => by subst er; exact Option.some.inj hf)
    subst ee
    replace hf := osl hf
    refine lv_iconst (v := 1) hx hb dX4_hasOrderOf_31 (by decide) ?_
    have er := Option.some.inj hf
    exact rtZ hx hb hr hS dX4_hasOrderOf_32 er (by decide) hlocks
  exact go s.heap [] hP hS
noncomputable def L_X4_alikePairs_4 (r_lesser : Nat → Int32) (r_length : Int32) : Nat → Int32 → Int32 → Option (Int32)
  | 0, _, _ => none
  | n + 1, v1, v2 => if r_length ≤ v2 then (some (v1)) else ((f_X4_alikeBefore r_lesser r_length v2).bind (fun z2 => (some (v2 + 1 : Int32)).bind (fun y3 => L_X4_alikePairs_4 r_lesser r_length n (v1 + z2) y3)))
noncomputable def f_X4_alikePairs (r_lesser : Nat → Int32) (r_length : Int32) : Option (Int32) := (L_X4_alikePairs_4 r_lesser r_length 4000 0 0).bind (fun z4 => some (z4))
set_option maxHeartbeats 4000000 in
set_option maxRecDepth 100000 in
theorem c_X4_alikePairs (l : Launch) (D : va_G) (cI cJ cZ cQ : ClassId) (bs sz : Nat) (r : Nat → Nat) (r_length : Int32) (r_lesser : Nat → Int32) (zr : Int32) (hf : f_X4_alikePairs r_lesser r_length = some zr) : Met l yX4_alikePairs wsX4_alikePairs { frames := 4, cells := 0, slots := 0, locals := 87 } (va_Pc [.ref (r 0)] (Pr D cI cJ cZ cQ bs sz [oX4 r r_length, aI cI (r 1) 12 r_lesser])) (QrI zr) 0 0 no := by
  refine stM (cc := cX4_alikePairs) (maxL := 3) (ret := (some .int)) (by decide +kernel) rfl (Nat.le_of_ble_eq_true rfl) ?_
  intro p e s m args below meth c C0 hr hlocks hname hsz hP hDb hE ls hl
  have hAb : ∀ q, no q → bs ≤ q := fun _ h => h.elim
  obtain ⟨hx, hb, hml, hown, hts⟩ := id C0
  have hown : s.vm.findClass RX4 = some m.cls := hown
  obtain ⟨hK, hNW, -, tw, hZ, hT⟩ := id hE
  have hl : lv_has ls 3 [(0, .ref (r 0))] := hl
  have hS : va_S no s.heap s.heap [] := va_S.rf
  have hI_X4 := (show ∀ w ∈ wsX40, w ∈ wsX4_alikePairs by decide +kernel)
  have gf36 := hts (.fieldLink RX4 36 "RowRanks$Ranking" "length" "I") (by decide +kernel)
  have W4 : ∀ (n : Nat) (v1 : Int32) (v2 : Int32) (H : Heap) (locs : List Loc) (ls : Array Slot) (z : Int32), va_P D vwCl [oX4 r r_length, aI cI (r 1) 12 r_lesser] H → va_S no s.heap H locs → lv_has ls 3 [(0, .ref (r 0)), (1, .int v1), (2, .int v2)] → L_X4_alikePairs_4 r_lesser r_length n v1 v2 = some z → (∀ (H : Heap) (locs : List Loc) (ls : Array Slot), va_P D vwCl [oX4 r r_length, aI cI (r 1) 12 r_lesser] H → va_S no s.heap H locs → lv_has ls 3 [(1, .int z)] → W p l e { frames := 4, cells := 0, slots := 0, locals := 87 } s m args below meth c H locs 0 0 (MQ below (QrI zr) args s 0 0 no) (F0 m 26 ls [])) → W p l e { frames := 4, cells := 0, slots := 0, locals := 87 } s m args below meth c H locs 0 0 (MQ below (QrI zr) args s 0 0 no) (F0 m 4 ls []) := by
    intro n
    induction n with
    | zero =>
      intro v1 v2 H locs ls z hP hS hl hf
      exact absurd (show (none : Option (Int32)) = some z from hf) (fun h => by cases h)
    | succ n ih =>
      intro v1 v2 H locs ls z hP hS hl hf K
      rw [L_X4_alikePairs_4] at hf
      refine lv_iload_n hx hb dX4_alikePairs_4 rfl (lv_at hl 2 rfl) ?_
      refine lv_aload_n hx hb dX4_alikePairs_5 rfl (lv_at hl 0 rfl) ?_
      refine va_get (D := D) (ci := 4) (v := .int r_length) (C := RX4) (T := TX4) (N := 5) hx hb hts hI_X4 hown hK hP 0 rfl rfl 4 (by decide) gf36 (fun _ h9 => h9) rfl dX4_alikePairs_6 ?_
      refine lv_icmp_ge (tgt := 26) hx hb dX4_alikePairs_9 (by decide) (fun c1 => ?_) (fun c1 => ?_)
      · replace hf := oif c1 hf
        have hf := Option.some.inj hf
        subst hf
        exact K H locs ls hP hS (lv_sub hl [1] rfl)
      · replace hf := oel c1 hf
        refine lv_iload_n hx hb dX4_alikePairs_12 rfl (lv_at hl 1 rfl) ?_
        refine lv_aload_n hx hb dX4_alikePairs_13 rfl (lv_at hl 0 rfl) ?_
        refine lv_iload_n hx hb dX4_alikePairs_14 rfl (lv_at hl 2 rfl) ?_
        obtain ⟨z2, hz2, hf⟩ := obd hf
        refine kI (runV (As := [.int v2]) (rest := [.int v1]) C0 hE hAb hP (hDb.addr rfl) hS [0, 1] (wc := [oX4 r r_length, aI cI (r 1) 12 r_lesser]) (by decide) rfl 0 rfl rfl (c_X4_alikeBefore l D cI cJ cZ cQ bs H.size r r_length r_lesser v2 z2 hz2) (cwV 1 hts gX4_alikePairs_X4_alikeBefore rfl rfl rfl (by decide +kernel) ⟨Nat.le_of_ble_eq_true rfl, Nat.le_of_ble_eq_true rfl⟩) rfl hl.1 rfl (Nat.le_of_ble_eq_true rfl) dX4_alikePairs_15 ⟨Nat.le_of_ble_eq_true rfl, Nat.le_of_ble_eq_true rfl⟩) hS hP (fun H locs hP hS => ?_)
        refine lv_iadd hx hb dX4_alikePairs_18 ?_
        refine lv_istore_n (lv' := [(1, .int (v1 + z2)), (0, .ref (r 0)), (2, .int v2)]) hx hb dX4_alikePairs_19 rfl hl (by decide) rfl (fun ls hl => ?_)
        obtain ⟨y3, ey3⟩ : ∃ y : Int32, y = v2 + 1 := ⟨_, rfl⟩
        replace hf := onm ey3 hf
        refine lv_iinc (v := y3) (lv' := [(2, .int y3), (1, .int (v1 + z2)), (0, .ref (r 0))]) hx hb dX4_alikePairs_20 hl (k := 2) rfl (by rw [ey3]; rfl) (by decide) rfl (fun ls hl => ?_)
        refine lv_goto (tgt := 4) hx hb dX4_alikePairs_23 (by decide) ?_
        exact ih (v1 + z2) y3 H locs ls z hP hS (lv_sub hl [2, 1, 0] rfl) hf K
  unfold f_X4_alikePairs at hf
  have go : ∀ (H : Heap) (locs : List Loc), va_P D vwCl [oX4 r r_length, aI cI (r 1) 12 r_lesser] H → va_S no s.heap H locs → W p l e { frames := 4, cells := 0, slots := 0, locals := 87 } s m args below meth c H locs 0 0 (MQ below (QrI zr) args s 0 0 no) (F0 m 0 ls []) := by
    intro H locs hP hS
    refine lv_iconst (v := 0) hx hb dX4_alikePairs_0 (by decide) ?_
    refine lv_istore_n (lv' := [(1, .int 0), (0, .ref (r 0))]) hx hb dX4_alikePairs_1 rfl hl (by decide) rfl (fun ls hl => ?_)
    refine lv_iconst (v := 0) hx hb dX4_alikePairs_2 (by decide) ?_
    refine lv_istore_n (lv' := [(2, .int 0), (1, .int 0), (0, .ref (r 0))]) hx hb dX4_alikePairs_3 rfl hl (by decide) rfl (fun ls hl => ?_)
    obtain ⟨z4, hz4, hf⟩ := obd hf
    refine W4 4000 0 0 H locs ls z4 hP hS (lv_sub hl [2, 1, 0] rfl) hz4 (fun H locs ls hP hS hl => ?_)
    refine lv_iload_n hx hb dX4_alikePairs_26 rfl (lv_at hl 0 rfl) ?_
    have er := Option.some.inj hf
    exact rtI hx hb hr hS dX4_alikePairs_27 er hlocks
  exact go s.heap [] hP hS
noncomputable def L_X4_greaterBefore_4 (r_lesser : Nat → Int32) (r_length : Int32) (v1 : Int32) : Nat → Int32 → Int32 → Option (Int32)
  | 0, _, _ => none
  | n + 1, v2, v3 => if v1 ≤ v3 then (some (v2)) else ((f_X4_compareByRank r_lesser r_length v1 v3).bind (fun z2 => if 0 ≤ z2 then ((some (v3 + 1 : Int32)).bind (fun y4 => L_X4_greaterBefore_4 r_lesser r_length v1 n v2 y4)) else ((some (v2 + 1 : Int32)).bind (fun y5 => (some (v3 + 1 : Int32)).bind (fun y6 => L_X4_greaterBefore_4 r_lesser r_length v1 n y5 y6)))))
noncomputable def f_X4_greaterBefore (r_lesser : Nat → Int32) (r_length : Int32) (x1 : Int32) : Option (Int32) := (L_X4_greaterBefore_4 r_lesser r_length x1 4000 0 0).bind (fun z7 => some (z7))
set_option maxHeartbeats 4000000 in
set_option maxRecDepth 100000 in
theorem c_X4_greaterBefore (l : Launch) (D : va_G) (cI cJ cZ cQ : ClassId) (bs sz : Nat) (r : Nat → Nat) (r_length : Int32) (r_lesser : Nat → Int32) (x1 : Int32) (zr : Int32) (hf : f_X4_greaterBefore r_lesser r_length x1 = some zr) : Met l yX4_greaterBefore wsX4_greaterBefore { frames := 3, cells := 0, slots := 0, locals := 64 } (va_Pc [.ref (r 0), .int x1] (Pr D cI cJ cZ cQ bs sz [oX4 r r_length, aI cI (r 1) 12 r_lesser])) (QrI zr) 0 0 no := by
  refine stM (cc := cX4_greaterBefore) (maxL := 4) (ret := (some .int)) (by decide +kernel) rfl (Nat.le_of_ble_eq_true rfl) ?_
  intro p e s m args below meth c C0 hr hlocks hname hsz hP hDb hE ls hl
  have hAb : ∀ q, no q → bs ≤ q := fun _ h => h.elim
  obtain ⟨hx, hb, hml, hown, hts⟩ := id C0
  have hown : s.vm.findClass RX4 = some m.cls := hown
  obtain ⟨hK, hNW, -, tw, hZ, hT⟩ := id hE
  have hl : lv_has ls 4 [(0, .ref (r 0)), (1, .int x1)] := hl
  have hS : va_S no s.heap s.heap [] := va_S.rf
  have W4 : ∀ (n : Nat) (v1 : Int32) (v2 : Int32) (v3 : Int32) (H : Heap) (locs : List Loc) (ls : Array Slot) (z : Int32), va_P D vwCl [oX4 r r_length, aI cI (r 1) 12 r_lesser] H → va_S no s.heap H locs → lv_has ls 4 [(0, .ref (r 0)), (1, .int v1), (2, .int v2), (3, .int v3)] → L_X4_greaterBefore_4 r_lesser r_length v1 n v2 v3 = some z → (∀ (H : Heap) (locs : List Loc) (ls : Array Slot), va_P D vwCl [oX4 r r_length, aI cI (r 1) 12 r_lesser] H → va_S no s.heap H locs → lv_has ls 4 [(2, .int z)] → W p l e { frames := 3, cells := 0, slots := 0, locals := 64 } s m args below meth c H locs 0 0 (MQ below (QrI zr) args s 0 0 no) (F0 m 27 ls [])) → W p l e { frames := 3, cells := 0, slots := 0, locals := 64 } s m args below meth c H locs 0 0 (MQ below (QrI zr) args s 0 0 no) (F0 m 4 ls []) := by
    intro n
    induction n with
    | zero =>
      intro v1 v2 v3 H locs ls z hP hS hl hf
      exact absurd (show (none : Option (Int32)) = some z from hf) (fun h => by cases h)
    | succ n ih =>
      intro v1 v2 v3 H locs ls z hP hS hl hf K
      rw [L_X4_greaterBefore_4] at hf
      refine lv_iload_n hx hb dX4_greaterBefore_4 rfl (lv_at hl 3 rfl) ?_
      refine lv_iload_n hx hb dX4_greaterBefore_5 rfl (lv_at hl 1 rfl) ?_
      refine lv_icmp_ge (tgt := 27) hx hb dX4_greaterBefore_6 (by decide) (fun c1 => ?_) (fun c1 => ?_)
      · replace hf := oif c1 hf
        have hf := Option.some.inj hf
        subst hf
        exact K H locs ls hP hS (lv_sub hl [2] rfl)
      · replace hf := oel c1 hf
        refine lv_aload_n hx hb dX4_greaterBefore_9 rfl (lv_at hl 0 rfl) ?_
        refine lv_iload_n hx hb dX4_greaterBefore_10 rfl (lv_at hl 1 rfl) ?_
        refine lv_iload_n hx hb dX4_greaterBefore_11 rfl (lv_at hl 3 rfl) ?_
        obtain ⟨z2, hz2, hf⟩ := obd hf
        refine kI (runV (As := [.int v1, .int v3]) (rest := []) C0 hE hAb hP (hDb.addr rfl) hS [0, 1] (wc := [oX4 r r_length, aI cI (r 1) 12 r_lesser]) (by decide) rfl 0 rfl rfl (c_X4_compareByRank l D cI cJ cZ cQ bs H.size r r_length r_lesser v1 v3 z2 hz2) (cwV 2 hts gX4_greaterBefore_X4_compareByRank rfl rfl rfl (by decide +kernel) ⟨Nat.le_of_ble_eq_true rfl, Nat.le_of_ble_eq_true rfl⟩) rfl hl.1 rfl (Nat.le_of_ble_eq_true rfl) dX4_greaterBefore_12 ⟨Nat.le_of_ble_eq_true rfl, Nat.le_of_ble_eq_true rfl⟩) hS hP (fun H locs hP hS => ?_)
        refine lv_if_ge (tgt := 21) hx hb dX4_greaterBefore_15 (by decide) (fun c3 => ?_) (fun c3 => ?_)
        · replace hf := oif c3 hf
          obtain ⟨y4, ey4⟩ : ∃ y : Int32, y = v3 + 1 := ⟨_, rfl⟩
          replace hf := onm ey4 hf
          refine lv_iinc (v := y4) (lv' := [(3, .int y4), (0, .ref (r 0)), (1, .int v1), (2, .int v2)]) hx hb dX4_greaterBefore_21 hl (k := 3) rfl (by rw [ey4]; rfl) (by decide) rfl (fun ls hl => ?_)
          refine lv_goto (tgt := 4) hx hb dX4_greaterBefore_24 (by decide) ?_
          exact ih v1 v2 y4 H locs ls z hP hS (lv_sub hl [1, 2, 3, 0] rfl) hf K
        · replace hf := oel c3 hf
          obtain ⟨y5, ey5⟩ : ∃ y : Int32, y = v2 + 1 := ⟨_, rfl⟩
          replace hf := onm ey5 hf
          refine lv_iinc (v := y5) (lv' := [(2, .int y5), (0, .ref (r 0)), (1, .int v1), (3, .int v3)]) hx hb dX4_greaterBefore_18 hl (k := 2) rfl (by rw [ey5]; rfl) (by decide) rfl (fun ls hl => ?_)
          obtain ⟨y6, ey6⟩ : ∃ y : Int32, y = v3 + 1 := ⟨_, rfl⟩
          replace hf := onm ey6 hf
          refine lv_iinc (v := y6) (lv' := [(3, .int y6), (2, .int y5), (0, .ref (r 0)), (1, .int v1)]) hx hb dX4_greaterBefore_21 hl (k := 3) rfl (by rw [ey6]; rfl) (by decide) rfl (fun ls hl => ?_)
          refine lv_goto (tgt := 4) hx hb dX4_greaterBefore_24 (by decide) ?_
          exact ih v1 y5 y6 H locs ls z hP hS (lv_sub hl [2, 3, 1, 0] rfl) hf K
  unfold f_X4_greaterBefore at hf
  have go : ∀ (H : Heap) (locs : List Loc), va_P D vwCl [oX4 r r_length, aI cI (r 1) 12 r_lesser] H → va_S no s.heap H locs → W p l e { frames := 3, cells := 0, slots := 0, locals := 64 } s m args below meth c H locs 0 0 (MQ below (QrI zr) args s 0 0 no) (F0 m 0 ls []) := by
    intro H locs hP hS
    refine lv_iconst (v := 0) hx hb dX4_greaterBefore_0 (by decide) ?_
    refine lv_istore_n (lv' := [(2, .int 0), (0, .ref (r 0)), (1, .int x1)]) hx hb dX4_greaterBefore_1 rfl hl (by decide) rfl (fun ls hl => ?_)
    refine lv_iconst (v := 0) hx hb dX4_greaterBefore_2 (by decide) ?_
    refine lv_istore_n (lv' := [(3, .int 0), (2, .int 0), (0, .ref (r 0)), (1, .int x1)]) hx hb dX4_greaterBefore_3 rfl hl (by decide) rfl (fun ls hl => ?_)
    obtain ⟨z7, hz7, hf⟩ := obd hf
    refine W4 4000 x1 0 0 H locs ls z7 hP hS (lv_sub hl [2, 3, 1, 0] rfl) hz7 (fun H locs ls hP hS hl => ?_)
    refine lv_iload_n hx hb dX4_greaterBefore_27 rfl (lv_at hl 0 rfl) ?_
    have er := Option.some.inj hf
    exact rtI hx hb hr hS dX4_greaterBefore_28 er hlocks
  exact go s.heap [] hP hS
noncomputable def L_X4_inversions_4 (r_lesser : Nat → Int32) (r_length : Int32) : Nat → Int32 → Int32 → Option (Int32)
  | 0, _, _ => none
  | n + 1, v1, v2 => if r_length ≤ v2 then (some (v1)) else ((f_X4_greaterBefore r_lesser r_length v2).bind (fun z2 => (some (v2 + 1 : Int32)).bind (fun y3 => L_X4_inversions_4 r_lesser r_length n (v1 + z2) y3)))
noncomputable def f_X4_inversions (r_lesser : Nat → Int32) (r_length : Int32) : Option (Int32) := (L_X4_inversions_4 r_lesser r_length 4000 0 0).bind (fun z4 => some (z4))
set_option maxHeartbeats 4000000 in
set_option maxRecDepth 100000 in
theorem c_X4_inversions (l : Launch) (D : va_G) (cI cJ cZ cQ : ClassId) (bs sz : Nat) (r : Nat → Nat) (r_length : Int32) (r_lesser : Nat → Int32) (zr : Int32) (hf : f_X4_inversions r_lesser r_length = some zr) : Met l yX4_inversions wsX4_inversions { frames := 4, cells := 0, slots := 0, locals := 87 } (va_Pc [.ref (r 0)] (Pr D cI cJ cZ cQ bs sz [oX4 r r_length, aI cI (r 1) 12 r_lesser])) (QrI zr) 0 0 no := by
  refine stM (cc := cX4_inversions) (maxL := 3) (ret := (some .int)) (by decide +kernel) rfl (Nat.le_of_ble_eq_true rfl) ?_
  intro p e s m args below meth c C0 hr hlocks hname hsz hP hDb hE ls hl
  have hAb : ∀ q, no q → bs ≤ q := fun _ h => h.elim
  obtain ⟨hx, hb, hml, hown, hts⟩ := id C0
  have hown : s.vm.findClass RX4 = some m.cls := hown
  obtain ⟨hK, hNW, -, tw, hZ, hT⟩ := id hE
  have hl : lv_has ls 3 [(0, .ref (r 0))] := hl
  have hS : va_S no s.heap s.heap [] := va_S.rf
  have hI_X4 := (show ∀ w ∈ wsX40, w ∈ wsX4_inversions by decide +kernel)
  have gf36 := hts (.fieldLink RX4 36 "RowRanks$Ranking" "length" "I") (by decide +kernel)
  have W4 : ∀ (n : Nat) (v1 : Int32) (v2 : Int32) (H : Heap) (locs : List Loc) (ls : Array Slot) (z : Int32), va_P D vwCl [oX4 r r_length, aI cI (r 1) 12 r_lesser] H → va_S no s.heap H locs → lv_has ls 3 [(0, .ref (r 0)), (1, .int v1), (2, .int v2)] → L_X4_inversions_4 r_lesser r_length n v1 v2 = some z → (∀ (H : Heap) (locs : List Loc) (ls : Array Slot), va_P D vwCl [oX4 r r_length, aI cI (r 1) 12 r_lesser] H → va_S no s.heap H locs → lv_has ls 3 [(1, .int z)] → W p l e { frames := 4, cells := 0, slots := 0, locals := 87 } s m args below meth c H locs 0 0 (MQ below (QrI zr) args s 0 0 no) (F0 m 26 ls [])) → W p l e { frames := 4, cells := 0, slots := 0, locals := 87 } s m args below meth c H locs 0 0 (MQ below (QrI zr) args s 0 0 no) (F0 m 4 ls []) := by
    intro n
    induction n with
    | zero =>
      intro v1 v2 H locs ls z hP hS hl hf
      exact absurd (show (none : Option (Int32)) = some z from hf) (fun h => by cases h)
    | succ n ih =>
      intro v1 v2 H locs ls z hP hS hl hf K
      rw [L_X4_inversions_4] at hf
      refine lv_iload_n hx hb dX4_inversions_4 rfl (lv_at hl 2 rfl) ?_
      refine lv_aload_n hx hb dX4_inversions_5 rfl (lv_at hl 0 rfl) ?_
      refine va_get (D := D) (ci := 4) (v := .int r_length) (C := RX4) (T := TX4) (N := 5) hx hb hts hI_X4 hown hK hP 0 rfl rfl 4 (by decide) gf36 (fun _ h9 => h9) rfl dX4_inversions_6 ?_
      refine lv_icmp_ge (tgt := 26) hx hb dX4_inversions_9 (by decide) (fun c1 => ?_) (fun c1 => ?_)
      · replace hf := oif c1 hf
        have hf := Option.some.inj hf
        subst hf
        exact K H locs ls hP hS (lv_sub hl [1] rfl)
      · replace hf := oel c1 hf
        refine lv_iload_n hx hb dX4_inversions_12 rfl (lv_at hl 1 rfl) ?_
        refine lv_aload_n hx hb dX4_inversions_13 rfl (lv_at hl 0 rfl) ?_
        refine lv_iload_n hx hb dX4_inversions_14 rfl (lv_at hl 2 rfl) ?_
        obtain ⟨z2, hz2, hf⟩ := obd hf
        refine kI (runV (As := [.int v2]) (rest := [.int v1]) C0 hE hAb hP (hDb.addr rfl) hS [0, 1] (wc := [oX4 r r_length, aI cI (r 1) 12 r_lesser]) (by decide) rfl 0 rfl rfl (c_X4_greaterBefore l D cI cJ cZ cQ bs H.size r r_length r_lesser v2 z2 hz2) (cwV 1 hts gX4_inversions_X4_greaterBefore rfl rfl rfl (by decide +kernel) ⟨Nat.le_of_ble_eq_true rfl, Nat.le_of_ble_eq_true rfl⟩) rfl hl.1 rfl (Nat.le_of_ble_eq_true rfl) dX4_inversions_15 ⟨Nat.le_of_ble_eq_true rfl, Nat.le_of_ble_eq_true rfl⟩) hS hP (fun H locs hP hS => ?_)
        refine lv_iadd hx hb dX4_inversions_18 ?_
        refine lv_istore_n (lv' := [(1, .int (v1 + z2)), (0, .ref (r 0)), (2, .int v2)]) hx hb dX4_inversions_19 rfl hl (by decide) rfl (fun ls hl => ?_)
        obtain ⟨y3, ey3⟩ : ∃ y : Int32, y = v2 + 1 := ⟨_, rfl⟩
        replace hf := onm ey3 hf
        refine lv_iinc (v := y3) (lv' := [(2, .int y3), (1, .int (v1 + z2)), (0, .ref (r 0))]) hx hb dX4_inversions_20 hl (k := 2) rfl (by rw [ey3]; rfl) (by decide) rfl (fun ls hl => ?_)
        refine lv_goto (tgt := 4) hx hb dX4_inversions_23 (by decide) ?_
        exact ih (v1 + z2) y3 H locs ls z hP hS (lv_sub hl [2, 1, 0] rfl) hf K
  unfold f_X4_inversions at hf
  have go : ∀ (H : Heap) (locs : List Loc), va_P D vwCl [oX4 r r_length, aI cI (r 1) 12 r_lesser] H → va_S no s.heap H locs → W p l e { frames := 4, cells := 0, slots := 0, locals := 87 } s m args below meth c H locs 0 0 (MQ below (QrI zr) args s 0 0 no) (F0 m 0 ls []) := by
    intro H locs hP hS
    refine lv_iconst (v := 0) hx hb dX4_inversions_0 (by decide) ?_
    refine lv_istore_n (lv' := [(1, .int 0), (0, .ref (r 0))]) hx hb dX4_inversions_1 rfl hl (by decide) rfl (fun ls hl => ?_)
    refine lv_iconst (v := 0) hx hb dX4_inversions_2 (by decide) ?_
    refine lv_istore_n (lv' := [(2, .int 0), (1, .int 0), (0, .ref (r 0))]) hx hb dX4_inversions_3 rfl hl (by decide) rfl (fun ls hl => ?_)
    obtain ⟨z4, hz4, hf⟩ := obd hf
    refine W4 4000 0 0 H locs ls z4 hP hS (lv_sub hl [2, 1, 0] rfl) hz4 (fun H locs ls hP hS hl => ?_)
    refine lv_iload_n hx hb dX4_inversions_26 rfl (lv_at hl 0 rfl) ?_
    have er := Option.some.inj hf
    exact rtI hx hb hr hS dX4_inversions_27 er hlocks
  exact go s.heap [] hP hS
noncomputable def L_X4_sections_15 (r_lesser : Nat → Int32) (r_length : Int32) : Nat → Int32 → Int32 → Option (Int32)
  | 0, _, _ => none
  | n + 1, v1, v2 => if r_length ≤ v2 then (some (v1)) else ((f_X4_compareByRank r_lesser r_length v2 (v2 - 1)).bind (fun z3 => if 0 ≤ z3 then ((some (v2 + 1 : Int32)).bind (fun y5 => L_X4_sections_15 r_lesser r_length n v1 y5)) else ((some (v1 + 1 : Int32)).bind (fun y6 => (some (v2 + 1 : Int32)).bind (fun y7 => L_X4_sections_15 r_lesser r_length n y6 y7)))))
noncomputable def f_X4_sections (r_lesser : Nat → Int32) (r_length : Int32) : Option (Int32) := if r_length ≤ 0 then ((L_X4_sections_15 r_lesser r_length 4000 0 1).bind (fun z8 => some (z8))) else ((L_X4_sections_15 r_lesser r_length 4000 1 1).bind (fun z9 => some (z9)))
set_option maxHeartbeats 4000000 in
set_option maxRecDepth 100000 in
theorem c_X4_sections (l : Launch) (D : va_G) (cI cJ cZ cQ : ClassId) (bs sz : Nat) (r : Nat → Nat) (r_length : Int32) (r_lesser : Nat → Int32) (zr : Int32) (hf : f_X4_sections r_lesser r_length = some zr) : Met l yX4_sections wsX4_sections { frames := 3, cells := 0, slots := 0, locals := 64 } (va_Pc [.ref (r 0)] (Pr D cI cJ cZ cQ bs sz [oX4 r r_length, aI cI (r 1) 12 r_lesser])) (QrI zr) 0 0 no := by
  refine stM (cc := cX4_sections) (maxL := 3) (ret := (some .int)) (by decide +kernel) rfl (Nat.le_of_ble_eq_true rfl) ?_
  intro p e s m args below meth c C0 hr hlocks hname hsz hP hDb hE ls hl
  have hAb : ∀ q, no q → bs ≤ q := fun _ h => h.elim
  obtain ⟨hx, hb, hml, hown, hts⟩ := id C0
  have hown : s.vm.findClass RX4 = some m.cls := hown
  obtain ⟨hK, hNW, -, tw, hZ, hT⟩ := id hE
  have hl : lv_has ls 3 [(0, .ref (r 0))] := hl
  have hS : va_S no s.heap s.heap [] := va_S.rf
  have hI_X4 := (show ∀ w ∈ wsX40, w ∈ wsX4_sections by decide +kernel)
  have gf36 := hts (.fieldLink RX4 36 "RowRanks$Ranking" "length" "I") (by decide +kernel)
  have W15 : ∀ (n : Nat) (v1 : Int32) (v2 : Int32) (H : Heap) (locs : List Loc) (ls : Array Slot) (z : Int32), va_P D vwCl [oX4 r r_length, aI cI (r 1) 12 r_lesser] H → va_S no s.heap H locs → lv_has ls 3 [(0, .ref (r 0)), (1, .int v1), (2, .int v2)] → L_X4_sections_15 r_lesser r_length n v1 v2 = some z → (∀ (H : Heap) (locs : List Loc) (ls : Array Slot), va_P D vwCl [oX4 r r_length, aI cI (r 1) 12 r_lesser] H → va_S no s.heap H locs → lv_has ls 3 [(1, .int z)] → W p l e { frames := 3, cells := 0, slots := 0, locals := 64 } s m args below meth c H locs 0 0 (MQ below (QrI zr) args s 0 0 no) (F0 m 43 ls [])) → W p l e { frames := 3, cells := 0, slots := 0, locals := 64 } s m args below meth c H locs 0 0 (MQ below (QrI zr) args s 0 0 no) (F0 m 15 ls []) := by
    intro n
    induction n with
    | zero =>
      intro v1 v2 H locs ls z hP hS hl hf
      exact absurd (show (none : Option (Int32)) = some z from hf) (fun h => by cases h)
    | succ n ih =>
      intro v1 v2 H locs ls z hP hS hl hf K
      rw [L_X4_sections_15] at hf
      refine lv_iload_n hx hb dX4_sections_15 rfl (lv_at hl 2 rfl) ?_
      refine lv_aload_n hx hb dX4_sections_16 rfl (lv_at hl 0 rfl) ?_
      refine va_get (D := D) (ci := 4) (v := .int r_length) (C := RX4) (T := TX4) (N := 5) hx hb hts hI_X4 hown hK hP 0 rfl rfl 4 (by decide) gf36 (fun _ h9 => h9) rfl dX4_sections_17 ?_
      refine lv_icmp_ge (tgt := 43) hx hb dX4_sections_20 (by decide) (fun c2 => ?_) (fun c2 => ?_)
      · replace hf := oif c2 hf
        have hf := Option.some.inj hf
        subst hf
        exact K H locs ls hP hS (lv_sub hl [1] rfl)
      · replace hf := oel c2 hf
        refine lv_aload_n hx hb dX4_sections_23 rfl (lv_at hl 0 rfl) ?_
        refine lv_iload_n hx hb dX4_sections_24 rfl (lv_at hl 2 rfl) ?_
        refine lv_iload_n hx hb dX4_sections_25 rfl (lv_at hl 2 rfl) ?_
        refine lv_iconst (v := 1) hx hb dX4_sections_26 (by decide) ?_
        refine lv_isub hx hb dX4_sections_27 ?_
        obtain ⟨z3, hz3, hf⟩ := obd hf
        refine kI (runV (As := [.int v2, .int (v2 - 1)]) (rest := []) C0 hE hAb hP (hDb.addr rfl) hS [0, 1] (wc := [oX4 r r_length, aI cI (r 1) 12 r_lesser]) (by decide) rfl 0 rfl rfl (c_X4_compareByRank l D cI cJ cZ cQ bs H.size r r_length r_lesser v2 (v2 - 1) z3 hz3) (cwV 2 hts gX4_sections_X4_compareByRank rfl rfl rfl (by decide +kernel) ⟨Nat.le_of_ble_eq_true rfl, Nat.le_of_ble_eq_true rfl⟩) rfl hl.1 rfl (Nat.le_of_ble_eq_true rfl) dX4_sections_28 ⟨Nat.le_of_ble_eq_true rfl, Nat.le_of_ble_eq_true rfl⟩) hS hP (fun H locs hP hS => ?_)
        refine lv_if_ge (tgt := 37) hx hb dX4_sections_31 (by decide) (fun c4 => ?_) (fun c4 => ?_)
        · replace hf := oif c4 hf
          obtain ⟨y5, ey5⟩ : ∃ y : Int32, y = v2 + 1 := ⟨_, rfl⟩
          replace hf := onm ey5 hf
          refine lv_iinc (v := y5) (lv' := [(2, .int y5), (0, .ref (r 0)), (1, .int v1)]) hx hb dX4_sections_37 hl (k := 2) rfl (by rw [ey5]; rfl) (by decide) rfl (fun ls hl => ?_)
          refine lv_goto (tgt := 15) hx hb dX4_sections_40 (by decide) ?_
          exact ih v1 y5 H locs ls z hP hS (lv_sub hl [1, 2, 0] rfl) hf K
        · replace hf := oel c4 hf
          obtain ⟨y6, ey6⟩ : ∃ y : Int32, y = v1 + 1 := ⟨_, rfl⟩
          replace hf := onm ey6 hf
          refine lv_iinc (v := y6) (lv' := [(1, .int y6), (0, .ref (r 0)), (2, .int v2)]) hx hb dX4_sections_34 hl (k := 1) rfl (by rw [ey6]; rfl) (by decide) rfl (fun ls hl => ?_)
          obtain ⟨y7, ey7⟩ : ∃ y : Int32, y = v2 + 1 := ⟨_, rfl⟩
          replace hf := onm ey7 hf
          refine lv_iinc (v := y7) (lv' := [(2, .int y7), (1, .int y6), (0, .ref (r 0))]) hx hb dX4_sections_37 hl (k := 2) rfl (by rw [ey7]; rfl) (by decide) rfl (fun ls hl => ?_)
          refine lv_goto (tgt := 15) hx hb dX4_sections_40 (by decide) ?_
          exact ih y6 y7 H locs ls z hP hS (lv_sub hl [2, 1, 0] rfl) hf K
  unfold f_X4_sections at hf
  have go : ∀ (H : Heap) (locs : List Loc), va_P D vwCl [oX4 r r_length, aI cI (r 1) 12 r_lesser] H → va_S no s.heap H locs → W p l e { frames := 3, cells := 0, slots := 0, locals := 64 } s m args below meth c H locs 0 0 (MQ below (QrI zr) args s 0 0 no) (F0 m 0 ls []) := by
    intro H locs hP hS
    refine lv_aload_n hx hb dX4_sections_0 rfl (lv_at hl 0 rfl) ?_
    refine va_get (D := D) (ci := 4) (v := .int r_length) (C := RX4) (T := TX4) (N := 5) hx hb hts hI_X4 hown hK hP 0 rfl rfl 4 (by decide) gf36 (fun _ h9 => h9) rfl dX4_sections_1 ?_
    refine lv_if_le (tgt := 11) hx hb dX4_sections_4 (by decide) (fun c1 => ?_) (fun c1 => ?_)
    · replace hf := oif c1 hf
      refine lv_iconst (v := 0) hx hb dX4_sections_11 (by decide) ?_
      refine lv_istore_n (lv' := [(1, .int 0), (0, .ref (r 0))]) hx hb dX4_sections_12 rfl hl (by decide) rfl (fun ls hl => ?_)
      refine lv_iconst (v := 1) hx hb dX4_sections_13 (by decide) ?_
      refine lv_istore_n (lv' := [(2, .int 1), (1, .int 0), (0, .ref (r 0))]) hx hb dX4_sections_14 rfl hl (by decide) rfl (fun ls hl => ?_)
      obtain ⟨z8, hz8, hf⟩ := obd hf
      refine W15 4000 0 1 H locs ls z8 hP hS (lv_sub hl [2, 1, 0] rfl) hz8 (fun H locs ls hP hS hl => ?_)
      refine lv_iload_n hx hb dX4_sections_43 rfl (lv_at hl 0 rfl) ?_
      have er := Option.some.inj hf
      exact rtI hx hb hr hS dX4_sections_44 er hlocks
    · replace hf := oel c1 hf
      refine lv_iconst (v := 1) hx hb dX4_sections_7 (by decide) ?_
      refine lv_goto (tgt := 12) hx hb dX4_sections_8 (by decide) ?_
      refine lv_istore_n (lv' := [(1, .int 1), (0, .ref (r 0))]) hx hb dX4_sections_12 rfl hl (by decide) rfl (fun ls hl => ?_)
      refine lv_iconst (v := 1) hx hb dX4_sections_13 (by decide) ?_
      refine lv_istore_n (lv' := [(2, .int 1), (1, .int 1), (0, .ref (r 0))]) hx hb dX4_sections_14 rfl hl (by decide) rfl (fun ls hl => ?_)
      obtain ⟨z9, hz9, hf⟩ := obd hf
      refine W15 4000 1 1 H locs ls z9 hP hS (lv_sub hl [2, 1, 0] rfl) hz9 (fun H locs ls hP hS hl => ?_)
      refine lv_iload_n hx hb dX4_sections_43 rfl (lv_at hl 0 rfl) ?_
      have er := Option.some.inj hf
      exact rtI hx hb hr hS dX4_sections_44 er hlocks
  exact go s.heap [] hP hS
noncomputable def L_X4_longestSorted_27 (r_lesser : Nat → Int32) (r_length : Int32) (v2 : Int32) : Nat → Int32 → (Nat → Int32) → Option ((Nat → Int32))
  | 0, _, _ => none
  | n + 1, v3, r_longest => if v2 ≤ v3 then (some (r_longest)) else ((f_X4_compareByRank r_lesser r_length v2 v3).bind (fun z5 => if z5 < 0 then ((some (v3 + 1 : Int32)).bind (fun y7 => L_X4_longestSorted_27 r_lesser r_length v2 n y7 r_longest)) else (if ib v2 12 = true then (if ib v3 12 = true then (if ib v2 12 = true then ((some (upd r_longest v2.toNatClampNeg (if (r_longest v2.toNatClampNeg) < ((r_longest v3.toNatClampNeg) + 1) then ((r_longest v3.toNatClampNeg) + 1) else (r_longest v2.toNatClampNeg)) : Nat → Int32)).bind (fun h10a => (some (v3 + 1 : Int32)).bind (fun y11 => L_X4_longestSorted_27 r_lesser r_length v2 n y11 h10a))) else none) else none) else none)))
noncomputable def L_X4_longestSorted_4 (r_lesser : Nat → Int32) (r_length : Int32) : Nat → Int32 → Int32 → (Nat → Int32) → Option (Int32 × (Nat → Int32))
  | 0, _, _, _ => none
  | n + 1, v1, v2, r_longest => if r_length ≤ v2 then (some ((v1, r_longest))) else (if 12 ≤ v2 then (some ((v1, r_longest))) else (if ib v2 12 = true then ((some (upd r_longest v2.toNatClampNeg 1 : Nat → Int32)).bind (fun h3a => (L_X4_longestSorted_27 r_lesser r_length v2 4000 0 h3a).bind (fun z12 => if ib v2 12 = true then ((some ((if v1 < (z12 v2.toNatClampNeg) then (z12 v2.toNatClampNeg) else v1) : Int32)).bind (fun y14 => (some (v2 + 1 : Int32)).bind (fun y15 => L_X4_longestSorted_4 r_lesser r_length n y14 y15 z12))) else none))) else none))
noncomputable def f_X4_longestSorted (r_lesser : Nat → Int32) (r_longest : Nat → Int32) (r_length : Int32) : Option (Int32 × (Nat → Int32)) := (L_X4_longestSorted_4 r_lesser r_length 4000 0 0 r_longest).bind (fun z16 => some ((z16.1, z16.2)))
set_option maxHeartbeats 4000000 in
set_option maxRecDepth 100000 in
theorem c_X4_longestSorted (l : Launch) (D : va_G) (cI cJ cZ cQ : ClassId) (bs sz : Nat) (r : Nat → Nat) (r_length : Int32) (r_lesser : Nat → Int32) (r_longest : Nat → Int32) (zr : Int32 × (Nat → Int32)) (hf : f_X4_longestSorted r_lesser r_longest r_length = some zr) : Met l yX4_longestSorted wsX4_longestSorted { frames := 3, cells := 0, slots := 0, locals := 64 } (va_Pc [.ref (r 0)] (Pr D cI cJ cZ cQ bs sz [oX4 r r_length, aI cI (r 1) 12 r_lesser, aI cI (r 4) 12 r_longest])) (QwI D zr (fun u => [oX4 r r_length, aI cI (r 1) 12 r_lesser, aI cI (r 4) 12 u]) (va_A [oX4 r r_length, aI cI (r 1) 12 r_lesser, aI cI (r 4) 12 r_longest] sz)) 0 0 (va_A [oX4 r r_length, aI cI (r 1) 12 r_lesser, aI cI (r 4) 12 r_longest] sz) := by
  refine stW (cc := cX4_longestSorted) (maxL := 4) (ret := (some .int)) (Qf := fun A => (QwI D zr (fun u => [oX4 r r_length, aI cI (r 1) 12 r_lesser, aI cI (r 4) 12 u]) A)) (by decide +kernel) rfl (Nat.le_of_ble_eq_true rfl) ?_
  intro p e s m args below meth c A C0 hr hlocks hname hsz hP hD hA hAb hE ls hl
  obtain ⟨hx, hb, hml, hown, hts⟩ := id C0
  have hown : s.vm.findClass RX4 = some m.cls := hown
  obtain ⟨hK, hNW, -, tw, hZ, hT⟩ := id hE
  have hl : lv_has ls 4 [(0, .ref (r 0))] := hl
  have hS : va_S A s.heap s.heap [] := va_S.rf
  have hI_X4 := (show ∀ w ∈ wsX40, w ∈ wsX4_longestSorted by decide +kernel)
  have gf36 := hts (.fieldLink RX4 36 "RowRanks$Ranking" "length" "I") (by decide +kernel)
  have gf21 := hts (.fieldLink RX4 21 "RowRanks$Ranking" "longest" "[I") (by decide +kernel)
  have gl68 := hts (.methodLink RX4 68 Lib.Math.max.name) (by decide +kernel)
  have gmmax2 := hts (.static Lib.Math.max.name) (by decide +kernel)
  have gmI := hts (.initialized "java/lang/Math") (by decide +kernel)
  have gmmax4 := hts (.code Lib.Math.max.name Lib.Math.max.code 2 (some .int)) (by decide +kernel)
  have W27 : ∀ (n : Nat) (v1 : Int32) (v2 : Int32) (v3 : Int32) (r_longest : Nat → Int32) (H : Heap) (locs : List Loc) (ls : Array Slot) (z : (Nat → Int32)), va_P D vwCl [oX4 r r_length, aI cI (r 1) 12 r_lesser, aI cI (r 4) 12 r_longest] H → va_S A s.heap H locs → lv_has ls 4 [(0, .ref (r 0)), (1, .int v1), (2, .int v2), (3, .int v3)] → L_X4_longestSorted_27 r_lesser r_length v2 n v3 r_longest = some z → (∀ (H : Heap) (locs : List Loc) (ls : Array Slot), va_P D vwCl [oX4 r r_length, aI cI (r 1) 12 r_lesser, aI cI (r 4) 12 z] H → va_S A s.heap H locs → lv_has ls 4 [(0, .ref (r 0)), (1, .int v1), (2, .int v2)] → W p l e { frames := 3, cells := 0, slots := 0, locals := 64 } s m args below meth c H locs 0 0 (MQ below (QwI D zr (fun u => [oX4 r r_length, aI cI (r 1) 12 r_lesser, aI cI (r 4) 12 u]) A) args s 0 0 A) (F0 m 70 ls [])) → W p l e { frames := 3, cells := 0, slots := 0, locals := 64 } s m args below meth c H locs 0 0 (MQ below (QwI D zr (fun u => [oX4 r r_length, aI cI (r 1) 12 r_lesser, aI cI (r 4) 12 u]) A) args s 0 0 A) (F0 m 27 ls []) := by
    intro n
    induction n with
    | zero =>
      intro v1 v2 v3 r_longest H locs ls z hP hS hl hf
      exact absurd (show (none : Option ((Nat → Int32))) = some z from hf) (fun h => by cases h)
    | succ n ih =>
      intro v1 v2 v3 r_longest H locs ls z hP hS hl hf K
      rw [L_X4_longestSorted_27] at hf
      refine lv_iload_n hx hb dX4_longestSorted_27 rfl (lv_at hl 3 rfl) ?_
      refine lv_iload_n hx hb dX4_longestSorted_28 rfl (lv_at hl 2 rfl) ?_
      refine lv_icmp_ge (tgt := 70) hx hb dX4_longestSorted_29 (by decide) (fun c4 => ?_) (fun c4 => ?_)
      · replace hf := oif c4 hf
        have hf := Option.some.inj hf
        subst hf
        exact K H locs ls hP hS (lv_sub hl [0, 1, 2] rfl)
      · replace hf := oel c4 hf
        refine lv_aload_n hx hb dX4_longestSorted_32 rfl (lv_at hl 0 rfl) ?_
        refine lv_iload_n hx hb dX4_longestSorted_33 rfl (lv_at hl 2 rfl) ?_
        refine lv_iload_n hx hb dX4_longestSorted_34 rfl (lv_at hl 3 rfl) ?_
        obtain ⟨z5, hz5, hf⟩ := obd hf
        refine kI (runV (As := [.int v2, .int v3]) (rest := []) C0 hE hAb hP ((hD.weaken (fun _ _ _ h9 => hAb _ h9)).addr rfl) hS [0, 1] (wc := [oX4 r r_length, aI cI (r 1) 12 r_lesser]) (by decide) rfl 0 rfl rfl (c_X4_compareByRank l D cI cJ cZ cQ bs H.size r r_length r_lesser v2 v3 z5 hz5) (cwV 2 hts gX4_longestSorted_X4_compareByRank rfl rfl rfl (by decide +kernel) ⟨Nat.le_of_ble_eq_true rfl, Nat.le_of_ble_eq_true rfl⟩) rfl hl.1 rfl (Nat.le_of_ble_eq_true rfl) dX4_longestSorted_35 ⟨Nat.le_of_ble_eq_true rfl, Nat.le_of_ble_eq_true rfl⟩) hS hP (fun H locs hP hS => ?_)
        refine lv_if_lt (tgt := 64) hx hb dX4_longestSorted_38 (by decide) (fun c6 => ?_) (fun c6 => ?_)
        · replace hf := oif c6 hf
          obtain ⟨y7, ey7⟩ : ∃ y : Int32, y = v3 + 1 := ⟨_, rfl⟩
          replace hf := onm ey7 hf
          refine lv_iinc (v := y7) (lv' := [(3, .int y7), (0, .ref (r 0)), (1, .int v1), (2, .int v2)]) hx hb dX4_longestSorted_64 hl (k := 3) rfl (by rw [ey7]; rfl) (by decide) rfl (fun ls hl => ?_)
          refine lv_goto (tgt := 27) hx hb dX4_longestSorted_67 (by decide) ?_
          exact ih v1 v2 y7 r_longest H locs ls z hP hS (lv_sub hl [1, 2, 3, 0] rfl) hf K
        · replace hf := oel c6 hf
          refine lv_aload_n hx hb dX4_longestSorted_41 rfl (lv_at hl 0 rfl) ?_
          refine va_get (D := D) (ci := 4) (v := .ref (r 4)) (C := RX4) (T := TX4) (N := 5) hx hb hts hI_X4 hown hK hP 0 rfl rfl 3 (by decide) gf21 (fun _ h9 => h9) rfl dX4_longestSorted_42 ?_
          refine lv_iload_n hx hb dX4_longestSorted_45 rfl (lv_at hl 2 rfl) ?_
          refine lv_aload_n hx hb dX4_longestSorted_46 rfl (lv_at hl 0 rfl) ?_
          refine va_get (D := D) (ci := 4) (v := .ref (r 4)) (C := RX4) (T := TX4) (N := 5) hx hb hts hI_X4 hown hK hP 0 rfl rfl 3 (by decide) gf21 (fun _ h9 => h9) rfl dX4_longestSorted_47 ?_
          refine lv_iload_n hx hb dX4_longestSorted_50 rfl (lv_at hl 2 rfl) ?_
          obtain ⟨h8, hf⟩ := ogd hf
          refine va_iald hx hb hK hP 2 0 rfl rfl (ib_in h8) dX4_longestSorted_51 ?_
          refine lv_aload_n hx hb dX4_longestSorted_52 rfl (lv_at hl 0 rfl) ?_
          refine va_get (D := D) (ci := 4) (v := .ref (r 4)) (C := RX4) (T := TX4) (N := 5) hx hb hts hI_X4 hown hK hP 0 rfl rfl 3 (by decide) gf21 (fun _ h9 => h9) rfl dX4_longestSorted_53 ?_
          refine lv_iload_n hx hb dX4_longestSorted_56 rfl (lv_at hl 3 rfl) ?_
          obtain ⟨h9, hf⟩ := ogd hf
          refine va_iald hx hb hK hP 2 0 rfl rfl (ib_in h9) dX4_longestSorted_57 ?_
          refine lv_iconst (v := 1) hx hb dX4_longestSorted_58 (by decide) ?_
          refine lv_iadd hx hb dX4_longestSorted_59 ?_
          refine va_mmax hx hb (hml.trans hl.1.symm) hown gl68 gmmax2 gmI gmmax4 (Nat.le_of_ble_eq_true rfl) (Nat.le_of_ble_eq_true rfl) (Nat.zero_le _) (Nat.zero_le _) dX4_longestSorted_60 ?_
          obtain ⟨h10, hf⟩ := ogd hf
          refine va_iast hx hb hK hP (hD.addr rfl) hS 2 0 rfl rfl (ib_in h10) dX4_longestSorted_63 (fun H locs hP _ hS => ?_)
          obtain ⟨h10a, eh10a⟩ : ∃ y : Nat → Int32, y = upd r_longest v2.toNatClampNeg (if (r_longest v2.toNatClampNeg) < ((r_longest v3.toNatClampNeg) + 1) then ((r_longest v3.toNatClampNeg) + 1) else (r_longest v2.toNatClampNeg)) := ⟨_, rfl⟩
          replace hf := onm eh10a hf
          have hP : va_P D vwCl [oX4 r r_length, aI cI (r 1) 12 r_lesser, aI cI (r 4) 12 h10a] H := by rw [eh10a]; exact hP
          obtain ⟨y11, ey11⟩ : ∃ y : Int32, y = v3 + 1 := ⟨_, rfl⟩
          replace hf := onm ey11 hf
          refine lv_iinc (v := y11) (lv' := [(3, .int y11), (0, .ref (r 0)), (1, .int v1), (2, .int v2)]) hx hb dX4_longestSorted_64 hl (k := 3) rfl (by rw [ey11]; rfl) (by decide) rfl (fun ls hl => ?_)
          refine lv_goto (tgt := 27) hx hb dX4_longestSorted_67 (by decide) ?_
          exact ih v1 v2 y11 h10a H locs ls z hP hS (lv_sub hl [1, 2, 3, 0] rfl) hf K
  have W4 : ∀ (n : Nat) (v1 : Int32) (v2 : Int32) (r_longest : Nat → Int32) (H : Heap) (locs : List Loc) (ls : Array Slot) (z : Int32 × (Nat → Int32)), va_P D vwCl [oX4 r r_length, aI cI (r 1) 12 r_lesser, aI cI (r 4) 12 r_longest] H → va_S A s.heap H locs → lv_has ls 4 [(0, .ref (r 0)), (1, .int v1), (2, .int v2)] → L_X4_longestSorted_4 r_lesser r_length n v1 v2 r_longest = some z → (∀ (H : Heap) (locs : List Loc) (ls : Array Slot), va_P D vwCl [oX4 r r_length, aI cI (r 1) 12 r_lesser, aI cI (r 4) 12 z.2] H → va_S A s.heap H locs → lv_has ls 4 [(1, .int z.1)] → W p l e { frames := 3, cells := 0, slots := 0, locals := 64 } s m args below meth c H locs 0 0 (MQ below (QwI D zr (fun u => [oX4 r r_length, aI cI (r 1) 12 r_lesser, aI cI (r 4) 12 u]) A) args s 0 0 A) (F0 m 87 ls [])) → W p l e { frames := 3, cells := 0, slots := 0, locals := 64 } s m args below meth c H locs 0 0 (MQ below (QwI D zr (fun u => [oX4 r r_length, aI cI (r 1) 12 r_lesser, aI cI (r 4) 12 u]) A) args s 0 0 A) (F0 m 4 ls []) := by
    intro n
    induction n with
    | zero =>
      intro v1 v2 r_longest H locs ls z hP hS hl hf
      exact absurd (show (none : Option (Int32 × (Nat → Int32))) = some z from hf) (fun h => by cases h)
    | succ n ih =>
      intro v1 v2 r_longest H locs ls z hP hS hl hf K
      rw [L_X4_longestSorted_4] at hf
      refine lv_iload_n hx hb dX4_longestSorted_4 rfl (lv_at hl 2 rfl) ?_
      refine lv_aload_n hx hb dX4_longestSorted_5 rfl (lv_at hl 0 rfl) ?_
      refine va_get (D := D) (ci := 4) (v := .int r_length) (C := RX4) (T := TX4) (N := 5) hx hb hts hI_X4 hown hK hP 0 rfl rfl 4 (by decide) gf36 (fun _ h9 => h9) rfl dX4_longestSorted_6 ?_
      refine lv_icmp_ge (tgt := 87) hx hb dX4_longestSorted_9 (by decide) (fun c1 => ?_) (fun c1 => ?_)
      · replace hf := oif c1 hf
        have hf := Option.some.inj hf
        subst hf
        exact K H locs ls hP hS (lv_sub hl [1] rfl)
      · replace hf := oel c1 hf
        refine lv_iload_n hx hb dX4_longestSorted_12 rfl (lv_at hl 2 rfl) ?_
        refine lv_bipush (v := 12) hx hb dX4_longestSorted_13 (by decide) ?_
        refine lv_icmp_ge (tgt := 87) hx hb dX4_longestSorted_15 (by decide) (fun c2 => ?_) (fun c2 => ?_)
        · replace hf := oif c2 hf
          have hf := Option.some.inj hf
          subst hf
          exact K H locs ls hP hS (lv_sub hl [1] rfl)
        · replace hf := oel c2 hf
          refine lv_aload_n hx hb dX4_longestSorted_18 rfl (lv_at hl 0 rfl) ?_
          refine va_get (D := D) (ci := 4) (v := .ref (r 4)) (C := RX4) (T := TX4) (N := 5) hx hb hts hI_X4 hown hK hP 0 rfl rfl 3 (by decide) gf21 (fun _ h9 => h9) rfl dX4_longestSorted_19 ?_
          refine lv_iload_n hx hb dX4_longestSorted_22 rfl (lv_at hl 2 rfl) ?_
          refine lv_iconst (v := 1) hx hb dX4_longestSorted_23 (by decide) ?_
          obtain ⟨h3, hf⟩ := ogd hf
          refine va_iast hx hb hK hP (hD.addr rfl) hS 2 0 rfl rfl (ib_in h3) dX4_longestSorted_24 (fun H locs hP _ hS => ?_)
          obtain ⟨h3a, eh3a⟩ : ∃ y : Nat → Int32, y = upd r_longest v2.toNatClampNeg 1 := ⟨_, rfl⟩
          replace hf := onm eh3a hf
          have hP : va_P D vwCl [oX4 r r_length, aI cI (r 1) 12 r_lesser, aI cI (r 4) 12 h3a] H := by rw [eh3a]; exact hP
          refine lv_iconst (v := 0) hx hb dX4_longestSorted_25 (by decide) ?_
          refine lv_istore_n (lv' := [(3, .int 0), (0, .ref (r 0)), (1, .int v1), (2, .int v2)]) hx hb dX4_longestSorted_26 rfl hl (by decide) rfl (fun ls hl => ?_)
          obtain ⟨z12, hz12, hf⟩ := obd hf
          refine W27 4000 v1 v2 0 h3a H locs ls z12 hP hS (lv_sub hl [1, 2, 3, 0] rfl) hz12 (fun H locs ls hP hS hl => ?_)
          refine lv_iload_n hx hb dX4_longestSorted_70 rfl (lv_at hl 1 rfl) ?_
          refine lv_aload_n hx hb dX4_longestSorted_71 rfl (lv_at hl 0 rfl) ?_
          refine va_get (D := D) (ci := 4) (v := .ref (r 4)) (C := RX4) (T := TX4) (N := 5) hx hb hts hI_X4 hown hK hP 0 rfl rfl 3 (by decide) gf21 (fun _ h9 => h9) rfl dX4_longestSorted_72 ?_
          refine lv_iload_n hx hb dX4_longestSorted_75 rfl (lv_at hl 2 rfl) ?_
          obtain ⟨h13, hf⟩ := ogd hf
          refine va_iald hx hb hK hP 2 0 rfl rfl (ib_in h13) dX4_longestSorted_76 ?_
          refine va_mmax hx hb (hml.trans hl.1.symm) hown gl68 gmmax2 gmI gmmax4 (Nat.le_of_ble_eq_true rfl) (Nat.le_of_ble_eq_true rfl) (Nat.zero_le _) (Nat.zero_le _) dX4_longestSorted_77 ?_
          refine lv_topi (fun y14 ey14 => ?_)
          replace hf := onm ey14 hf
          refine lv_istore_n (lv' := [(1, .int y14), (0, .ref (r 0)), (2, .int v2)]) hx hb dX4_longestSorted_80 rfl hl (by decide) rfl (fun ls hl => ?_)
          obtain ⟨y15, ey15⟩ : ∃ y : Int32, y = v2 + 1 := ⟨_, rfl⟩
          replace hf := onm ey15 hf
          refine lv_iinc (v := y15) (lv' := [(2, .int y15), (1, .int y14), (0, .ref (r 0))]) hx hb dX4_longestSorted_81 hl (k := 2) rfl (by rw [ey15]; rfl) (by decide) rfl (fun ls hl => ?_)
          refine lv_goto (tgt := 4) hx hb dX4_longestSorted_84 (by decide) ?_
          exact ih y14 y15 z12 H locs ls z hP hS (lv_sub hl [2, 1, 0] rfl) hf K
  unfold f_X4_longestSorted at hf
  have go : ∀ (H : Heap) (locs : List Loc), va_P D vwCl [oX4 r r_length, aI cI (r 1) 12 r_lesser, aI cI (r 4) 12 r_longest] H → va_S A s.heap H locs → W p l e { frames := 3, cells := 0, slots := 0, locals := 64 } s m args below meth c H locs 0 0 (MQ below (QwI D zr (fun u => [oX4 r r_length, aI cI (r 1) 12 r_lesser, aI cI (r 4) 12 u]) A) args s 0 0 A) (F0 m 0 ls []) := by
    intro H locs hP hS
    refine lv_iconst (v := 0) hx hb dX4_longestSorted_0 (by decide) ?_
    refine lv_istore_n (lv' := [(1, .int 0), (0, .ref (r 0))]) hx hb dX4_longestSorted_1 rfl hl (by decide) rfl (fun ls hl => ?_)
    refine lv_iconst (v := 0) hx hb dX4_longestSorted_2 (by decide) ?_
    refine lv_istore_n (lv' := [(2, .int 0), (1, .int 0), (0, .ref (r 0))]) hx hb dX4_longestSorted_3 rfl hl (by decide) rfl (fun ls hl => ?_)
    obtain ⟨z16, hz16, hf⟩ := obd hf
    refine W4 4000 0 0 r_longest H locs ls z16 hP hS (lv_sub hl [2, 1, 0] rfl) hz16 (fun H locs ls hP hS hl => ?_)
    refine lv_iload_n hx hb dX4_longestSorted_87 rfl (lv_at hl 0 rfl) ?_
    have er := Option.some.inj hf
    exact rwI (wm := (fun u => [oX4 r r_length, aI cI (r 1) 12 r_lesser, aI cI (r 4) 12 u])) hx hb hr hS dX4_longestSorted_88 hP er hlocks
  exact go s.heap [] hP hS
noncomputable def L_X4_exchanges_20 (r_positions : Nat → Int32) (r_length : Int32) (v3 : Int32) : Nat → Int32 → Int32 → Int32 → Int32 → Option (Int32 × Int32)
  | 0, _, _, _, _ => none
  | n + 1, v1, v2, v4, v5 => if r_length ≤ v5 then (some ((v1, v2))) else (if ((v2 >>> (v4 &&& 31)) &&& 1) = 0 then ((some ((v2 ||| (1 <<< (v4 &&& 31))) : Int32)).bind (fun y4 => (f_X4_positionOf r_positions r_length v4).bind (fun z5 => if z5 = v3 then ((some (v5 + 1 : Int32)).bind (fun y8 => L_X4_exchanges_20 r_positions r_length v3 n (v1 + 0) y4 z5 y8)) else ((some (v5 + 1 : Int32)).bind (fun y7 => L_X4_exchanges_20 r_positions r_length v3 n (v1 + 1) y4 z5 y7))))) else (some ((v1, v2))))
noncomputable def L_X4_exchanges_6 (r_positions : Nat → Int32) (r_length : Int32) : Nat → Int32 → Int32 → Int32 → Option (Int32)
  | 0, _, _, _ => none
  | n + 1, v1, v2, v3 => if r_length ≤ v3 then (some (v1)) else ((L_X4_exchanges_20 r_positions r_length v3 4000 v1 v2 v3 0).bind (fun z9 => (some (v3 + 1 : Int32)).bind (fun y10 => L_X4_exchanges_6 r_positions r_length n z9.1 z9.2 y10)))
noncomputable def f_X4_exchanges (r_positions : Nat → Int32) (r_length : Int32) : Option (Int32) := (L_X4_exchanges_6 r_positions r_length 4000 0 0 0).bind (fun z11 => some (z11))
set_option maxHeartbeats 4000000 in
set_option maxRecDepth 100000 in
theorem c_X4_exchanges (l : Launch) (D : va_G) (cI cJ cZ cQ : ClassId) (bs sz : Nat) (r : Nat → Nat) (r_length : Int32) (r_positions : Nat → Int32) (zr : Int32) (hf : f_X4_exchanges r_positions r_length = some zr) : Met l yX4_exchanges wsX4_exchanges { frames := 2, cells := 0, slots := 0, locals := 42 } (va_Pc [.ref (r 0)] (Pr D cI cJ cZ cQ bs sz [oX4 r r_length, aI cI (r 2) 12 r_positions])) (QrI zr) 0 0 no := by
  refine stM (cc := cX4_exchanges) (maxL := 6) (ret := (some .int)) (by decide +kernel) rfl (Nat.le_of_ble_eq_true rfl) ?_
  intro p e s m args below meth c C0 hr hlocks hname hsz hP hDb hE ls hl
  have hAb : ∀ q, no q → bs ≤ q := fun _ h => h.elim
  obtain ⟨hx, hb, hml, hown, hts⟩ := id C0
  have hown : s.vm.findClass RX4 = some m.cls := hown
  obtain ⟨hK, hNW, -, tw, hZ, hT⟩ := id hE
  have hl : lv_has ls 6 [(0, .ref (r 0))] := hl
  have hS : va_S no s.heap s.heap [] := va_S.rf
  have hI_X4 := (show ∀ w ∈ wsX40, w ∈ wsX4_exchanges by decide +kernel)
  have gf36 := hts (.fieldLink RX4 36 "RowRanks$Ranking" "length" "I") (by decide +kernel)
  have W20 : ∀ (n : Nat) (v1 : Int32) (v2 : Int32) (v3 : Int32) (v4 : Int32) (v5 : Int32) (H : Heap) (locs : List Loc) (ls : Array Slot) (z : Int32 × Int32), va_P D vwCl [oX4 r r_length, aI cI (r 2) 12 r_positions] H → va_S no s.heap H locs → lv_has ls 6 [(0, .ref (r 0)), (1, .int v1), (2, .int v2), (3, .int v3), (4, .int v4), (5, .int v5)] → L_X4_exchanges_20 r_positions r_length v3 n v1 v2 v4 v5 = some z → (∀ (H : Heap) (locs : List Loc) (ls : Array Slot), va_P D vwCl [oX4 r r_length, aI cI (r 2) 12 r_positions] H → va_S no s.heap H locs → lv_has ls 6 [(0, .ref (r 0)), (1, .int z.1), (2, .int z.2), (3, .int v3)] → W p l e { frames := 2, cells := 0, slots := 0, locals := 42 } s m args below meth c H locs 0 0 (MQ below (QrI zr) args s 0 0 no) (F0 m 73 ls [])) → W p l e { frames := 2, cells := 0, slots := 0, locals := 42 } s m args below meth c H locs 0 0 (MQ below (QrI zr) args s 0 0 no) (F0 m 20 ls []) := by
    intro n
    induction n with
    | zero =>
      intro v1 v2 v3 v4 v5 H locs ls z hP hS hl hf
      exact absurd (show (none : Option (Int32 × Int32)) = some z from hf) (fun h => by cases h)
    | succ n ih =>
      intro v1 v2 v3 v4 v5 H locs ls z hP hS hl hf K
      rw [L_X4_exchanges_20] at hf
      refine lv_iload hx hb dX4_exchanges_20 (lv_at hl 5 rfl) ?_
      refine lv_aload_n hx hb dX4_exchanges_22 rfl (lv_at hl 0 rfl) ?_
      refine va_get (D := D) (ci := 4) (v := .int r_length) (C := RX4) (T := TX4) (N := 5) hx hb hts hI_X4 hown hK hP 0 rfl rfl 4 (by decide) gf36 (fun _ h9 => h9) rfl dX4_exchanges_23 ?_
      refine lv_icmp_ge (tgt := 73) hx hb dX4_exchanges_26 (by decide) (fun c2 => ?_) (fun c2 => ?_)
      · replace hf := oif c2 hf
        have hf := Option.some.inj hf
        subst hf
        exact K H locs ls hP hS (lv_sub hl [0, 1, 2, 3] rfl)
      · replace hf := oel c2 hf
        refine lv_iload_n hx hb dX4_exchanges_29 rfl (lv_at hl 2 rfl) ?_
        refine lv_iload hx hb dX4_exchanges_30 (lv_at hl 4 rfl) ?_
        refine lv_ishr hx hb dX4_exchanges_32 ?_
        refine lv_iconst (v := 1) hx hb dX4_exchanges_33 (by decide) ?_
        refine lv_iand hx hb dX4_exchanges_34 ?_
        refine lv_if_ne (tgt := 73) hx hb dX4_exchanges_35 (by decide) (fun c3 => ?_) (fun c3 => ?_)
        · replace hf := oel c3 hf
          have hf := Option.some.inj hf
          subst hf
          exact K H locs ls hP hS (lv_sub hl [0, 1, 2, 3] rfl)
        · replace hf := oif c3 hf
          refine lv_iload_n hx hb dX4_exchanges_38 rfl (lv_at hl 2 rfl) ?_
          refine lv_iconst (v := 1) hx hb dX4_exchanges_39 (by decide) ?_
          refine lv_iload hx hb dX4_exchanges_40 (lv_at hl 4 rfl) ?_
          refine lv_ishl hx hb dX4_exchanges_42 ?_
          refine lv_ior hx hb dX4_exchanges_43 ?_
          refine lv_topi (fun y4 ey4 => ?_)
          replace hf := onm ey4 hf
          refine lv_istore_n (lv' := [(2, .int y4), (0, .ref (r 0)), (1, .int v1), (3, .int v3), (4, .int v4), (5, .int v5)]) hx hb dX4_exchanges_44 rfl hl (by decide) rfl (fun ls hl => ?_)
          refine lv_aload_n hx hb dX4_exchanges_45 rfl (lv_at hl 1 rfl) ?_
          refine lv_iload hx hb dX4_exchanges_46 (lv_at hl 4 rfl) ?_
          obtain ⟨z5, hz5, hf⟩ := obd hf
          refine kI (runV (As := [.int v4]) (rest := []) C0 hE hAb hP (hDb.addr rfl) hS [0, 1] (wc := [oX4 r r_length, aI cI (r 2) 12 r_positions]) (by decide) rfl 0 rfl rfl (c_X4_positionOf l D cI cJ cZ cQ bs H.size r r_length r_positions v4 z5 hz5) (cwV 1 hts gX4_exchanges_X4_positionOf rfl rfl rfl (by decide +kernel) ⟨Nat.le_of_ble_eq_true rfl, Nat.le_of_ble_eq_true rfl⟩) rfl hl.1 rfl (Nat.le_of_ble_eq_true rfl) dX4_exchanges_48 ⟨Nat.le_of_ble_eq_true rfl, Nat.le_of_ble_eq_true rfl⟩) hS hP (fun H locs hP hS => ?_)
          refine lv_istore (lv' := [(4, .int z5), (2, .int y4), (0, .ref (r 0)), (1, .int v1), (3, .int v3), (5, .int v5)]) hx hb dX4_exchanges_51 hl (by decide) rfl (fun ls hl => ?_)
          refine lv_iload_n hx hb dX4_exchanges_53 rfl (lv_at hl 3 rfl) ?_
          refine lv_iload hx hb dX4_exchanges_54 (lv_at hl 0 rfl) ?_
          refine lv_iload_n hx hb dX4_exchanges_56 rfl (lv_at hl 4 rfl) ?_
          refine lv_icmp_ne (tgt := 64) hx hb dX4_exchanges_57 (by decide) (fun c6 => ?_) (fun c6 => ?_)
          · replace hf := oel c6 hf
            refine lv_iconst (v := 1) hx hb dX4_exchanges_64 (by decide) ?_
            refine lv_iadd hx hb dX4_exchanges_65 ?_
            refine lv_istore_n (lv' := [(1, .int (v1 + 1)), (4, .int z5), (2, .int y4), (0, .ref (r 0)), (3, .int v3), (5, .int v5)]) hx hb dX4_exchanges_66 rfl hl (by decide) rfl (fun ls hl => ?_)
            obtain ⟨y7, ey7⟩ : ∃ y : Int32, y = v5 + 1 := ⟨_, rfl⟩
            replace hf := onm ey7 hf
            refine lv_iinc (v := y7) (lv' := [(5, .int y7), (1, .int (v1 + 1)), (4, .int z5), (2, .int y4), (0, .ref (r 0)), (3, .int v3)]) hx hb dX4_exchanges_67 hl (k := 5) rfl (by rw [ey7]; rfl) (by decide) rfl (fun ls hl => ?_)
            refine lv_goto (tgt := 20) hx hb dX4_exchanges_70 (by decide) ?_
            exact ih (v1 + 1) y4 v3 z5 y7 H locs ls z hP hS (lv_sub hl [4, 1, 3, 5, 2, 0] rfl) hf K
          · replace hf := oif c6 hf
            refine lv_iconst (v := 0) hx hb dX4_exchanges_60 (by decide) ?_
            refine lv_goto (tgt := 65) hx hb dX4_exchanges_61 (by decide) ?_
            refine lv_iadd hx hb dX4_exchanges_65 ?_
            refine lv_istore_n (lv' := [(1, .int (v1 + 0)), (4, .int z5), (2, .int y4), (0, .ref (r 0)), (3, .int v3), (5, .int v5)]) hx hb dX4_exchanges_66 rfl hl (by decide) rfl (fun ls hl => ?_)
            obtain ⟨y8, ey8⟩ : ∃ y : Int32, y = v5 + 1 := ⟨_, rfl⟩
            replace hf := onm ey8 hf
            refine lv_iinc (v := y8) (lv' := [(5, .int y8), (1, .int (v1 + 0)), (4, .int z5), (2, .int y4), (0, .ref (r 0)), (3, .int v3)]) hx hb dX4_exchanges_67 hl (k := 5) rfl (by rw [ey8]; rfl) (by decide) rfl (fun ls hl => ?_)
            refine lv_goto (tgt := 20) hx hb dX4_exchanges_70 (by decide) ?_
            exact ih (v1 + 0) y4 v3 z5 y8 H locs ls z hP hS (lv_sub hl [4, 1, 3, 5, 2, 0] rfl) hf K
  have W6 : ∀ (n : Nat) (v1 : Int32) (v2 : Int32) (v3 : Int32) (H : Heap) (locs : List Loc) (ls : Array Slot) (z : Int32), va_P D vwCl [oX4 r r_length, aI cI (r 2) 12 r_positions] H → va_S no s.heap H locs → lv_has ls 6 [(0, .ref (r 0)), (1, .int v1), (2, .int v2), (3, .int v3)] → L_X4_exchanges_6 r_positions r_length n v1 v2 v3 = some z → (∀ (H : Heap) (locs : List Loc) (ls : Array Slot), va_P D vwCl [oX4 r r_length, aI cI (r 2) 12 r_positions] H → va_S no s.heap H locs → lv_has ls 6 [(1, .int z)] → W p l e { frames := 2, cells := 0, slots := 0, locals := 42 } s m args below meth c H locs 0 0 (MQ below (QrI zr) args s 0 0 no) (F0 m 79 ls [])) → W p l e { frames := 2, cells := 0, slots := 0, locals := 42 } s m args below meth c H locs 0 0 (MQ below (QrI zr) args s 0 0 no) (F0 m 6 ls []) := by
    intro n
    induction n with
    | zero =>
      intro v1 v2 v3 H locs ls z hP hS hl hf
      exact absurd (show (none : Option (Int32)) = some z from hf) (fun h => by cases h)
    | succ n ih =>
      intro v1 v2 v3 H locs ls z hP hS hl hf K
      rw [L_X4_exchanges_6] at hf
      refine lv_iload_n hx hb dX4_exchanges_6 rfl (lv_at hl 3 rfl) ?_
      refine lv_aload_n hx hb dX4_exchanges_7 rfl (lv_at hl 0 rfl) ?_
      refine va_get (D := D) (ci := 4) (v := .int r_length) (C := RX4) (T := TX4) (N := 5) hx hb hts hI_X4 hown hK hP 0 rfl rfl 4 (by decide) gf36 (fun _ h9 => h9) rfl dX4_exchanges_8 ?_
      refine lv_icmp_ge (tgt := 79) hx hb dX4_exchanges_11 (by decide) (fun c1 => ?_) (fun c1 => ?_)
      · replace hf := oif c1 hf
        have hf := Option.some.inj hf
        subst hf
        exact K H locs ls hP hS (lv_sub hl [1] rfl)
      · replace hf := oel c1 hf
        refine lv_iload_n hx hb dX4_exchanges_14 rfl (lv_at hl 3 rfl) ?_
        refine lv_istore (lv' := [(4, .int v3), (0, .ref (r 0)), (1, .int v1), (2, .int v2), (3, .int v3)]) hx hb dX4_exchanges_15 hl (by decide) rfl (fun ls hl => ?_)
        refine lv_iconst (v := 0) hx hb dX4_exchanges_17 (by decide) ?_
        refine lv_istore (lv' := [(5, .int 0), (4, .int v3), (0, .ref (r 0)), (1, .int v1), (2, .int v2), (3, .int v3)]) hx hb dX4_exchanges_18 hl (by decide) rfl (fun ls hl => ?_)
        obtain ⟨z9, hz9, hf⟩ := obd hf
        refine W20 4000 v1 v2 v3 v3 0 H locs ls z9 hP hS (lv_sub hl [2, 3, 4, 5, 1, 0] rfl) hz9 (fun H locs ls hP hS hl => ?_)
        obtain ⟨y10, ey10⟩ : ∃ y : Int32, y = v3 + 1 := ⟨_, rfl⟩
        replace hf := onm ey10 hf
        refine lv_iinc (v := y10) (lv' := [(3, .int y10), (0, .ref (r 0)), (1, .int z9.1), (2, .int z9.2)]) hx hb dX4_exchanges_73 hl (k := 3) rfl (by rw [ey10]; rfl) (by decide) rfl (fun ls hl => ?_)
        refine lv_goto (tgt := 6) hx hb dX4_exchanges_76 (by decide) ?_
        exact ih z9.1 z9.2 y10 H locs ls z hP hS (lv_sub hl [1, 2, 3, 0] rfl) hf K
  unfold f_X4_exchanges at hf
  have go : ∀ (H : Heap) (locs : List Loc), va_P D vwCl [oX4 r r_length, aI cI (r 2) 12 r_positions] H → va_S no s.heap H locs → W p l e { frames := 2, cells := 0, slots := 0, locals := 42 } s m args below meth c H locs 0 0 (MQ below (QrI zr) args s 0 0 no) (F0 m 0 ls []) := by
    intro H locs hP hS
    refine lv_iconst (v := 0) hx hb dX4_exchanges_0 (by decide) ?_
    refine lv_istore_n (lv' := [(1, .int 0), (0, .ref (r 0))]) hx hb dX4_exchanges_1 rfl hl (by decide) rfl (fun ls hl => ?_)
    refine lv_iconst (v := 0) hx hb dX4_exchanges_2 (by decide) ?_
    refine lv_istore_n (lv' := [(2, .int 0), (1, .int 0), (0, .ref (r 0))]) hx hb dX4_exchanges_3 rfl hl (by decide) rfl (fun ls hl => ?_)
    refine lv_iconst (v := 0) hx hb dX4_exchanges_4 (by decide) ?_
    refine lv_istore_n (lv' := [(3, .int 0), (2, .int 0), (1, .int 0), (0, .ref (r 0))]) hx hb dX4_exchanges_5 rfl hl (by decide) rfl (fun ls hl => ?_)
    obtain ⟨z11, hz11, hf⟩ := obd hf
    refine W6 4000 0 0 0 H locs ls z11 hP hS (lv_sub hl [3, 2, 1, 0] rfl) hz11 (fun H locs ls hP hS hl => ?_)
    refine lv_iload_n hx hb dX4_exchanges_79 rfl (lv_at hl 0 rfl) ?_
    have er := Option.some.inj hf
    exact rtI hx hb hr hS dX4_exchanges_80 er hlocks
  exact go s.heap [] hP hS
noncomputable def L_X4_bubblePasses_4 (r_lesser : Nat → Int32) (r_length : Int32) : Nat → Int32 → Int32 → Option (Int32)
  | 0, _, _ => none
  | n + 1, v1, v2 => if r_length ≤ v2 then (some (v1)) else ((f_X4_greaterBefore r_lesser r_length v2).bind (fun z2 => (some (v2 + 1 : Int32)).bind (fun y3 => L_X4_bubblePasses_4 r_lesser r_length n (if v1 < z2 then z2 else v1) y3)))
noncomputable def f_X4_bubblePasses (r_lesser : Nat → Int32) (r_length : Int32) : Option (Int32) := (L_X4_bubblePasses_4 r_lesser r_length 4000 0 0).bind (fun z4 => some (z4))
set_option maxHeartbeats 4000000 in
set_option maxRecDepth 100000 in
theorem c_X4_bubblePasses (l : Launch) (D : va_G) (cI cJ cZ cQ : ClassId) (bs sz : Nat) (r : Nat → Nat) (r_length : Int32) (r_lesser : Nat → Int32) (zr : Int32) (hf : f_X4_bubblePasses r_lesser r_length = some zr) : Met l yX4_bubblePasses wsX4_bubblePasses { frames := 4, cells := 0, slots := 0, locals := 87 } (va_Pc [.ref (r 0)] (Pr D cI cJ cZ cQ bs sz [oX4 r r_length, aI cI (r 1) 12 r_lesser])) (QrI zr) 0 0 no := by
  refine stM (cc := cX4_bubblePasses) (maxL := 3) (ret := (some .int)) (by decide +kernel) rfl (Nat.le_of_ble_eq_true rfl) ?_
  intro p e s m args below meth c C0 hr hlocks hname hsz hP hDb hE ls hl
  have hAb : ∀ q, no q → bs ≤ q := fun _ h => h.elim
  obtain ⟨hx, hb, hml, hown, hts⟩ := id C0
  have hown : s.vm.findClass RX4 = some m.cls := hown
  obtain ⟨hK, hNW, -, tw, hZ, hT⟩ := id hE
  have hl : lv_has ls 3 [(0, .ref (r 0))] := hl
  have hS : va_S no s.heap s.heap [] := va_S.rf
  have hI_X4 := (show ∀ w ∈ wsX40, w ∈ wsX4_bubblePasses by decide +kernel)
  have gf36 := hts (.fieldLink RX4 36 "RowRanks$Ranking" "length" "I") (by decide +kernel)
  have gl68 := hts (.methodLink RX4 68 Lib.Math.max.name) (by decide +kernel)
  have gmmax2 := hts (.static Lib.Math.max.name) (by decide +kernel)
  have gmI := hts (.initialized "java/lang/Math") (by decide +kernel)
  have gmmax4 := hts (.code Lib.Math.max.name Lib.Math.max.code 2 (some .int)) (by decide +kernel)
  have W4 : ∀ (n : Nat) (v1 : Int32) (v2 : Int32) (H : Heap) (locs : List Loc) (ls : Array Slot) (z : Int32), va_P D vwCl [oX4 r r_length, aI cI (r 1) 12 r_lesser] H → va_S no s.heap H locs → lv_has ls 3 [(0, .ref (r 0)), (1, .int v1), (2, .int v2)] → L_X4_bubblePasses_4 r_lesser r_length n v1 v2 = some z → (∀ (H : Heap) (locs : List Loc) (ls : Array Slot), va_P D vwCl [oX4 r r_length, aI cI (r 1) 12 r_lesser] H → va_S no s.heap H locs → lv_has ls 3 [(1, .int z)] → W p l e { frames := 4, cells := 0, slots := 0, locals := 87 } s m args below meth c H locs 0 0 (MQ below (QrI zr) args s 0 0 no) (F0 m 28 ls [])) → W p l e { frames := 4, cells := 0, slots := 0, locals := 87 } s m args below meth c H locs 0 0 (MQ below (QrI zr) args s 0 0 no) (F0 m 4 ls []) := by
    intro n
    induction n with
    | zero =>
      intro v1 v2 H locs ls z hP hS hl hf
      exact absurd (show (none : Option (Int32)) = some z from hf) (fun h => by cases h)
    | succ n ih =>
      intro v1 v2 H locs ls z hP hS hl hf K
      rw [L_X4_bubblePasses_4] at hf
      refine lv_iload_n hx hb dX4_bubblePasses_4 rfl (lv_at hl 2 rfl) ?_
      refine lv_aload_n hx hb dX4_bubblePasses_5 rfl (lv_at hl 0 rfl) ?_
      refine va_get (D := D) (ci := 4) (v := .int r_length) (C := RX4) (T := TX4) (N := 5) hx hb hts hI_X4 hown hK hP 0 rfl rfl 4 (by decide) gf36 (fun _ h9 => h9) rfl dX4_bubblePasses_6 ?_
      refine lv_icmp_ge (tgt := 28) hx hb dX4_bubblePasses_9 (by decide) (fun c1 => ?_) (fun c1 => ?_)
      · replace hf := oif c1 hf
        have hf := Option.some.inj hf
        subst hf
        exact K H locs ls hP hS (lv_sub hl [1] rfl)
      · replace hf := oel c1 hf
        refine lv_iload_n hx hb dX4_bubblePasses_12 rfl (lv_at hl 1 rfl) ?_
        refine lv_aload_n hx hb dX4_bubblePasses_13 rfl (lv_at hl 0 rfl) ?_
        refine lv_iload_n hx hb dX4_bubblePasses_14 rfl (lv_at hl 2 rfl) ?_
        obtain ⟨z2, hz2, hf⟩ := obd hf
        refine kI (runV (As := [.int v2]) (rest := [.int v1]) C0 hE hAb hP (hDb.addr rfl) hS [0, 1] (wc := [oX4 r r_length, aI cI (r 1) 12 r_lesser]) (by decide) rfl 0 rfl rfl (c_X4_greaterBefore l D cI cJ cZ cQ bs H.size r r_length r_lesser v2 z2 hz2) (cwV 1 hts gX4_bubblePasses_X4_greaterBefore rfl rfl rfl (by decide +kernel) ⟨Nat.le_of_ble_eq_true rfl, Nat.le_of_ble_eq_true rfl⟩) rfl hl.1 rfl (Nat.le_of_ble_eq_true rfl) dX4_bubblePasses_15 ⟨Nat.le_of_ble_eq_true rfl, Nat.le_of_ble_eq_true rfl⟩) hS hP (fun H locs hP hS => ?_)
        refine va_mmax hx hb (hml.trans hl.1.symm) hown gl68 gmmax2 gmI gmmax4 (Nat.le_of_ble_eq_true rfl) (Nat.le_of_ble_eq_true rfl) (Nat.zero_le _) (Nat.zero_le _) dX4_bubblePasses_18 ?_
        refine lv_istore_n (lv' := [(1, .int (if v1 < z2 then z2 else v1)), (0, .ref (r 0)), (2, .int v2)]) hx hb dX4_bubblePasses_21 rfl hl (by decide) rfl (fun ls hl => ?_)
        obtain ⟨y3, ey3⟩ : ∃ y : Int32, y = v2 + 1 := ⟨_, rfl⟩
        replace hf := onm ey3 hf
        refine lv_iinc (v := y3) (lv' := [(2, .int y3), (1, .int (if v1 < z2 then z2 else v1)), (0, .ref (r 0))]) hx hb dX4_bubblePasses_22 hl (k := 2) rfl (by rw [ey3]; rfl) (by decide) rfl (fun ls hl => ?_)
        refine lv_goto (tgt := 4) hx hb dX4_bubblePasses_25 (by decide) ?_
        exact ih (if v1 < z2 then z2 else v1) y3 H locs ls z hP hS (lv_sub hl [2, 1, 0] rfl) hf K
  unfold f_X4_bubblePasses at hf
  have go : ∀ (H : Heap) (locs : List Loc), va_P D vwCl [oX4 r r_length, aI cI (r 1) 12 r_lesser] H → va_S no s.heap H locs → W p l e { frames := 4, cells := 0, slots := 0, locals := 87 } s m args below meth c H locs 0 0 (MQ below (QrI zr) args s 0 0 no) (F0 m 0 ls []) := by
    intro H locs hP hS
    refine lv_iconst (v := 0) hx hb dX4_bubblePasses_0 (by decide) ?_
    refine lv_istore_n (lv' := [(1, .int 0), (0, .ref (r 0))]) hx hb dX4_bubblePasses_1 rfl hl (by decide) rfl (fun ls hl => ?_)
    refine lv_iconst (v := 0) hx hb dX4_bubblePasses_2 (by decide) ?_
    refine lv_istore_n (lv' := [(2, .int 0), (1, .int 0), (0, .ref (r 0))]) hx hb dX4_bubblePasses_3 rfl hl (by decide) rfl (fun ls hl => ?_)
    obtain ⟨z4, hz4, hf⟩ := obd hf
    refine W4 4000 0 0 H locs ls z4 hP hS (lv_sub hl [2, 1, 0] rfl) hz4 (fun H locs ls hP hS hl => ?_)
    refine lv_iload_n hx hb dX4_bubblePasses_28 rfl (lv_at hl 0 rfl) ?_
    have er := Option.some.inj hf
    exact rtI hx hb hr hS dX4_bubblePasses_29 er hlocks
  exact go s.heap [] hP hS
