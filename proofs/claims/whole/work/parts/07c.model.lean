noncomputable def L_X6_matters_4 (w_w : Nat → Int64) (v1 : Int32) : Nat → Int32 → Int32 → Option (Int32)
  | 0, _, _ => none
  | n + 1, v2, v3 => (f_X6_keys w_w).bind (fun z1 => if z1 ≤ v3 then (some (v2)) else ((f_X6_isSameOrder w_w ((15 : Int32) &&& (((1 : Int32) <<< (v3 &&& 31)) ^^^ ((-1) : Int32))) v1).bind (fun z3 => if z3 = 0 then ((some ((v2 ||| ((1 : Int32) <<< (v3 &&& 31))) : Int32)).bind (fun y5 => (some (v3 + 1 : Int32)).bind (fun y6 => L_X6_matters_4 w_w v1 n y5 y6))) else ((some ((v2 ||| (0 : Int32)) : Int32)).bind (fun y7 => (some (v3 + 1 : Int32)).bind (fun y8 => L_X6_matters_4 w_w v1 n y7 y8))))))
noncomputable def f_X6_matters (w_w : Nat → Int64) (x1 : Int32) : Option (Int32) := (L_X6_matters_4 w_w x1 4000 0 0).bind (fun z9 => some (z9))
set_option maxHeartbeats 4000000 in
set_option maxRecDepth 100000 in
theorem c_X6_matters (l : Launch) (D : va_G) (cI cJ cZ cQ : ClassId) (bs sz : Nat) (w : Nat → Nat) (w_undos : Int32) (w_seed : Int32) (w_entries : Int32) (w_w : Nat → Int64) (x1 : Int32) (zr : Int32) (hf : f_X6_matters w_w x1 = some zr) : Met l yX6_matters wsX6_matters { frames := 7, cells := 0, slots := 0, locals := 179 } (va_Pc [.ref (w 0), .int x1] (Pr D cI cJ cZ cQ bs sz [oX6 w w_undos w_seed w_entries, aJ cJ (w 1) 3420 w_w])) (QrI zr) 0 0 no := by
  refine stM (cc := cX6_matters) (maxL := 4) (ret := (some .int)) (by decide +kernel) rfl (Nat.le_of_ble_eq_true rfl) ?_
  intro p e s m args below meth c C0 hr hlocks hname hsz hP hDb hE ls hl
  have hAb : ∀ q, no q → bs ≤ q := fun _ h => h.elim
  obtain ⟨hx, hb, hml, hown, hts⟩ := id C0
  have hown : s.vm.findClass RX6 = some m.cls := hown
  obtain ⟨hK, hNW, -, tw, hZ, hT⟩ := id hE
  have hl : lv_has ls 4 [(0, .ref (w 0)), (1, .int x1)] := hl
  have hS : va_S no s.heap s.heap [] := va_S.rf
  have W4 : ∀ (n : Nat) (v1 : Int32) (v2 : Int32) (v3 : Int32) (H : Heap) (locs : List Loc) (ls : Array Slot) (z : Int32), va_P D vwCl [oX6 w w_undos w_seed w_entries, aJ cJ (w 1) 3420 w_w] H → va_S no s.heap H locs → lv_has ls 4 [(0, .ref (w 0)), (1, .int v1), (2, .int v2), (3, .int v3)] → L_X6_matters_4 w_w v1 n v2 v3 = some z → (∀ (H : Heap) (locs : List Loc) (ls : Array Slot), va_P D vwCl [oX6 w w_undos w_seed w_entries, aJ cJ (w 1) 3420 w_w] H → va_S no s.heap H locs → lv_has ls 4 [(2, .int z)] → W p l e { frames := 7, cells := 0, slots := 0, locals := 179 } s m args below meth c H locs 0 0 (MQ below (QrI zr) args s 0 0 no) (F0 m 44 ls [])) → W p l e { frames := 7, cells := 0, slots := 0, locals := 179 } s m args below meth c H locs 0 0 (MQ below (QrI zr) args s 0 0 no) (F0 m 4 ls []) := by
    intro n
    induction n with
    | zero =>
      intro v1 v2 v3 H locs ls z hP hS hl hf
      exact absurd (show (none : Option (Int32)) = some z from hf) (fun h => by cases h)
    | succ n ih =>
      intro v1 v2 v3 H locs ls z hP hS hl hf K
      rw [L_X6_matters_4] at hf
      refine lv_iload_n hx hb dX6_matters_4 rfl (lv_at hl 3 rfl) ?_
      refine lv_aload_n hx hb dX6_matters_5 rfl (lv_at hl 0 rfl) ?_
      obtain ⟨z1, hz1, hf⟩ := obd hf
      refine kI (runV (As := []) (rest := [.int v3]) C0 hE hAb hP (hDb.addr rfl) hS [0, 1] (wc := [oX6 w w_undos w_seed w_entries, aJ cJ (w 1) 3420 w_w]) (by decide) rfl 0 rfl rfl (c_X6_keys l D cI cJ cZ cQ bs H.size w w_undos w_seed w_entries w_w z1 hz1) (cwV 0 hts gX6_matters_X6_keys rfl rfl rfl (by decide +kernel) ⟨Nat.le_of_ble_eq_true rfl, Nat.le_of_ble_eq_true rfl⟩) rfl hl.1 rfl (Nat.le_of_ble_eq_true rfl) dX6_matters_6 ⟨Nat.le_of_ble_eq_true rfl, Nat.le_of_ble_eq_true rfl⟩) hS hP (fun H locs hP hS => ?_)
      refine lv_icmp_ge (tgt := 44) hx hb dX6_matters_9 (by decide) (fun c2 => ?_) (fun c2 => ?_)
      · replace hf := oif c2 hf
        have hf := Option.some.inj hf
        subst hf
        exact K H locs ls hP hS (lv_sub hl [2] rfl)
      · replace hf := oel c2 hf
        refine lv_iload_n hx hb dX6_matters_12 rfl (lv_at hl 2 rfl) ?_
        refine lv_aload_n hx hb dX6_matters_13 rfl (lv_at hl 0 rfl) ?_
        refine lv_bipush (v := 15) hx hb dX6_matters_14 (by decide) ?_
        refine lv_iconst (v := 1) hx hb dX6_matters_16 (by decide) ?_
        refine lv_iload_n hx hb dX6_matters_17 rfl (lv_at hl 3 rfl) ?_
        refine lv_ishl hx hb dX6_matters_18 ?_
        refine lv_iconst (v := (-1)) hx hb dX6_matters_19 (by decide) ?_
        refine lv_ixor hx hb dX6_matters_20 ?_
        refine lv_iand hx hb dX6_matters_21 ?_
        refine lv_iload_n hx hb dX6_matters_22 rfl (lv_at hl 1 rfl) ?_
        obtain ⟨z3, hz3, hf⟩ := obd hf
        refine kZ (runV (As := [.int ((15 : Int32) &&& (((1 : Int32) <<< (v3 &&& 31)) ^^^ ((-1) : Int32))), .int v1]) (rest := [.int v2]) C0 hE hAb hP (hDb.addr rfl) hS [0, 1] (wc := [oX6 w w_undos w_seed w_entries, aJ cJ (w 1) 3420 w_w]) (by decide) rfl 0 rfl rfl (c_X6_isSameOrder l D cI cJ cZ cQ bs H.size w w_undos w_seed w_entries w_w ((15 : Int32) &&& (((1 : Int32) <<< (v3 &&& 31)) ^^^ ((-1) : Int32))) v1 z3 hz3) (cwV 2 hts gX6_matters_X6_isSameOrder rfl rfl rfl (by decide +kernel) ⟨Nat.le_of_ble_eq_true rfl, Nat.le_of_ble_eq_true rfl⟩) rfl hl.1 rfl (Nat.le_of_ble_eq_true rfl) dX6_matters_23 ⟨Nat.le_of_ble_eq_true rfl, Nat.le_of_ble_eq_true rfl⟩) hS hP (fun bz3 H locs hP hS => ?_)
        refine lv_if_eq (tgt := 33) hx hb dX6_matters_26 (by decide) (fun c4 => ?_) (fun c4 => ?_)
        · replace hf := oif c4 hf
          refine lv_iconst (v := 1) hx hb dX6_matters_33 (by decide) ?_
          refine lv_iload_n hx hb dX6_matters_34 rfl (lv_at hl 3 rfl) ?_
          refine lv_ishl hx hb dX6_matters_35 ?_
          refine lv_ior hx hb dX6_matters_36 ?_
          refine lv_topi (fun y5 ey5 => ?_)
          replace hf := onm ey5 hf
          refine lv_istore_n (lv' := [(2, .int y5), (0, .ref (w 0)), (1, .int v1), (3, .int v3)]) hx hb dX6_matters_37 rfl hl (by decide) rfl (fun ls hl => ?_)
          obtain ⟨y6, ey6⟩ : ∃ y : Int32, y = v3 + 1 := ⟨_, rfl⟩
          replace hf := onm ey6 hf
          refine lv_iinc (v := y6) (lv' := [(3, .int y6), (2, .int y5), (0, .ref (w 0)), (1, .int v1)]) hx hb dX6_matters_38 hl (k := 3) rfl (by rw [ey6]; rfl) (by decide) rfl (fun ls hl => ?_)
          refine lv_goto (tgt := 4) hx hb dX6_matters_41 (by decide) ?_
          exact ih v1 y5 y6 H locs ls z hP hS (lv_sub hl [2, 3, 1, 0] rfl) hf K
        · replace hf := oel c4 hf
          refine lv_iconst (v := 0) hx hb dX6_matters_29 (by decide) ?_
          refine lv_goto (tgt := 36) hx hb dX6_matters_30 (by decide) ?_
          refine lv_ior hx hb dX6_matters_36 ?_
          refine lv_topi (fun y7 ey7 => ?_)
          replace hf := onm ey7 hf
          refine lv_istore_n (lv' := [(2, .int y7), (0, .ref (w 0)), (1, .int v1), (3, .int v3)]) hx hb dX6_matters_37 rfl hl (by decide) rfl (fun ls hl => ?_)
          obtain ⟨y8, ey8⟩ : ∃ y : Int32, y = v3 + 1 := ⟨_, rfl⟩
          replace hf := onm ey8 hf
          refine lv_iinc (v := y8) (lv' := [(3, .int y8), (2, .int y7), (0, .ref (w 0)), (1, .int v1)]) hx hb dX6_matters_38 hl (k := 3) rfl (by rw [ey8]; rfl) (by decide) rfl (fun ls hl => ?_)
          refine lv_goto (tgt := 4) hx hb dX6_matters_41 (by decide) ?_
          exact ih v1 y7 y8 H locs ls z hP hS (lv_sub hl [2, 3, 1, 0] rfl) hf K
  unfold f_X6_matters at hf
  have go : ∀ (H : Heap) (locs : List Loc), va_P D vwCl [oX6 w w_undos w_seed w_entries, aJ cJ (w 1) 3420 w_w] H → va_S no s.heap H locs → W p l e { frames := 7, cells := 0, slots := 0, locals := 179 } s m args below meth c H locs 0 0 (MQ below (QrI zr) args s 0 0 no) (F0 m 0 ls []) := by
    intro H locs hP hS
    refine lv_iconst (v := 0) hx hb dX6_matters_0 (by decide) ?_
    refine lv_istore_n (lv' := [(2, .int 0), (0, .ref (w 0)), (1, .int x1)]) hx hb dX6_matters_1 rfl hl (by decide) rfl (fun ls hl => ?_)
    refine lv_iconst (v := 0) hx hb dX6_matters_2 (by decide) ?_
    refine lv_istore_n (lv' := [(3, .int 0), (2, .int 0), (0, .ref (w 0)), (1, .int x1)]) hx hb dX6_matters_3 rfl hl (by decide) rfl (fun ls hl => ?_)
    obtain ⟨z9, hz9, hf⟩ := obd hf
    refine W4 4000 x1 0 0 H locs ls z9 hP hS (lv_sub hl [2, 3, 1, 0] rfl) hz9 (fun H locs ls hP hS hl => ?_)
    refine lv_iload_n hx hb dX6_matters_44 rfl (lv_at hl 0 rfl) ?_
    have er := Option.some.inj hf
    exact rtI hx hb hr hS dX6_matters_45 er hlocks
  exact go s.heap [] hP hS
noncomputable def L_X6_fewest_11 (w_w : Nat → Int64) (v1 : Int32) : Nat → Int32 → Int32 → Option (Int32)
  | 0, _, _ => none
  | n + 1, v2, v3 => (f_X6_keys w_w).bind (fun z3 => if ((1 : Int32) <<< (z3 &&& 31)) ≤ v3 then (some (v2)) else ((f_X6_ones v3).bind (fun z5 => (f_X6_ones v2).bind (fun z6 => if z6 ≤ z5 then ((some (v3 + 1 : Int32)).bind (fun y8 => L_X6_fewest_11 w_w v1 n v2 y8)) else ((f_X6_isSameOrder w_w v3 v1).bind (fun z9 => if z9 = 0 then ((some (v3 + 1 : Int32)).bind (fun y11 => L_X6_fewest_11 w_w v1 n v2 y11)) else ((some (v3 + 1 : Int32)).bind (fun y12 => L_X6_fewest_11 w_w v1 n v3 y12))))))))
noncomputable def f_X6_fewest (w_w : Nat → Int64) (x1 : Int32) : Option (Int32) := (f_X6_keys w_w).bind (fun z1 => (some ((((1 : Int32) <<< (z1 &&& 31)) - (1 : Int32)) : Int32)).bind (fun y2 => (L_X6_fewest_11 w_w x1 4000 y2 0).bind (fun z13 => some (z13))))
set_option maxHeartbeats 4000000 in
set_option maxRecDepth 100000 in
theorem c_X6_fewest (l : Launch) (D : va_G) (cI cJ cZ cQ : ClassId) (bs sz : Nat) (w : Nat → Nat) (w_undos : Int32) (w_seed : Int32) (w_entries : Int32) (w_w : Nat → Int64) (x1 : Int32) (zr : Int32) (hf : f_X6_fewest w_w x1 = some zr) : Met l yX6_fewest wsX6_fewest { frames := 7, cells := 0, slots := 0, locals := 179 } (va_Pc [.ref (w 0), .int x1] (Pr D cI cJ cZ cQ bs sz [oX6 w w_undos w_seed w_entries, aJ cJ (w 1) 3420 w_w])) (QrI zr) 0 0 no := by
  refine stM (cc := cX6_fewest) (maxL := 4) (ret := (some .int)) (by decide +kernel) rfl (Nat.le_of_ble_eq_true rfl) ?_
  intro p e s m args below meth c C0 hr hlocks hname hsz hP hDb hE ls hl
  have hAb : ∀ q, no q → bs ≤ q := fun _ h => h.elim
  obtain ⟨hx, hb, hml, hown, hts⟩ := id C0
  have hown : s.vm.findClass RX6 = some m.cls := hown
  obtain ⟨hK, hNW, -, tw, hZ, hT⟩ := id hE
  have hl : lv_has ls 4 [(0, .ref (w 0)), (1, .int x1)] := hl
  have hS : va_S no s.heap s.heap [] := va_S.rf
  have W11 : ∀ (n : Nat) (v1 : Int32) (v2 : Int32) (v3 : Int32) (H : Heap) (locs : List Loc) (ls : Array Slot) (z : Int32), va_P D vwCl [oX6 w w_undos w_seed w_entries, aJ cJ (w 1) 3420 w_w] H → va_S no s.heap H locs → lv_has ls 4 [(0, .ref (w 0)), (1, .int v1), (2, .int v2), (3, .int v3)] → L_X6_fewest_11 w_w v1 n v2 v3 = some z → (∀ (H : Heap) (locs : List Loc) (ls : Array Slot), va_P D vwCl [oX6 w w_undos w_seed w_entries, aJ cJ (w 1) 3420 w_w] H → va_S no s.heap H locs → lv_has ls 4 [(2, .int z)] → W p l e { frames := 7, cells := 0, slots := 0, locals := 179 } s m args below meth c H locs 0 0 (MQ below (QrI zr) args s 0 0 no) (F0 m 49 ls [])) → W p l e { frames := 7, cells := 0, slots := 0, locals := 179 } s m args below meth c H locs 0 0 (MQ below (QrI zr) args s 0 0 no) (F0 m 11 ls []) := by
    intro n
    induction n with
    | zero =>
      intro v1 v2 v3 H locs ls z hP hS hl hf
      exact absurd (show (none : Option (Int32)) = some z from hf) (fun h => by cases h)
    | succ n ih =>
      intro v1 v2 v3 H locs ls z hP hS hl hf K
      rw [L_X6_fewest_11] at hf
      refine lv_iload_n hx hb dX6_fewest_11 rfl (lv_at hl 3 rfl) ?_
      refine lv_iconst (v := 1) hx hb dX6_fewest_12 (by decide) ?_
      refine lv_aload_n hx hb dX6_fewest_13 rfl (lv_at hl 0 rfl) ?_
      obtain ⟨z3, hz3, hf⟩ := obd hf
      refine kI (runV (As := []) (rest := [.int 1, .int v3]) C0 hE hAb hP (hDb.addr rfl) hS [0, 1] (wc := [oX6 w w_undos w_seed w_entries, aJ cJ (w 1) 3420 w_w]) (by decide) rfl 0 rfl rfl (c_X6_keys l D cI cJ cZ cQ bs H.size w w_undos w_seed w_entries w_w z3 hz3) (cwV 0 hts gX6_fewest_X6_keys rfl rfl rfl (by decide +kernel) ⟨Nat.le_of_ble_eq_true rfl, Nat.le_of_ble_eq_true rfl⟩) rfl hl.1 rfl (Nat.le_of_ble_eq_true rfl) dX6_fewest_14 ⟨Nat.le_of_ble_eq_true rfl, Nat.le_of_ble_eq_true rfl⟩) hS hP (fun H locs hP hS => ?_)
      refine lv_ishl hx hb dX6_fewest_17 ?_
      refine lv_icmp_ge (tgt := 49) hx hb dX6_fewest_18 (by decide) (fun c4 => ?_) (fun c4 => ?_)
      · replace hf := oif c4 hf
        have hf := Option.some.inj hf
        subst hf
        exact K H locs ls hP hS (lv_sub hl [2] rfl)
      · replace hf := oel c4 hf
        refine lv_iload_n hx hb dX6_fewest_21 rfl (lv_at hl 3 rfl) ?_
        obtain ⟨z5, hz5, hf⟩ := obd hf
        refine kI (runS (As := [.int v3]) (rest := []) C0 hE hAb hP (hDb.addr rfl) hS [] (wc := []) (by decide) rfl (c_X6_ones l D cI cJ cZ cQ bs H.size v3 z5 hz5) (va_cwS 1 hts gX6_fewest_X6_ones rfl rfl rfl (by decide +kernel) ⟨Nat.le_of_ble_eq_true rfl, Nat.le_of_ble_eq_true rfl⟩) rfl hl.1 rfl (Nat.le_of_ble_eq_true rfl) dX6_fewest_22 ⟨Nat.le_of_ble_eq_true rfl, Nat.le_of_ble_eq_true rfl⟩) hS hP (fun H locs hP hS => ?_)
        refine lv_iload_n hx hb dX6_fewest_25 rfl (lv_at hl 2 rfl) ?_
        obtain ⟨z6, hz6, hf⟩ := obd hf
        refine kI (runS (As := [.int v2]) (rest := [.int z5]) C0 hE hAb hP (hDb.addr rfl) hS [] (wc := []) (by decide) rfl (c_X6_ones l D cI cJ cZ cQ bs H.size v2 z6 hz6) (va_cwS 1 hts gX6_fewest_X6_ones rfl rfl rfl (by decide +kernel) ⟨Nat.le_of_ble_eq_true rfl, Nat.le_of_ble_eq_true rfl⟩) rfl hl.1 rfl (Nat.le_of_ble_eq_true rfl) dX6_fewest_26 ⟨Nat.le_of_ble_eq_true rfl, Nat.le_of_ble_eq_true rfl⟩) hS hP (fun H locs hP hS => ?_)
        refine lv_icmp_ge (tgt := 43) hx hb dX6_fewest_29 (by decide) (fun c7 => ?_) (fun c7 => ?_)
        · replace hf := oif c7 hf
          obtain ⟨y8, ey8⟩ : ∃ y : Int32, y = v3 + 1 := ⟨_, rfl⟩
          replace hf := onm ey8 hf
          refine lv_iinc (v := y8) (lv' := [(3, .int y8), (0, .ref (w 0)), (1, .int v1), (2, .int v2)]) hx hb dX6_fewest_43 hl (k := 3) rfl (by rw [ey8]; rfl) (by decide) rfl (fun ls hl => ?_)
          refine lv_goto (tgt := 11) hx hb dX6_fewest_46 (by decide) ?_
          exact ih v1 v2 y8 H locs ls z hP hS (lv_sub hl [1, 2, 3, 0] rfl) hf K
        · replace hf := oel c7 hf
          refine lv_aload_n hx hb dX6_fewest_32 rfl (lv_at hl 0 rfl) ?_
          refine lv_iload_n hx hb dX6_fewest_33 rfl (lv_at hl 3 rfl) ?_
          refine lv_iload_n hx hb dX6_fewest_34 rfl (lv_at hl 1 rfl) ?_
          obtain ⟨z9, hz9, hf⟩ := obd hf
          refine kZ (runV (As := [.int v3, .int v1]) (rest := []) C0 hE hAb hP (hDb.addr rfl) hS [0, 1] (wc := [oX6 w w_undos w_seed w_entries, aJ cJ (w 1) 3420 w_w]) (by decide) rfl 0 rfl rfl (c_X6_isSameOrder l D cI cJ cZ cQ bs H.size w w_undos w_seed w_entries w_w v3 v1 z9 hz9) (cwV 2 hts gX6_fewest_X6_isSameOrder rfl rfl rfl (by decide +kernel) ⟨Nat.le_of_ble_eq_true rfl, Nat.le_of_ble_eq_true rfl⟩) rfl hl.1 rfl (Nat.le_of_ble_eq_true rfl) dX6_fewest_35 ⟨Nat.le_of_ble_eq_true rfl, Nat.le_of_ble_eq_true rfl⟩) hS hP (fun bz9 H locs hP hS => ?_)
          refine lv_if_eq (tgt := 43) hx hb dX6_fewest_38 (by decide) (fun c10 => ?_) (fun c10 => ?_)
          · replace hf := oif c10 hf
            obtain ⟨y11, ey11⟩ : ∃ y : Int32, y = v3 + 1 := ⟨_, rfl⟩
            replace hf := onm ey11 hf
            refine lv_iinc (v := y11) (lv' := [(3, .int y11), (0, .ref (w 0)), (1, .int v1), (2, .int v2)]) hx hb dX6_fewest_43 hl (k := 3) rfl (by rw [ey11]; rfl) (by decide) rfl (fun ls hl => ?_)
            refine lv_goto (tgt := 11) hx hb dX6_fewest_46 (by decide) ?_
            exact ih v1 v2 y11 H locs ls z hP hS (lv_sub hl [1, 2, 3, 0] rfl) hf K
          · replace hf := oel c10 hf
            refine lv_iload_n hx hb dX6_fewest_41 rfl (lv_at hl 3 rfl) ?_
            refine lv_istore_n (lv' := [(2, .int v3), (0, .ref (w 0)), (1, .int v1), (3, .int v3)]) hx hb dX6_fewest_42 rfl hl (by decide) rfl (fun ls hl => ?_)
            obtain ⟨y12, ey12⟩ : ∃ y : Int32, y = v3 + 1 := ⟨_, rfl⟩
            replace hf := onm ey12 hf
            refine lv_iinc (v := y12) (lv' := [(3, .int y12), (2, .int v3), (0, .ref (w 0)), (1, .int v1)]) hx hb dX6_fewest_43 hl (k := 3) rfl (by rw [ey12]; rfl) (by decide) rfl (fun ls hl => ?_)
            refine lv_goto (tgt := 11) hx hb dX6_fewest_46 (by decide) ?_
            exact ih v1 v3 y12 H locs ls z hP hS (lv_sub hl [2, 3, 1, 0] rfl) hf K
  unfold f_X6_fewest at hf
  have go : ∀ (H : Heap) (locs : List Loc), va_P D vwCl [oX6 w w_undos w_seed w_entries, aJ cJ (w 1) 3420 w_w] H → va_S no s.heap H locs → W p l e { frames := 7, cells := 0, slots := 0, locals := 179 } s m args below meth c H locs 0 0 (MQ below (QrI zr) args s 0 0 no) (F0 m 0 ls []) := by
    intro H locs hP hS
    refine lv_iconst (v := 1) hx hb dX6_fewest_0 (by decide) ?_
    refine lv_aload_n hx hb dX6_fewest_1 rfl (lv_at hl 0 rfl) ?_
    obtain ⟨z1, hz1, hf⟩ := obd hf
    refine kI (runV (As := []) (rest := [.int 1]) C0 hE hAb hP (hDb.addr rfl) hS [0, 1] (wc := [oX6 w w_undos w_seed w_entries, aJ cJ (w 1) 3420 w_w]) (by decide) rfl 0 rfl rfl (c_X6_keys l D cI cJ cZ cQ bs H.size w w_undos w_seed w_entries w_w z1 hz1) (cwV 0 hts gX6_fewest_X6_keys rfl rfl rfl (by decide +kernel) ⟨Nat.le_of_ble_eq_true rfl, Nat.le_of_ble_eq_true rfl⟩) rfl hl.1 rfl (Nat.le_of_ble_eq_true rfl) dX6_fewest_2 ⟨Nat.le_of_ble_eq_true rfl, Nat.le_of_ble_eq_true rfl⟩) hS hP (fun H locs hP hS => ?_)
    refine lv_ishl hx hb dX6_fewest_5 ?_
    refine lv_iconst (v := 1) hx hb dX6_fewest_6 (by decide) ?_
    refine lv_isub hx hb dX6_fewest_7 ?_
    refine lv_topi (fun y2 ey2 => ?_)
    replace hf := onm ey2 hf
    refine lv_istore_n (lv' := [(2, .int y2), (0, .ref (w 0)), (1, .int x1)]) hx hb dX6_fewest_8 rfl hl (by decide) rfl (fun ls hl => ?_)
    refine lv_iconst (v := 0) hx hb dX6_fewest_9 (by decide) ?_
    refine lv_istore_n (lv' := [(3, .int 0), (2, .int y2), (0, .ref (w 0)), (1, .int x1)]) hx hb dX6_fewest_10 rfl hl (by decide) rfl (fun ls hl => ?_)
    obtain ⟨z13, hz13, hf⟩ := obd hf
    refine W11 4000 x1 y2 0 H locs ls z13 hP hS (lv_sub hl [2, 3, 1, 0] rfl) hz13 (fun H locs ls hP hS hl => ?_)
    refine lv_iload_n hx hb dX6_fewest_49 rfl (lv_at hl 0 rfl) ?_
    have er := Option.some.inj hf
    exact rtI hx hb hr hS dX6_fewest_50 er hlocks
  exact go s.heap [] hP hS
noncomputable def L_X6_isRising_36 (w_w : Nat → Int64) (v1 : Int32) (v2 : Int32) (v3 : Int32) : Nat → Int32 → Int32 → Option (Int32)
  | 0, _, _ => none
  | n + 1, v4, v5 => if v4 = 0 then (some (v4)) else ((f_X6_many w_w v1).bind (fun z4 => if z4 ≤ v5 then (some (v4)) else ((f_X6_cells w_w v1 v2 v5 (v5 - (1 : Int32))).bind (fun z6 => if v3 = 0 then (if z6 < 0 then ((some (v5 + 1 : Int32)).bind (fun y12 => L_X6_isRising_36 w_w v1 v2 v3 n 0 y12)) else ((some (v5 + 1 : Int32)).bind (fun y13 => L_X6_isRising_36 w_w v1 v2 v3 n 1 y13))) else (if (-z6) < 0 then ((some (v5 + 1 : Int32)).bind (fun y9 => L_X6_isRising_36 w_w v1 v2 v3 n 0 y9)) else ((some (v5 + 1 : Int32)).bind (fun y10 => L_X6_isRising_36 w_w v1 v2 v3 n 1 y10)))))))
noncomputable def f_X6_isRising (w_w : Nat → Int64) (x1 : Int32) (x2 : Int32) (x3 : Int32) : Option (Int32) := (f_X6_isRow w_w x1).bind (fun z1 => if z1 = 0 then ((L_X6_isRising_36 w_w x1 x2 x3 4000 0 1).bind (fun z14 => if z14 = 0 ∨ z14 = 1 then some (z14) else none)) else ((f_X6_many w_w x1).bind (fun z15 => if z15 ≤ 1 then ((L_X6_isRising_36 w_w x1 x2 x3 4000 0 1).bind (fun z17 => if z17 = 0 ∨ z17 = 1 then some (z17) else none)) else ((f_X6_reads w_w x1 x2).bind (fun z18 => if z18 = 0 then ((L_X6_isRising_36 w_w x1 x2 x3 4000 0 1).bind (fun z20 => if z20 = 0 ∨ z20 = 1 then some (z20) else none)) else ((L_X6_isRising_36 w_w x1 x2 x3 4000 1 1).bind (fun z21 => if z21 = 0 ∨ z21 = 1 then some (z21) else none)))))))
set_option maxHeartbeats 4000000 in
set_option maxRecDepth 100000 in
theorem c_X6_isRising (l : Launch) (D : va_G) (cI cJ cZ cQ : ClassId) (bs sz : Nat) (w : Nat → Nat) (w_undos : Int32) (w_seed : Int32) (w_entries : Int32) (w_w : Nat → Int64) (x1 : Int32) (x2 : Int32) (x3 : Int32) (zr : Int32) (hf : f_X6_isRising w_w x1 x2 x3 = some zr) : Met l yX6_isRising wsX6_isRising { frames := 4, cells := 0, slots := 0, locals := 105 } (va_Pc [.ref (w 0), .int x1, .int x2, .int x3] (Pr D cI cJ cZ cQ bs sz [oX6 w w_undos w_seed w_entries, aJ cJ (w 1) 3420 w_w])) (QrZ zr) 0 0 no := by
  refine stM (cc := cX6_isRising) (maxL := 7) (ret := (some .boolean)) (by decide +kernel) rfl (Nat.le_of_ble_eq_true rfl) ?_
  intro p e s m args below meth c C0 hr hlocks hname hsz hP hDb hE ls hl
  have hAb : ∀ q, no q → bs ≤ q := fun _ h => h.elim
  obtain ⟨hx, hb, hml, hown, hts⟩ := id C0
  have hown : s.vm.findClass RX6 = some m.cls := hown
  obtain ⟨hK, hNW, -, tw, hZ, hT⟩ := id hE
  have hl : lv_has ls 7 [(0, .ref (w 0)), (1, .int x1), (2, .int x2), (3, .int x3)] := hl
  have hS : va_S no s.heap s.heap [] := va_S.rf
  have W36 : ∀ (n : Nat) (v1 : Int32) (v2 : Int32) (v3 : Int32) (v4 : Int32) (v5 : Int32) (H : Heap) (locs : List Loc) (ls : Array Slot) (z : Int32), va_P D vwCl [oX6 w w_undos w_seed w_entries, aJ cJ (w 1) 3420 w_w] H → va_S no s.heap H locs → lv_has ls 7 [(0, .ref (w 0)), (1, .int v1), (2, .int v2), (3, .int v3), (4, .int v4), (5, .int v5)] → L_X6_isRising_36 w_w v1 v2 v3 n v4 v5 = some z → (∀ (H : Heap) (locs : List Loc) (ls : Array Slot), va_P D vwCl [oX6 w w_undos w_seed w_entries, aJ cJ (w 1) 3420 w_w] H → va_S no s.heap H locs → lv_has ls 7 [(4, .int z)] → W p l e { frames := 4, cells := 0, slots := 0, locals := 105 } s m args below meth c H locs 0 0 (MQ below (QrZ zr) args s 0 0 no) (F0 m 93 ls [])) → W p l e { frames := 4, cells := 0, slots := 0, locals := 105 } s m args below meth c H locs 0 0 (MQ below (QrZ zr) args s 0 0 no) (F0 m 36 ls []) := by
    intro n
    induction n with
    | zero =>
      intro v1 v2 v3 v4 v5 H locs ls z hP hS hl hf
      exact absurd (show (none : Option (Int32)) = some z from hf) (fun h => by cases h)
    | succ n ih =>
      intro v1 v2 v3 v4 v5 H locs ls z hP hS hl hf K
      rw [L_X6_isRising_36] at hf
      refine lv_iload hx hb dX6_isRising_36 (lv_at hl 4 rfl) ?_
      refine lv_if_eq (tgt := 93) hx hb dX6_isRising_38 (by decide) (fun c3 => ?_) (fun c3 => ?_)
      · replace hf := oif c3 hf
        have hf := Option.some.inj hf
        subst hf
        exact K H locs ls hP hS (lv_sub hl [4] rfl)
      · replace hf := oel c3 hf
        refine lv_iload hx hb dX6_isRising_41 (lv_at hl 5 rfl) ?_
        refine lv_aload_n hx hb dX6_isRising_43 rfl (lv_at hl 0 rfl) ?_
        refine lv_iload_n hx hb dX6_isRising_44 rfl (lv_at hl 1 rfl) ?_
        obtain ⟨z4, hz4, hf⟩ := obd hf
        refine kI (runV (As := [.int v1]) (rest := [.int v5]) C0 hE hAb hP (hDb.addr rfl) hS [0, 1] (wc := [oX6 w w_undos w_seed w_entries, aJ cJ (w 1) 3420 w_w]) (by decide) rfl 0 rfl rfl (c_X6_many l D cI cJ cZ cQ bs H.size w w_undos w_seed w_entries w_w v1 z4 hz4) (cwV 1 hts gX6_isRising_X6_many rfl rfl rfl (by decide +kernel) ⟨Nat.le_of_ble_eq_true rfl, Nat.le_of_ble_eq_true rfl⟩) rfl hl.1 rfl (Nat.le_of_ble_eq_true rfl) dX6_isRising_45 ⟨Nat.le_of_ble_eq_true rfl, Nat.le_of_ble_eq_true rfl⟩) hS hP (fun H locs hP hS => ?_)
        refine lv_icmp_ge (tgt := 93) hx hb dX6_isRising_48 (by decide) (fun c5 => ?_) (fun c5 => ?_)
        · replace hf := oif c5 hf
          have hf := Option.some.inj hf
          subst hf
          exact K H locs ls hP hS (lv_sub hl [4] rfl)
        · replace hf := oel c5 hf
          refine lv_aload_n hx hb dX6_isRising_51 rfl (lv_at hl 0 rfl) ?_
          refine lv_iload_n hx hb dX6_isRising_52 rfl (lv_at hl 1 rfl) ?_
          refine lv_iload_n hx hb dX6_isRising_53 rfl (lv_at hl 2 rfl) ?_
          refine lv_iload hx hb dX6_isRising_54 (lv_at hl 5 rfl) ?_
          refine lv_iload hx hb dX6_isRising_56 (lv_at hl 5 rfl) ?_
          refine lv_iconst (v := 1) hx hb dX6_isRising_58 (by decide) ?_
          refine lv_isub hx hb dX6_isRising_59 ?_
          obtain ⟨z6, hz6, hf⟩ := obd hf
          refine kI (runV (As := [.int v1, .int v2, .int v5, .int (v5 - (1 : Int32))]) (rest := []) C0 hE hAb hP (hDb.addr rfl) hS [0, 1] (wc := [oX6 w w_undos w_seed w_entries, aJ cJ (w 1) 3420 w_w]) (by decide) rfl 0 rfl rfl (c_X6_cells l D cI cJ cZ cQ bs H.size w w_undos w_seed w_entries w_w v1 v2 v5 (v5 - (1 : Int32)) z6 hz6) (cwV 4 hts gX6_isRising_X6_cells rfl rfl rfl (by decide +kernel) ⟨Nat.le_of_ble_eq_true rfl, Nat.le_of_ble_eq_true rfl⟩) rfl hl.1 rfl (Nat.le_of_ble_eq_true rfl) dX6_isRising_60 ⟨Nat.le_of_ble_eq_true rfl, Nat.le_of_ble_eq_true rfl⟩) hS hP (fun H locs hP hS => ?_)
          refine lv_istore (lv' := [(6, .int z6), (0, .ref (w 0)), (1, .int v1), (2, .int v2), (3, .int v3), (4, .int v4), (5, .int v5)]) hx hb dX6_isRising_63 hl (by decide) rfl (fun ls hl => ?_)
          refine lv_iload_n hx hb dX6_isRising_65 rfl (lv_at hl 4 rfl) ?_
          refine lv_if_ne (tgt := 74) hx hb dX6_isRising_66 (by decide) (fun c7 => ?_) (fun c7 => ?_)
          · replace hf := oel c7 hf
            refine lv_iload hx hb dX6_isRising_74 (lv_at hl 0 rfl) ?_
            refine lv_ineg hx hb dX6_isRising_76 ?_
            refine lv_if_lt (tgt := 84) hx hb dX6_isRising_77 (by decide) (fun c8 => ?_) (fun c8 => ?_)
            · replace hf := oif c8 hf
              refine lv_iconst (v := 0) hx hb dX6_isRising_84 (by decide) ?_
              refine lv_istore (lv' := [(4, .int 0), (6, .int z6), (0, .ref (w 0)), (1, .int v1), (2, .int v2), (3, .int v3), (5, .int v5)]) hx hb dX6_isRising_85 hl (by decide) rfl (fun ls hl => ?_)
              obtain ⟨y9, ey9⟩ : ∃ y : Int32, y = v5 + 1 := ⟨_, rfl⟩
              replace hf := onm ey9 hf
              refine lv_iinc (v := y9) (lv' := [(5, .int y9), (4, .int 0), (6, .int z6), (0, .ref (w 0)), (1, .int v1), (2, .int v2), (3, .int v3)]) hx hb dX6_isRising_87 hl (k := 6) rfl (by rw [ey9]; rfl) (by decide) rfl (fun ls hl => ?_)
              refine lv_goto (tgt := 36) hx hb dX6_isRising_90 (by decide) ?_
              exact ih v1 v2 v3 0 y9 H locs ls z hP hS (lv_sub hl [3, 4, 5, 6, 1, 0] rfl) hf K
            · replace hf := oel c8 hf
              refine lv_iconst (v := 1) hx hb dX6_isRising_80 (by decide) ?_
              refine lv_goto (tgt := 85) hx hb dX6_isRising_81 (by decide) ?_
              refine lv_istore (lv' := [(4, .int 1), (6, .int z6), (0, .ref (w 0)), (1, .int v1), (2, .int v2), (3, .int v3), (5, .int v5)]) hx hb dX6_isRising_85 hl (by decide) rfl (fun ls hl => ?_)
              obtain ⟨y10, ey10⟩ : ∃ y : Int32, y = v5 + 1 := ⟨_, rfl⟩
              replace hf := onm ey10 hf
              refine lv_iinc (v := y10) (lv' := [(5, .int y10), (4, .int 1), (6, .int z6), (0, .ref (w 0)), (1, .int v1), (2, .int v2), (3, .int v3)]) hx hb dX6_isRising_87 hl (k := 6) rfl (by rw [ey10]; rfl) (by decide) rfl (fun ls hl => ?_)
              refine lv_goto (tgt := 36) hx hb dX6_isRising_90 (by decide) ?_
              exact ih v1 v2 v3 1 y10 H locs ls z hP hS (lv_sub hl [3, 4, 5, 6, 1, 0] rfl) hf K
          · replace hf := oif c7 hf
            refine lv_iload hx hb dX6_isRising_69 (lv_at hl 0 rfl) ?_
            refine lv_goto (tgt := 77) hx hb dX6_isRising_71 (by decide) ?_
            refine lv_if_lt (tgt := 84) hx hb dX6_isRising_77 (by decide) (fun c11 => ?_) (fun c11 => ?_)
            · replace hf := oif c11 hf
              refine lv_iconst (v := 0) hx hb dX6_isRising_84 (by decide) ?_
              refine lv_istore (lv' := [(4, .int 0), (6, .int z6), (0, .ref (w 0)), (1, .int v1), (2, .int v2), (3, .int v3), (5, .int v5)]) hx hb dX6_isRising_85 hl (by decide) rfl (fun ls hl => ?_)
              obtain ⟨y12, ey12⟩ : ∃ y : Int32, y = v5 + 1 := ⟨_, rfl⟩
              replace hf := onm ey12 hf
              refine lv_iinc (v := y12) (lv' := [(5, .int y12), (4, .int 0), (6, .int z6), (0, .ref (w 0)), (1, .int v1), (2, .int v2), (3, .int v3)]) hx hb dX6_isRising_87 hl (k := 6) rfl (by rw [ey12]; rfl) (by decide) rfl (fun ls hl => ?_)
              refine lv_goto (tgt := 36) hx hb dX6_isRising_90 (by decide) ?_
              exact ih v1 v2 v3 0 y12 H locs ls z hP hS (lv_sub hl [3, 4, 5, 6, 1, 0] rfl) hf K
            · replace hf := oel c11 hf
              refine lv_iconst (v := 1) hx hb dX6_isRising_80 (by decide) ?_
              refine lv_goto (tgt := 85) hx hb dX6_isRising_81 (by decide) ?_
              refine lv_istore (lv' := [(4, .int 1), (6, .int z6), (0, .ref (w 0)), (1, .int v1), (2, .int v2), (3, .int v3), (5, .int v5)]) hx hb dX6_isRising_85 hl (by decide) rfl (fun ls hl => ?_)
              obtain ⟨y13, ey13⟩ : ∃ y : Int32, y = v5 + 1 := ⟨_, rfl⟩
              replace hf := onm ey13 hf
              refine lv_iinc (v := y13) (lv' := [(5, .int y13), (4, .int 1), (6, .int z6), (0, .ref (w 0)), (1, .int v1), (2, .int v2), (3, .int v3)]) hx hb dX6_isRising_87 hl (k := 6) rfl (by rw [ey13]; rfl) (by decide) rfl (fun ls hl => ?_)
              refine lv_goto (tgt := 36) hx hb dX6_isRising_90 (by decide) ?_
              exact ih v1 v2 v3 1 y13 H locs ls z hP hS (lv_sub hl [3, 4, 5, 6, 1, 0] rfl) hf K
  unfold f_X6_isRising at hf
  have go : ∀ (H : Heap) (locs : List Loc), va_P D vwCl [oX6 w w_undos w_seed w_entries, aJ cJ (w 1) 3420 w_w] H → va_S no s.heap H locs → W p l e { frames := 4, cells := 0, slots := 0, locals := 105 } s m args below meth c H locs 0 0 (MQ below (QrZ zr) args s 0 0 no) (F0 m 0 ls []) := by
    intro H locs hP hS
    refine lv_aload_n hx hb dX6_isRising_0 rfl (lv_at hl 0 rfl) ?_
    refine lv_iload_n hx hb dX6_isRising_1 rfl (lv_at hl 1 rfl) ?_
    obtain ⟨z1, hz1, hf⟩ := obd hf
    refine kZ (runV (As := [.int x1]) (rest := []) C0 hE hAb hP (hDb.addr rfl) hS [0, 1] (wc := [oX6 w w_undos w_seed w_entries, aJ cJ (w 1) 3420 w_w]) (by decide) rfl 0 rfl rfl (c_X6_isRow l D cI cJ cZ cQ bs H.size w w_undos w_seed w_entries w_w x1 z1 hz1) (cwV 1 hts gX6_isRising_X6_isRow rfl rfl rfl (by decide +kernel) ⟨Nat.le_of_ble_eq_true rfl, Nat.le_of_ble_eq_true rfl⟩) rfl hl.1 rfl (Nat.le_of_ble_eq_true rfl) dX6_isRising_2 ⟨Nat.le_of_ble_eq_true rfl, Nat.le_of_ble_eq_true rfl⟩) hS hP (fun bz1 H locs hP hS => ?_)
    refine lv_if_eq (tgt := 30) hx hb dX6_isRising_5 (by decide) (fun c2 => ?_) (fun c2 => ?_)
    · replace hf := oif c2 hf
      refine lv_iconst (v := 0) hx hb dX6_isRising_30 (by decide) ?_
      refine lv_istore (lv' := [(4, .int 0), (0, .ref (w 0)), (1, .int x1), (2, .int x2), (3, .int x3)]) hx hb dX6_isRising_31 hl (by decide) rfl (fun ls hl => ?_)
      refine lv_iconst (v := 1) hx hb dX6_isRising_33 (by decide) ?_
      refine lv_istore (lv' := [(5, .int 1), (4, .int 0), (0, .ref (w 0)), (1, .int x1), (2, .int x2), (3, .int x3)]) hx hb dX6_isRising_34 hl (by decide) rfl (fun ls hl => ?_)
      obtain ⟨z14, hz14, hf⟩ := obd hf
      refine W36 4000 x1 x2 x3 0 1 H locs ls z14 hP hS (lv_sub hl [2, 3, 4, 5, 1, 0] rfl) hz14 (fun H locs ls hP hS hl => ?_)
      refine lv_iload hx hb dX6_isRising_93 (lv_at hl 0 rfl) ?_
      obtain ⟨hg01, hf⟩ := ogd hf
      have er := Option.some.inj hf
      exact rtZ hx hb hr hS dX6_isRising_95 er hg01 hlocks
    · replace hf := oel c2 hf
      refine lv_aload_n hx hb dX6_isRising_8 rfl (lv_at hl 0 rfl) ?_
      refine lv_iload_n hx hb dX6_isRising_9 rfl (lv_at hl 1 rfl) ?_
      obtain ⟨z15, hz15, hf⟩ := obd hf
      refine kI (runV (As := [.int x1]) (rest := []) C0 hE hAb hP (hDb.addr rfl) hS [0, 1] (wc := [oX6 w w_undos w_seed w_entries, aJ cJ (w 1) 3420 w_w]) (by decide) rfl 0 rfl rfl (c_X6_many l D cI cJ cZ cQ bs H.size w w_undos w_seed w_entries w_w x1 z15 hz15) (cwV 1 hts gX6_isRising_X6_many rfl rfl rfl (by decide +kernel) ⟨Nat.le_of_ble_eq_true rfl, Nat.le_of_ble_eq_true rfl⟩) rfl hl.1 rfl (Nat.le_of_ble_eq_true rfl) dX6_isRising_10 ⟨Nat.le_of_ble_eq_true rfl, Nat.le_of_ble_eq_true rfl⟩) hS hP (fun H locs hP hS => ?_)
      refine lv_iconst (v := 1) hx hb dX6_isRising_13 (by decide) ?_
      refine lv_icmp_le (tgt := 30) hx hb dX6_isRising_14 (by decide) (fun c16 => ?_) (fun c16 => ?_)
      · replace hf := oif c16 hf
        refine lv_iconst (v := 0) hx hb dX6_isRising_30 (by decide) ?_
        refine lv_istore (lv' := [(4, .int 0), (0, .ref (w 0)), (1, .int x1), (2, .int x2), (3, .int x3)]) hx hb dX6_isRising_31 hl (by decide) rfl (fun ls hl => ?_)
        refine lv_iconst (v := 1) hx hb dX6_isRising_33 (by decide) ?_
        refine lv_istore (lv' := [(5, .int 1), (4, .int 0), (0, .ref (w 0)), (1, .int x1), (2, .int x2), (3, .int x3)]) hx hb dX6_isRising_34 hl (by decide) rfl (fun ls hl => ?_)
        obtain ⟨z17, hz17, hf⟩ := obd hf
        refine W36 4000 x1 x2 x3 0 1 H locs ls z17 hP hS (lv_sub hl [2, 3, 4, 5, 1, 0] rfl) hz17 (fun H locs ls hP hS hl => ?_)
        refine lv_iload hx hb dX6_isRising_93 (lv_at hl 0 rfl) ?_
        obtain ⟨hg01, hf⟩ := ogd hf
        have er := Option.some.inj hf
        exact rtZ hx hb hr hS dX6_isRising_95 er hg01 hlocks
      · replace hf := oel c16 hf
        refine lv_aload_n hx hb dX6_isRising_17 rfl (lv_at hl 0 rfl) ?_
        refine lv_iload_n hx hb dX6_isRising_18 rfl (lv_at hl 1 rfl) ?_
        refine lv_iload_n hx hb dX6_isRising_19 rfl (lv_at hl 2 rfl) ?_
        obtain ⟨z18, hz18, hf⟩ := obd hf
        refine kZ (runV (As := [.int x1, .int x2]) (rest := []) C0 hE hAb hP (hDb.addr rfl) hS [0, 1] (wc := [oX6 w w_undos w_seed w_entries, aJ cJ (w 1) 3420 w_w]) (by decide) rfl 0 rfl rfl (c_X6_reads l D cI cJ cZ cQ bs H.size w w_undos w_seed w_entries w_w x1 x2 z18 hz18) (cwV 2 hts gX6_isRising_X6_reads rfl rfl rfl (by decide +kernel) ⟨Nat.le_of_ble_eq_true rfl, Nat.le_of_ble_eq_true rfl⟩) rfl hl.1 rfl (Nat.le_of_ble_eq_true rfl) dX6_isRising_20 ⟨Nat.le_of_ble_eq_true rfl, Nat.le_of_ble_eq_true rfl⟩) hS hP (fun bz18 H locs hP hS => ?_)
        refine lv_if_eq (tgt := 30) hx hb dX6_isRising_23 (by decide) (fun c19 => ?_) (fun c19 => ?_)
        · replace hf := oif c19 hf
          refine lv_iconst (v := 0) hx hb dX6_isRising_30 (by decide) ?_
          refine lv_istore (lv' := [(4, .int 0), (0, .ref (w 0)), (1, .int x1), (2, .int x2), (3, .int x3)]) hx hb dX6_isRising_31 hl (by decide) rfl (fun ls hl => ?_)
          refine lv_iconst (v := 1) hx hb dX6_isRising_33 (by decide) ?_
          refine lv_istore (lv' := [(5, .int 1), (4, .int 0), (0, .ref (w 0)), (1, .int x1), (2, .int x2), (3, .int x3)]) hx hb dX6_isRising_34 hl (by decide) rfl (fun ls hl => ?_)
          obtain ⟨z20, hz20, hf⟩ := obd hf
          refine W36 4000 x1 x2 x3 0 1 H locs ls z20 hP hS (lv_sub hl [2, 3, 4, 5, 1, 0] rfl) hz20 (fun H locs ls hP hS hl => ?_)
          refine lv_iload hx hb dX6_isRising_93 (lv_at hl 0 rfl) ?_
          obtain ⟨hg01, hf⟩ := ogd hf
          have er := Option.some.inj hf
          exact rtZ hx hb hr hS dX6_isRising_95 er hg01 hlocks
        · replace hf := oel c19 hf
          refine lv_iconst (v := 1) hx hb dX6_isRising_26 (by decide) ?_
          refine lv_goto (tgt := 31) hx hb dX6_isRising_27 (by decide) ?_
          refine lv_istore (lv' := [(4, .int 1), (0, .ref (w 0)), (1, .int x1), (2, .int x2), (3, .int x3)]) hx hb dX6_isRising_31 hl (by decide) rfl (fun ls hl => ?_)
          refine lv_iconst (v := 1) hx hb dX6_isRising_33 (by decide) ?_
          refine lv_istore (lv' := [(5, .int 1), (4, .int 1), (0, .ref (w 0)), (1, .int x1), (2, .int x2), (3, .int x3)]) hx hb dX6_isRising_34 hl (by decide) rfl (fun ls hl => ?_)
          obtain ⟨z21, hz21, hf⟩ := obd hf
          refine W36 4000 x1 x2 x3 1 1 H locs ls z21 hP hS (lv_sub hl [2, 3, 4, 5, 1, 0] rfl) hz21 (fun H locs ls hP hS hl => ?_)
          refine lv_iload hx hb dX6_isRising_93 (lv_at hl 0 rfl) ?_
          obtain ⟨hg01, hf⟩ := ogd hf
          have er := Option.some.inj hf
          exact rtZ hx hb hr hS dX6_isRising_95 er hg01 hlocks
  exact go s.heap [] hP hS
noncomputable def L_X6_explained_2 (w_w : Nat → Int64) : Nat → Int32 → Option ((Unit) ⊕ (Int32))
  | 0, _ => none
  | n + 1, v1 => if 108 ≤ v1 then (some (.inl (()))) else ((f_X6_isRising w_w (v1 / (18 : Int32)) ((v1 / (2 : Int32)) - (v1 / (2 : Int32)) / (9 : Int32) * (9 : Int32)) (v1 - v1 / (2 : Int32) * (2 : Int32))).bind (fun z6 => if z6 = 0 then ((some (v1 + 1 : Int32)).bind (fun y8 => L_X6_explained_2 w_w n y8)) else (some (.inr (v1)))))
noncomputable def f_X6_explained (w_w : Nat → Int64) : Option (Int32) := (L_X6_explained_2 w_w 4000 0).bind (fun z9 => Sum.elim (fun e10 => some ((-1))) (fun r9 => some (r9)) z9)
set_option maxHeartbeats 4000000 in
set_option maxRecDepth 100000 in
theorem c_X6_explained (l : Launch) (D : va_G) (cI cJ cZ cQ : ClassId) (bs sz : Nat) (w : Nat → Nat) (w_undos : Int32) (w_seed : Int32) (w_entries : Int32) (w_w : Nat → Int64) (zr : Int32) (hf : f_X6_explained w_w = some zr) : Met l yX6_explained wsX6_explained { frames := 5, cells := 0, slots := 0, locals := 131 } (va_Pc [.ref (w 0)] (Pr D cI cJ cZ cQ bs sz [oX6 w w_undos w_seed w_entries, aJ cJ (w 1) 3420 w_w])) (QrI zr) 0 0 no := by
  refine stM (cc := cX6_explained) (maxL := 2) (ret := (some .int)) (by decide +kernel) rfl (Nat.le_of_ble_eq_true rfl) ?_
  intro p e s m args below meth c C0 hr hlocks hname hsz hP hDb hE ls hl
  have hAb : ∀ q, no q → bs ≤ q := fun _ h => h.elim
  obtain ⟨hx, hb, hml, hown, hts⟩ := id C0
  have hown : s.vm.findClass RX6 = some m.cls := hown
  obtain ⟨hK, hNW, -, tw, hZ, hT⟩ := id hE
  have hl : lv_has ls 2 [(0, .ref (w 0))] := hl
  have hS : va_S no s.heap s.heap [] := va_S.rf
  have W2 : ∀ (n : Nat) (v1 : Int32) (H : Heap) (locs : List Loc) (ls : Array Slot) (z : (Unit) ⊕ (Int32)), va_P D vwCl [oX6 w w_undos w_seed w_entries, aJ cJ (w 1) 3420 w_w] H → va_S no s.heap H locs → lv_has ls 2 [(0, .ref (w 0)), (1, .int v1)] → L_X6_explained_2 w_w n v1 = some z → (∀ e9, z = Sum.inl e9 → ∀ (H : Heap) (locs : List Loc) (ls : Array Slot), va_P D vwCl [oX6 w w_undos w_seed w_entries, aJ cJ (w 1) 3420 w_w] H → va_S no s.heap H locs → lv_has ls 2 [] → W p l e { frames := 5, cells := 0, slots := 0, locals := 131 } s m args below meth c H locs 0 0 (MQ below (QrI zr) args s 0 0 no) (F0 m 36 ls [])) → (∀ r9, z = Sum.inr r9 → r9 = zr) → W p l e { frames := 5, cells := 0, slots := 0, locals := 131 } s m args below meth c H locs 0 0 (MQ below (QrI zr) args s 0 0 no) (F0 m 2 ls []) := by
    intro n
    induction n with
    | zero =>
      intro v1 H locs ls z hP hS hl hf
      exact absurd (show (none : Option ((Unit) ⊕ (Int32))) = some z from hf) (fun h => by cases h)
    | succ n ih =>
      intro v1 H locs ls z hP hS hl hf K K2
      rw [L_X6_explained_2] at hf
      refine lv_iload_n hx hb dX6_explained_2 rfl (lv_at hl 1 rfl) ?_
      refine lv_bipush (v := 108) hx hb dX6_explained_3 (by decide) ?_
      refine lv_icmp_ge (tgt := 36) hx hb dX6_explained_5 (by decide) (fun c1 => ?_) (fun c1 => ?_)
      · replace hf := oif c1 hf
        exact K _ (Option.some.inj hf).symm H locs ls hP hS (lv_sub hl [] rfl)
      · replace hf := oel c1 hf
        refine lv_aload_n hx hb dX6_explained_8 rfl (lv_at hl 0 rfl) ?_
        refine lv_iload_n hx hb dX6_explained_9 rfl (lv_at hl 1 rfl) ?_
        refine lv_bipush (v := 18) hx hb dX6_explained_10 (by decide) ?_
        refine lv_idiv hx hb dX6_explained_12 (by decide) ?_
        refine lv_iload_n hx hb dX6_explained_13 rfl (lv_at hl 1 rfl) ?_
        refine lv_iconst (v := 2) hx hb dX6_explained_14 (by decide) ?_
        refine lv_idiv hx hb dX6_explained_15 (by decide) ?_
        refine lv_bipush (v := 9) hx hb dX6_explained_16 (by decide) ?_
        refine lv_irem hx hb dX6_explained_18 (by decide) ?_
        refine lv_iload_n hx hb dX6_explained_19 rfl (lv_at hl 1 rfl) ?_
        refine lv_iconst (v := 2) hx hb dX6_explained_20 (by decide) ?_
        refine lv_irem hx hb dX6_explained_21 (by decide) ?_
        obtain ⟨z6, hz6, hf⟩ := obd hf
        refine kZ (runV (As := [.int (v1 / (18 : Int32)), .int ((v1 / (2 : Int32)) - (v1 / (2 : Int32)) / (9 : Int32) * (9 : Int32)), .int (v1 - v1 / (2 : Int32) * (2 : Int32))]) (rest := []) C0 hE hAb hP (hDb.addr rfl) hS [0, 1] (wc := [oX6 w w_undos w_seed w_entries, aJ cJ (w 1) 3420 w_w]) (by decide) rfl 0 rfl rfl (c_X6_isRising l D cI cJ cZ cQ bs H.size w w_undos w_seed w_entries w_w (v1 / (18 : Int32)) ((v1 / (2 : Int32)) - (v1 / (2 : Int32)) / (9 : Int32) * (9 : Int32)) (v1 - v1 / (2 : Int32) * (2 : Int32)) z6 hz6) (cwV 3 hts gX6_explained_X6_isRising rfl rfl rfl (by decide +kernel) ⟨Nat.le_of_ble_eq_true rfl, Nat.le_of_ble_eq_true rfl⟩) rfl hl.1 rfl (Nat.le_of_ble_eq_true rfl) dX6_explained_22 ⟨Nat.le_of_ble_eq_true rfl, Nat.le_of_ble_eq_true rfl⟩) hS hP (fun bz6 H locs hP hS => ?_)
        refine lv_if_eq (tgt := 30) hx hb dX6_explained_25 (by decide) (fun c7 => ?_) (fun c7 => ?_)
        · replace hf := oif c7 hf
          obtain ⟨y8, ey8⟩ : ∃ y : Int32, y = v1 + 1 := ⟨_, rfl⟩
          replace hf := onm ey8 hf
          refine lv_iinc (v := y8) (lv' := [(1, .int y8), (0, .ref (w 0))]) hx hb dX6_explained_30 hl (k := 1) rfl (by rw [ey8]; rfl) (by decide) rfl (fun ls hl => ?_)
          refine lv_goto (tgt := 2) hx hb dX6_explained_33 (by decide) ?_
          exact ih y8 H locs ls z hP hS (lv_sub hl [1, 0] rfl) hf K K2
        · replace hf := oel c7 hf
          refine lv_iload_n hx hb dX6_explained_28 rfl (lv_at hl 1 rfl) ?_
          have er := K2 _ (Option.some.inj hf).symm
          exact rtI hx hb hr hS dX6_explained_29 er hlocks
  unfold f_X6_explained at hf
  have go : ∀ (H : Heap) (locs : List Loc), va_P D vwCl [oX6 w w_undos w_seed w_entries, aJ cJ (w 1) 3420 w_w] H → va_S no s.heap H locs → W p l e { frames := 5, cells := 0, slots := 0, locals := 131 } s m args below meth c H locs 0 0 (MQ below (QrI zr) args s 0 0 no) (F0 m 0 ls []) := by
    intro H locs hP hS
    refine lv_iconst (v := 0) hx hb dX6_explained_0 (by decide) ?_
    refine lv_istore_n (lv' := [(1, .int 0), (0, .ref (w 0))]) hx hb dX6_explained_1 rfl hl (by decide) rfl (fun ls hl => ?_)
    obtain ⟨z9, hz9, hf⟩ := obd hf
    refine W2 4000 0 H locs ls z9 hP hS (lv_sub hl [1, 0] rfl) hz9 (fun e10 ee H locs ls hP hS hl => ?_) (fun r9 er => by subst er; exact Option.some.inj hf)
    subst ee
    replace hf := osl hf
    refine lv_iconst (v := (-1)) hx hb dX6_explained_36 (by decide) ?_
    have er := Option.some.inj hf
    exact rtI hx hb hr hS dX6_explained_37 er hlocks
  exact go s.heap [] hP hS
noncomputable def L_X6_wrong_7 (w_w : Nat → Int64) (w_entries : Int32) (w_bookPlace : Nat → Int32) (w_bookPosition : Nat → Int32) (v1 : Int32) : Nat → Int32 → Option ((Unit) ⊕ (Int32))
  | 0, _ => none
  | n + 1, v2 => if w_entries ≤ v2 then (some (.inl (()))) else (if ib v2 20 = true then (if v1 ≤ (w_bookPlace v2.toNatClampNeg) then (some (.inr (v2))) else (if ib v2 20 = true then ((f_X6_position w_w 15 (w_bookPlace v2.toNatClampNeg) v1).bind (fun z6 => if ib v2 20 = true then (if z6 = (w_bookPosition v2.toNatClampNeg) then ((some (v2 + 1 : Int32)).bind (fun y9 => L_X6_wrong_7 w_w w_entries w_bookPlace w_bookPosition v1 n y9)) else (some (.inr (v2)))) else none)) else none)) else none)
noncomputable def f_X6_wrong (w_w : Nat → Int64) (w_entries : Int32) (w_bookPlace : Nat → Int32) (w_bookPosition : Nat → Int32) : Option (Int32) := (f_X6_places w_w).bind (fun z1 => (L_X6_wrong_7 w_w w_entries w_bookPlace w_bookPosition z1 4000 0).bind (fun z10 => Sum.elim (fun e11 => some ((-1))) (fun r9 => some (r9)) z10))
set_option maxHeartbeats 4000000 in
set_option maxRecDepth 100000 in
theorem c_X6_wrong (l : Launch) (D : va_G) (cI cJ cZ cQ : ClassId) (bs sz : Nat) (w : Nat → Nat) (w_undos : Int32) (w_seed : Int32) (w_entries : Int32) (w_w : Nat → Int64) (w_bookPlace : Nat → Int32) (w_bookPosition : Nat → Int32) (zr : Int32) (hf : f_X6_wrong w_w w_entries w_bookPlace w_bookPosition = some zr) : Met l yX6_wrong wsX6_wrong { frames := 6, cells := 0, slots := 0, locals := 156 } (va_Pc [.ref (w 0)] (Pr D cI cJ cZ cQ bs sz [oX6 w w_undos w_seed w_entries, aJ cJ (w 1) 3420 w_w, aI cI (w 4) 20 w_bookPlace, aI cI (w 5) 20 w_bookPosition])) (QrI zr) 0 0 no := by
  refine stM (cc := cX6_wrong) (maxL := 3) (ret := (some .int)) (by decide +kernel) rfl (Nat.le_of_ble_eq_true rfl) ?_
  intro p e s m args below meth c C0 hr hlocks hname hsz hP hDb hE ls hl
  have hAb : ∀ q, no q → bs ≤ q := fun _ h => h.elim
  obtain ⟨hx, hb, hml, hown, hts⟩ := id C0
  have hown : s.vm.findClass RX6 = some m.cls := hown
  obtain ⟨hK, hNW, -, tw, hZ, hT⟩ := id hE
  have hl : lv_has ls 3 [(0, .ref (w 0))] := hl
  have hS : va_S no s.heap s.heap [] := va_S.rf
  have hI_X6 := (show ∀ w ∈ wsX60, w ∈ wsX6_wrong by decide +kernel)
  have gf154 := hts (.fieldLink RX6 154 "RowRanksModel" "entries" "I") (by decide +kernel)
  have gf21 := hts (.fieldLink RX6 21 "RowRanksModel" "bookPlace" "[I") (by decide +kernel)
  have gf24 := hts (.fieldLink RX6 24 "RowRanksModel" "bookPosition" "[I") (by decide +kernel)
  have W7 : ∀ (n : Nat) (v1 : Int32) (v2 : Int32) (H : Heap) (locs : List Loc) (ls : Array Slot) (z : (Unit) ⊕ (Int32)), va_P D vwCl [oX6 w w_undos w_seed w_entries, aJ cJ (w 1) 3420 w_w, aI cI (w 4) 20 w_bookPlace, aI cI (w 5) 20 w_bookPosition] H → va_S no s.heap H locs → lv_has ls 3 [(0, .ref (w 0)), (1, .int v1), (2, .int v2)] → L_X6_wrong_7 w_w w_entries w_bookPlace w_bookPosition v1 n v2 = some z → (∀ e9, z = Sum.inl e9 → ∀ (H : Heap) (locs : List Loc) (ls : Array Slot), va_P D vwCl [oX6 w w_undos w_seed w_entries, aJ cJ (w 1) 3420 w_w, aI cI (w 4) 20 w_bookPlace, aI cI (w 5) 20 w_bookPosition] H → va_S no s.heap H locs → lv_has ls 3 [] → W p l e { frames := 6, cells := 0, slots := 0, locals := 156 } s m args below meth c H locs 0 0 (MQ below (QrI zr) args s 0 0 no) (F0 m 55 ls [])) → (∀ r9, z = Sum.inr r9 → r9 = zr) → W p l e { frames := 6, cells := 0, slots := 0, locals := 156 } s m args below meth c H locs 0 0 (MQ below (QrI zr) args s 0 0 no) (F0 m 7 ls []) := by
    intro n
    induction n with
    | zero =>
      intro v1 v2 H locs ls z hP hS hl hf
      exact absurd (show (none : Option ((Unit) ⊕ (Int32))) = some z from hf) (fun h => by cases h)
    | succ n ih =>
      intro v1 v2 H locs ls z hP hS hl hf K K2
      rw [L_X6_wrong_7] at hf
      refine lv_iload_n hx hb dX6_wrong_7 rfl (lv_at hl 2 rfl) ?_
      refine lv_aload_n hx hb dX6_wrong_8 rfl (lv_at hl 0 rfl) ?_
      refine va_get (D := D) (ci := 6) (v := .int w_entries) (C := RX6) (T := TX6) (N := 12) hx hb hts hI_X6 hown hK hP 0 rfl rfl 5 (by decide) gf154 (fun _ h9 => h9) rfl dX6_wrong_9 ?_
      refine lv_icmp_ge (tgt := 55) hx hb dX6_wrong_12 (by decide) (fun c2 => ?_) (fun c2 => ?_)
      · replace hf := oif c2 hf
        exact K _ (Option.some.inj hf).symm H locs ls hP hS (lv_sub hl [] rfl)
      · replace hf := oel c2 hf
        refine lv_aload_n hx hb dX6_wrong_15 rfl (lv_at hl 0 rfl) ?_
        refine va_get (D := D) (ci := 6) (v := .ref (w 4)) (C := RX6) (T := TX6) (N := 12) hx hb hts hI_X6 hown hK hP 0 rfl rfl 6 (by decide) gf21 (fun _ h9 => h9) rfl dX6_wrong_16 ?_
        refine lv_iload_n hx hb dX6_wrong_19 rfl (lv_at hl 2 rfl) ?_
        obtain ⟨h3, hf⟩ := ogd hf
        refine va_iald hx hb hK hP 2 0 rfl rfl (ib_in h3) dX6_wrong_20 ?_
        refine lv_iload_n hx hb dX6_wrong_21 rfl (lv_at hl 1 rfl) ?_
        refine lv_icmp_ge (tgt := 47) hx hb dX6_wrong_22 (by decide) (fun c4 => ?_) (fun c4 => ?_)
        · replace hf := oif c4 hf
          refine lv_iload_n hx hb dX6_wrong_47 rfl (lv_at hl 2 rfl) ?_
          have er := K2 _ (Option.some.inj hf).symm
          exact rtI hx hb hr hS dX6_wrong_48 er hlocks
        · replace hf := oel c4 hf
          refine lv_aload_n hx hb dX6_wrong_25 rfl (lv_at hl 0 rfl) ?_
          refine lv_bipush (v := 15) hx hb dX6_wrong_26 (by decide) ?_
          refine lv_aload_n hx hb dX6_wrong_28 rfl (lv_at hl 0 rfl) ?_
          refine va_get (D := D) (ci := 6) (v := .ref (w 4)) (C := RX6) (T := TX6) (N := 12) hx hb hts hI_X6 hown hK hP 0 rfl rfl 6 (by decide) gf21 (fun _ h9 => h9) rfl dX6_wrong_29 ?_
          refine lv_iload_n hx hb dX6_wrong_32 rfl (lv_at hl 2 rfl) ?_
          obtain ⟨h5, hf⟩ := ogd hf
          refine va_iald hx hb hK hP 2 0 rfl rfl (ib_in h5) dX6_wrong_33 ?_
          refine lv_iload_n hx hb dX6_wrong_34 rfl (lv_at hl 1 rfl) ?_
          obtain ⟨z6, hz6, hf⟩ := obd hf
          refine kI (runV (As := [.int 15, .int (w_bookPlace v2.toNatClampNeg), .int v1]) (rest := []) C0 hE hAb hP (hDb.addr rfl) hS [0, 1] (wc := [oX6 w w_undos w_seed w_entries, aJ cJ (w 1) 3420 w_w]) (by decide) rfl 0 rfl rfl (c_X6_position l D cI cJ cZ cQ bs H.size w w_undos w_seed w_entries w_w 15 (w_bookPlace v2.toNatClampNeg) v1 z6 hz6) (cwV 3 hts gX6_wrong_X6_position rfl rfl rfl (by decide +kernel) ⟨Nat.le_of_ble_eq_true rfl, Nat.le_of_ble_eq_true rfl⟩) rfl hl.1 rfl (Nat.le_of_ble_eq_true rfl) dX6_wrong_35 ⟨Nat.le_of_ble_eq_true rfl, Nat.le_of_ble_eq_true rfl⟩) hS hP (fun H locs hP hS => ?_)
          refine lv_aload_n hx hb dX6_wrong_38 rfl (lv_at hl 0 rfl) ?_
          refine va_get (D := D) (ci := 6) (v := .ref (w 5)) (C := RX6) (T := TX6) (N := 12) hx hb hts hI_X6 hown hK hP 0 rfl rfl 7 (by decide) gf24 (fun _ h9 => h9) rfl dX6_wrong_39 ?_
          refine lv_iload_n hx hb dX6_wrong_42 rfl (lv_at hl 2 rfl) ?_
          obtain ⟨h7, hf⟩ := ogd hf
          refine va_iald hx hb hK hP 3 0 rfl rfl (ib_in h7) dX6_wrong_43 ?_
          refine lv_icmp_eq (tgt := 49) hx hb dX6_wrong_44 (by decide) (fun c8 => ?_) (fun c8 => ?_)
          · replace hf := oif c8 hf
            obtain ⟨y9, ey9⟩ : ∃ y : Int32, y = v2 + 1 := ⟨_, rfl⟩
            replace hf := onm ey9 hf
            refine lv_iinc (v := y9) (lv' := [(2, .int y9), (0, .ref (w 0)), (1, .int v1)]) hx hb dX6_wrong_49 hl (k := 2) rfl (by rw [ey9]; rfl) (by decide) rfl (fun ls hl => ?_)
            refine lv_goto (tgt := 7) hx hb dX6_wrong_52 (by decide) ?_
            exact ih v1 y9 H locs ls z hP hS (lv_sub hl [1, 2, 0] rfl) hf K K2
          · replace hf := oel c8 hf
            refine lv_iload_n hx hb dX6_wrong_47 rfl (lv_at hl 2 rfl) ?_
            have er := K2 _ (Option.some.inj hf).symm
            exact rtI hx hb hr hS dX6_wrong_48 er hlocks
  unfold f_X6_wrong at hf
  have go : ∀ (H : Heap) (locs : List Loc), va_P D vwCl [oX6 w w_undos w_seed w_entries, aJ cJ (w 1) 3420 w_w, aI cI (w 4) 20 w_bookPlace, aI cI (w 5) 20 w_bookPosition] H → va_S no s.heap H locs → W p l e { frames := 6, cells := 0, slots := 0, locals := 156 } s m args below meth c H locs 0 0 (MQ below (QrI zr) args s 0 0 no) (F0 m 0 ls []) := by
    intro H locs hP hS
    refine lv_aload_n hx hb dX6_wrong_0 rfl (lv_at hl 0 rfl) ?_
    obtain ⟨z1, hz1, hf⟩ := obd hf
    refine kI (runV (As := []) (rest := []) C0 hE hAb hP (hDb.addr rfl) hS [0, 1] (wc := [oX6 w w_undos w_seed w_entries, aJ cJ (w 1) 3420 w_w]) (by decide) rfl 0 rfl rfl (c_X6_places l D cI cJ cZ cQ bs H.size w w_undos w_seed w_entries w_w z1 hz1) (cwV 0 hts gX6_wrong_X6_places rfl rfl rfl (by decide +kernel) ⟨Nat.le_of_ble_eq_true rfl, Nat.le_of_ble_eq_true rfl⟩) rfl hl.1 rfl (Nat.le_of_ble_eq_true rfl) dX6_wrong_1 ⟨Nat.le_of_ble_eq_true rfl, Nat.le_of_ble_eq_true rfl⟩) hS hP (fun H locs hP hS => ?_)
    refine lv_istore_n (lv' := [(1, .int z1), (0, .ref (w 0))]) hx hb dX6_wrong_4 rfl hl (by decide) rfl (fun ls hl => ?_)
    refine lv_iconst (v := 0) hx hb dX6_wrong_5 (by decide) ?_
    refine lv_istore_n (lv' := [(2, .int 0), (1, .int z1), (0, .ref (w 0))]) hx hb dX6_wrong_6 rfl hl (by decide) rfl (fun ls hl => ?_)
    obtain ⟨z10, hz10, hf⟩ := obd hf
    refine W7 4000 z1 0 H locs ls z10 hP hS (lv_sub hl [2, 1, 0] rfl) hz10 (fun e11 ee H locs ls hP hS hl => ?_) (fun r9 er => by subst er; exact Option.some.inj hf)
    subst ee
    replace hf := osl hf
    refine lv_iconst (v := (-1)) hx hb dX6_wrong_55 (by decide) ?_
    have er := Option.some.inj hf
    exact rtI hx hb hr hS dX6_wrong_56 er hlocks
  exact go s.heap [] hP hS
noncomputable def f_X6_ofOrder (w_w : Nat → Int64) (w_scratch : Nat → Int32) (x1 : Int32) (x2 : Int32) : Option (Int32 × (Nat → Int32)) := if x1 = 3 then ((f_X6_pairs w_w x2 0).bind (fun z2 => some ((z2, w_scratch)))) else (if x1 = 4 then ((f_X6_pairs w_w x2 1).bind (fun z4 => some ((z4, w_scratch)))) else (if x1 = 5 then ((f_X6_runs w_w x2).bind (fun z6 => some ((z6, w_scratch)))) else (if x1 = 6 then ((f_X6_staying w_w w_scratch x2).bind (fun z8 => some ((z8.1, z8.2)))) else (if x1 = 7 then ((f_X6_swaps w_w x2).bind (fun z10 => some ((z10, w_scratch)))) else (if x1 = 8 then ((f_X6_passes w_w x2).bind (fun z12 => some ((z12, w_scratch)))) else (if x1 = 9 then ((f_X6_matters w_w x2).bind (fun z14 => some ((z14, w_scratch)))) else ((f_X6_fewest w_w x2).bind (fun z15 => some ((z15, w_scratch))))))))))
set_option maxHeartbeats 4000000 in
set_option maxRecDepth 100000 in
theorem c_X6_ofOrder (l : Launch) (D : va_G) (cI cJ cZ cQ : ClassId) (bs sz : Nat) (w : Nat → Nat) (w_undos : Int32) (w_seed : Int32) (w_entries : Int32) (w_w : Nat → Int64) (w_scratch : Nat → Int32) (x1 : Int32) (x2 : Int32) (zr : Int32 × (Nat → Int32)) (hf : f_X6_ofOrder w_w w_scratch x1 x2 = some zr) : Met l yX6_ofOrder wsX6_ofOrder { frames := 8, cells := 0, slots := 0, locals := 202 } (va_Pc [.ref (w 0), .int x1, .int x2] (Pr D cI cJ cZ cQ bs sz [oX6 w w_undos w_seed w_entries, aJ cJ (w 1) 3420 w_w, aI cI (w 6) 12 w_scratch])) (QwI D zr (fun u => [oX6 w w_undos w_seed w_entries, aJ cJ (w 1) 3420 w_w, aI cI (w 6) 12 u]) (va_A [oX6 w w_undos w_seed w_entries, aJ cJ (w 1) 3420 w_w, aI cI (w 6) 12 w_scratch] sz)) 0 0 (va_A [oX6 w w_undos w_seed w_entries, aJ cJ (w 1) 3420 w_w, aI cI (w 6) 12 w_scratch] sz) := by
  refine stW (cc := cX6_ofOrder) (maxL := 3) (ret := (some .int)) (Qf := fun A => (QwI D zr (fun u => [oX6 w w_undos w_seed w_entries, aJ cJ (w 1) 3420 w_w, aI cI (w 6) 12 u]) A)) (by decide +kernel) rfl (Nat.le_of_ble_eq_true rfl) ?_
  intro p e s m args below meth c A C0 hr hlocks hname hsz hP hD hA hAb hE ls hl
  obtain ⟨hx, hb, hml, hown, hts⟩ := id C0
  have hown : s.vm.findClass RX6 = some m.cls := hown
  obtain ⟨hK, hNW, -, tw, hZ, hT⟩ := id hE
  have hl : lv_has ls 3 [(0, .ref (w 0)), (1, .int x1), (2, .int x2)] := hl
  have hS : va_S A s.heap s.heap [] := va_S.rf
  unfold f_X6_ofOrder at hf
  have go : ∀ (H : Heap) (locs : List Loc), va_P D vwCl [oX6 w w_undos w_seed w_entries, aJ cJ (w 1) 3420 w_w, aI cI (w 6) 12 w_scratch] H → va_S A s.heap H locs → W p l e { frames := 8, cells := 0, slots := 0, locals := 202 } s m args below meth c H locs 0 0 (MQ below (QwI D zr (fun u => [oX6 w w_undos w_seed w_entries, aJ cJ (w 1) 3420 w_w, aI cI (w 6) 12 u]) A) args s 0 0 A) (F0 m 0 ls []) := by
    intro H locs hP hS
    refine lv_iload_n hx hb dX6_ofOrder_0 rfl (lv_at hl 1 rfl) ?_
    by_cases c1 : x1 = 3
    · replace hf := oif c1 hf
      refine cgI c1 ?_
      refine lv_tableIn (off := 43) (tgt := 44) hx hb dX6_ofOrder_1 (by decide) (by decide) (by decide +kernel) (by decide) ?_
      refine lv_aload_n hx hb dX6_ofOrder_44 rfl (lv_at hl 0 rfl) ?_
      refine lv_iload_n hx hb dX6_ofOrder_45 rfl (lv_at hl 2 rfl) ?_
      refine lv_iconst (v := 0) hx hb dX6_ofOrder_46 (by decide) ?_
      obtain ⟨z2, hz2, hf⟩ := obd hf
      refine kI (runV (As := [.int x2, .int 0]) (rest := []) C0 hE hAb hP ((hD.weaken (fun _ _ _ h9 => hAb _ h9)).addr rfl) hS [0, 1] (wc := [oX6 w w_undos w_seed w_entries, aJ cJ (w 1) 3420 w_w]) (by decide) rfl 0 rfl rfl (c_X6_pairs l D cI cJ cZ cQ bs H.size w w_undos w_seed w_entries w_w x2 0 z2 hz2) (cwV 2 hts gX6_ofOrder_X6_pairs rfl rfl rfl (by decide +kernel) ⟨Nat.le_of_ble_eq_true rfl, Nat.le_of_ble_eq_true rfl⟩) rfl hl.1 rfl (Nat.le_of_ble_eq_true rfl) dX6_ofOrder_47 ⟨Nat.le_of_ble_eq_true rfl, Nat.le_of_ble_eq_true rfl⟩) hS hP (fun H locs hP hS => ?_)
      have er := Option.some.inj hf
      exact rwI (wm := (fun u => [oX6 w w_undos w_seed w_entries, aJ cJ (w 1) 3420 w_w, aI cI (w 6) 12 u])) hx hb hr hS dX6_ofOrder_50 hP er hlocks
    replace hf := oel c1 hf
    by_cases c3 : x1 = 4
    · replace hf := oif c3 hf
      refine cgI c3 ?_
      refine lv_tableIn (off := 50) (tgt := 51) hx hb dX6_ofOrder_1 (by decide) (by decide) (by decide +kernel) (by decide) ?_
      refine lv_aload_n hx hb dX6_ofOrder_51 rfl (lv_at hl 0 rfl) ?_
      refine lv_iload_n hx hb dX6_ofOrder_52 rfl (lv_at hl 2 rfl) ?_
      refine lv_iconst (v := 1) hx hb dX6_ofOrder_53 (by decide) ?_
      obtain ⟨z4, hz4, hf⟩ := obd hf
      refine kI (runV (As := [.int x2, .int 1]) (rest := []) C0 hE hAb hP ((hD.weaken (fun _ _ _ h9 => hAb _ h9)).addr rfl) hS [0, 1] (wc := [oX6 w w_undos w_seed w_entries, aJ cJ (w 1) 3420 w_w]) (by decide) rfl 0 rfl rfl (c_X6_pairs l D cI cJ cZ cQ bs H.size w w_undos w_seed w_entries w_w x2 1 z4 hz4) (cwV 2 hts gX6_ofOrder_X6_pairs rfl rfl rfl (by decide +kernel) ⟨Nat.le_of_ble_eq_true rfl, Nat.le_of_ble_eq_true rfl⟩) rfl hl.1 rfl (Nat.le_of_ble_eq_true rfl) dX6_ofOrder_54 ⟨Nat.le_of_ble_eq_true rfl, Nat.le_of_ble_eq_true rfl⟩) hS hP (fun H locs hP hS => ?_)
      have er := Option.some.inj hf
      exact rwI (wm := (fun u => [oX6 w w_undos w_seed w_entries, aJ cJ (w 1) 3420 w_w, aI cI (w 6) 12 u])) hx hb hr hS dX6_ofOrder_57 hP er hlocks
    replace hf := oel c3 hf
    by_cases c5 : x1 = 5
    · replace hf := oif c5 hf
      refine cgI c5 ?_
      refine lv_tableIn (off := 57) (tgt := 58) hx hb dX6_ofOrder_1 (by decide) (by decide) (by decide +kernel) (by decide) ?_
      refine lv_aload_n hx hb dX6_ofOrder_58 rfl (lv_at hl 0 rfl) ?_
      refine lv_iload_n hx hb dX6_ofOrder_59 rfl (lv_at hl 2 rfl) ?_
      obtain ⟨z6, hz6, hf⟩ := obd hf
      refine kI (runV (As := [.int x2]) (rest := []) C0 hE hAb hP ((hD.weaken (fun _ _ _ h9 => hAb _ h9)).addr rfl) hS [0, 1] (wc := [oX6 w w_undos w_seed w_entries, aJ cJ (w 1) 3420 w_w]) (by decide) rfl 0 rfl rfl (c_X6_runs l D cI cJ cZ cQ bs H.size w w_undos w_seed w_entries w_w x2 z6 hz6) (cwV 1 hts gX6_ofOrder_X6_runs rfl rfl rfl (by decide +kernel) ⟨Nat.le_of_ble_eq_true rfl, Nat.le_of_ble_eq_true rfl⟩) rfl hl.1 rfl (Nat.le_of_ble_eq_true rfl) dX6_ofOrder_60 ⟨Nat.le_of_ble_eq_true rfl, Nat.le_of_ble_eq_true rfl⟩) hS hP (fun H locs hP hS => ?_)
      have er := Option.some.inj hf
      exact rwI (wm := (fun u => [oX6 w w_undos w_seed w_entries, aJ cJ (w 1) 3420 w_w, aI cI (w 6) 12 u])) hx hb hr hS dX6_ofOrder_63 hP er hlocks
    replace hf := oel c5 hf
    by_cases c7 : x1 = 6
    · replace hf := oif c7 hf
      refine cgI c7 ?_
      refine lv_tableIn (off := 63) (tgt := 64) hx hb dX6_ofOrder_1 (by decide) (by decide) (by decide +kernel) (by decide) ?_
      refine lv_aload_n hx hb dX6_ofOrder_64 rfl (lv_at hl 0 rfl) ?_
      refine lv_iload_n hx hb dX6_ofOrder_65 rfl (lv_at hl 2 rfl) ?_
      obtain ⟨z8, hz8, hf⟩ := obd hf
      refine kwI (runV (As := [.int x2]) (rest := []) C0 hE hAb hP ((hD.weaken (fun _ _ _ h9 => hAb _ h9)).addr rfl) hS [0, 1, 2] (wc := [oX6 w w_undos w_seed w_entries, aJ cJ (w 1) 3420 w_w, aI cI (w 6) 12 w_scratch]) (by decide) rfl 0 rfl rfl (c_X6_staying l D cI cJ cZ cQ bs H.size w w_undos w_seed w_entries w_w w_scratch x2 z8 hz8) (cwV 1 hts gX6_ofOrder_X6_staying rfl rfl rfl (by decide +kernel) ⟨Nat.le_of_ble_eq_true rfl, Nat.le_of_ble_eq_true rfl⟩) rfl hl.1 rfl (Nat.le_of_ble_eq_true rfl) dX6_ofOrder_66 ⟨Nat.le_of_ble_eq_true rfl, Nat.le_of_ble_eq_true rfl⟩) hS hP (hD.addr rfl) hA [0, 1, 2] rfl rfl (ws' := [oX6 w w_undos w_seed w_entries, aJ cJ (w 1) 3420 w_w, aI cI (w 6) 12 z8.2]) rfl rfl (fun H locs hP hS => ?_)
      have er := Option.some.inj hf
      exact rwI (wm := (fun u => [oX6 w w_undos w_seed w_entries, aJ cJ (w 1) 3420 w_w, aI cI (w 6) 12 u])) hx hb hr hS dX6_ofOrder_69 hP er hlocks
    replace hf := oel c7 hf
    by_cases c9 : x1 = 7
    · replace hf := oif c9 hf
      refine cgI c9 ?_
      refine lv_tableIn (off := 69) (tgt := 70) hx hb dX6_ofOrder_1 (by decide) (by decide) (by decide +kernel) (by decide) ?_
      refine lv_aload_n hx hb dX6_ofOrder_70 rfl (lv_at hl 0 rfl) ?_
      refine lv_iload_n hx hb dX6_ofOrder_71 rfl (lv_at hl 2 rfl) ?_
      obtain ⟨z10, hz10, hf⟩ := obd hf
      refine kI (runV (As := [.int x2]) (rest := []) C0 hE hAb hP ((hD.weaken (fun _ _ _ h9 => hAb _ h9)).addr rfl) hS [0, 1] (wc := [oX6 w w_undos w_seed w_entries, aJ cJ (w 1) 3420 w_w]) (by decide) rfl 0 rfl rfl (c_X6_swaps l D cI cJ cZ cQ bs H.size w w_undos w_seed w_entries w_w x2 z10 hz10) (cwV 1 hts gX6_ofOrder_X6_swaps rfl rfl rfl (by decide +kernel) ⟨Nat.le_of_ble_eq_true rfl, Nat.le_of_ble_eq_true rfl⟩) rfl hl.1 rfl (Nat.le_of_ble_eq_true rfl) dX6_ofOrder_72 ⟨Nat.le_of_ble_eq_true rfl, Nat.le_of_ble_eq_true rfl⟩) hS hP (fun H locs hP hS => ?_)
      have er := Option.some.inj hf
      exact rwI (wm := (fun u => [oX6 w w_undos w_seed w_entries, aJ cJ (w 1) 3420 w_w, aI cI (w 6) 12 u])) hx hb hr hS dX6_ofOrder_75 hP er hlocks
    replace hf := oel c9 hf
    by_cases c11 : x1 = 8
    · replace hf := oif c11 hf
      refine cgI c11 ?_
      refine lv_tableIn (off := 75) (tgt := 76) hx hb dX6_ofOrder_1 (by decide) (by decide) (by decide +kernel) (by decide) ?_
      refine lv_aload_n hx hb dX6_ofOrder_76 rfl (lv_at hl 0 rfl) ?_
      refine lv_iload_n hx hb dX6_ofOrder_77 rfl (lv_at hl 2 rfl) ?_
      obtain ⟨z12, hz12, hf⟩ := obd hf
      refine kI (runV (As := [.int x2]) (rest := []) C0 hE hAb hP ((hD.weaken (fun _ _ _ h9 => hAb _ h9)).addr rfl) hS [0, 1] (wc := [oX6 w w_undos w_seed w_entries, aJ cJ (w 1) 3420 w_w]) (by decide) rfl 0 rfl rfl (c_X6_passes l D cI cJ cZ cQ bs H.size w w_undos w_seed w_entries w_w x2 z12 hz12) (cwV 1 hts gX6_ofOrder_X6_passes rfl rfl rfl (by decide +kernel) ⟨Nat.le_of_ble_eq_true rfl, Nat.le_of_ble_eq_true rfl⟩) rfl hl.1 rfl (Nat.le_of_ble_eq_true rfl) dX6_ofOrder_78 ⟨Nat.le_of_ble_eq_true rfl, Nat.le_of_ble_eq_true rfl⟩) hS hP (fun H locs hP hS => ?_)
      have er := Option.some.inj hf
      exact rwI (wm := (fun u => [oX6 w w_undos w_seed w_entries, aJ cJ (w 1) 3420 w_w, aI cI (w 6) 12 u])) hx hb hr hS dX6_ofOrder_81 hP er hlocks
    replace hf := oel c11 hf
    by_cases c13 : x1 = 9
    · replace hf := oif c13 hf
      refine cgI c13 ?_
      refine lv_tableIn (off := 81) (tgt := 82) hx hb dX6_ofOrder_1 (by decide) (by decide) (by decide +kernel) (by decide) ?_
      refine lv_aload_n hx hb dX6_ofOrder_82 rfl (lv_at hl 0 rfl) ?_
      refine lv_iload_n hx hb dX6_ofOrder_83 rfl (lv_at hl 2 rfl) ?_
      obtain ⟨z14, hz14, hf⟩ := obd hf
      refine kI (runV (As := [.int x2]) (rest := []) C0 hE hAb hP ((hD.weaken (fun _ _ _ h9 => hAb _ h9)).addr rfl) hS [0, 1] (wc := [oX6 w w_undos w_seed w_entries, aJ cJ (w 1) 3420 w_w]) (by decide) rfl 0 rfl rfl (c_X6_matters l D cI cJ cZ cQ bs H.size w w_undos w_seed w_entries w_w x2 z14 hz14) (cwV 1 hts gX6_ofOrder_X6_matters rfl rfl rfl (by decide +kernel) ⟨Nat.le_of_ble_eq_true rfl, Nat.le_of_ble_eq_true rfl⟩) rfl hl.1 rfl (Nat.le_of_ble_eq_true rfl) dX6_ofOrder_84 ⟨Nat.le_of_ble_eq_true rfl, Nat.le_of_ble_eq_true rfl⟩) hS hP (fun H locs hP hS => ?_)
      have er := Option.some.inj hf
      exact rwI (wm := (fun u => [oX6 w w_undos w_seed w_entries, aJ cJ (w 1) 3420 w_w, aI cI (w 6) 12 u])) hx hb hr hS dX6_ofOrder_87 hP er hlocks
    replace hf := oel c13 hf
    refine lv_tableOut (tgt := 88) hx hb dX6_ofOrder_1 (by have a0 := lv_neT c1 (a := 3) (by decide); have a1 := lv_neT c3 (a := 4) (by decide); have a2 := lv_neT c5 (a := 5) (by decide); have a3 := lv_neT c7 (a := 6) (by decide); have a4 := lv_neT c9 (a := 7) (by decide); have a5 := lv_neT c11 (a := 8) (by decide); have a6 := lv_neT c13 (a := 9) (by decide); omega) (by decide) ?_
    refine lv_aload_n hx hb dX6_ofOrder_88 rfl (lv_at hl 0 rfl) ?_
    refine lv_iload_n hx hb dX6_ofOrder_89 rfl (lv_at hl 2 rfl) ?_
    obtain ⟨z15, hz15, hf⟩ := obd hf
    refine kI (runV (As := [.int x2]) (rest := []) C0 hE hAb hP ((hD.weaken (fun _ _ _ h9 => hAb _ h9)).addr rfl) hS [0, 1] (wc := [oX6 w w_undos w_seed w_entries, aJ cJ (w 1) 3420 w_w]) (by decide) rfl 0 rfl rfl (c_X6_fewest l D cI cJ cZ cQ bs H.size w w_undos w_seed w_entries w_w x2 z15 hz15) (cwV 1 hts gX6_ofOrder_X6_fewest rfl rfl rfl (by decide +kernel) ⟨Nat.le_of_ble_eq_true rfl, Nat.le_of_ble_eq_true rfl⟩) rfl hl.1 rfl (Nat.le_of_ble_eq_true rfl) dX6_ofOrder_90 ⟨Nat.le_of_ble_eq_true rfl, Nat.le_of_ble_eq_true rfl⟩) hS hP (fun H locs hP hS => ?_)
    have er := Option.some.inj hf
    exact rwI (wm := (fun u => [oX6 w w_undos w_seed w_entries, aJ cJ (w 1) 3420 w_w, aI cI (w 6) 12 u])) hx hb hr hS dX6_ofOrder_93 hP er hlocks
  exact go s.heap [] hP hS
noncomputable def f_X6_told (w_w : Nat → Int64) (w_undos : Int32) (w_seed : Int32) (w_entries : Int32) (w_bookPlace : Nat → Int32) (w_bookPosition : Nat → Int32) (w_scratch : Nat → Int32) (x1 : Int32) : Option (Int32 × (Nat → Int32)) := (f_X6_in (Int32.toInt64 x1) 2 10).bind (fun z1 => if z1 = 0 then (if x1 = 0 then ((f_X6_keys w_w).bind (fun z4 => some ((z4, w_scratch)))) else (if x1 = 1 then ((f_X6_sheetNow w_w).bind (fun z6 => some ((z6, w_scratch)))) else (if x1 = 2 then (some (((-1000000002), w_scratch))) else (if x1 = 3 then (some (((-1000000002), w_scratch))) else (if x1 = 4 then (some (((-1000000002), w_scratch))) else (if x1 = 5 then (some (((-1000000002), w_scratch))) else (if x1 = 6 then (some (((-1000000002), w_scratch))) else (if x1 = 7 then (some (((-1000000002), w_scratch))) else (if x1 = 8 then (some (((-1000000002), w_scratch))) else (if x1 = 9 then (some (((-1000000002), w_scratch))) else (if x1 = 10 then (some (((-1000000002), w_scratch))) else (if x1 = 11 then ((f_X6_explained w_w).bind (fun z17 => some ((z17, w_scratch)))) else (if x1 = 12 then (some ((w_entries, w_scratch))) else (if x1 = 13 then ((f_X6_wrong w_w w_entries w_bookPlace w_bookPosition).bind (fun z20 => some ((z20, w_scratch)))) else (if x1 = 14 then (some ((w_undos, w_scratch))) else (if x1 = 15 then (some ((w_seed, w_scratch))) else (some (((-1000000002), w_scratch))))))))))))))))))) else ((f_X6_places w_w).bind (fun z23 => if z23 = (-1) then (some ((z23, w_scratch))) else (if x1 = 2 then (some ((z23, w_scratch))) else ((f_X6_ofOrder w_w w_scratch x1 z23).bind (fun z26 => some ((z26.1, z26.2))))))))
set_option maxHeartbeats 4000000 in
set_option maxRecDepth 100000 in
theorem c_X6_told (l : Launch) (D : va_G) (cI cJ cZ cQ : ClassId) (bs sz : Nat) (w : Nat → Nat) (w_undos : Int32) (w_seed : Int32) (w_entries : Int32) (w_w : Nat → Int64) (w_bookPlace : Nat → Int32) (w_bookPosition : Nat → Int32) (w_scratch : Nat → Int32) (x1 : Int32) (zr : Int32 × (Nat → Int32)) (hf : f_X6_told w_w w_undos w_seed w_entries w_bookPlace w_bookPosition w_scratch x1 = some zr) : Met l yX6_told wsX6_told { frames := 9, cells := 0, slots := 0, locals := 224 } (va_Pc [.ref (w 0), .int x1] (Pr D cI cJ cZ cQ bs sz [oX6 w w_undos w_seed w_entries, aJ cJ (w 1) 3420 w_w, aI cI (w 4) 20 w_bookPlace, aI cI (w 5) 20 w_bookPosition, aI cI (w 6) 12 w_scratch])) (QwI D zr (fun u => [oX6 w w_undos w_seed w_entries, aJ cJ (w 1) 3420 w_w, aI cI (w 4) 20 w_bookPlace, aI cI (w 5) 20 w_bookPosition, aI cI (w 6) 12 u]) (va_A [oX6 w w_undos w_seed w_entries, aJ cJ (w 1) 3420 w_w, aI cI (w 4) 20 w_bookPlace, aI cI (w 5) 20 w_bookPosition, aI cI (w 6) 12 w_scratch] sz)) 0 0 (va_A [oX6 w w_undos w_seed w_entries, aJ cJ (w 1) 3420 w_w, aI cI (w 4) 20 w_bookPlace, aI cI (w 5) 20 w_bookPosition, aI cI (w 6) 12 w_scratch] sz) := by
  refine stW (cc := cX6_told) (maxL := 3) (ret := (some .int)) (Qf := fun A => (QwI D zr (fun u => [oX6 w w_undos w_seed w_entries, aJ cJ (w 1) 3420 w_w, aI cI (w 4) 20 w_bookPlace, aI cI (w 5) 20 w_bookPosition, aI cI (w 6) 12 u]) A)) (by decide +kernel) rfl (Nat.le_of_ble_eq_true rfl) ?_
  intro p e s m args below meth c A C0 hr hlocks hname hsz hP hD hA hAb hE ls hl
  obtain ⟨hx, hb, hml, hown, hts⟩ := id C0
  have hown : s.vm.findClass RX6 = some m.cls := hown
  obtain ⟨hK, hNW, -, tw, hZ, hT⟩ := id hE
  have hl : lv_has ls 3 [(0, .ref (w 0)), (1, .int x1)] := hl
  have hS : va_S A s.heap s.heap [] := va_S.rf
  have gk51 := hts (.constantLong RX6 51 (2)) (by decide +kernel)
  have gk178 := hts (.constantLong RX6 178 (10)) (by decide +kernel)
  have gk192 := hts (.constant RX6 192 (-1000000002)) (by decide +kernel)
  have hI_X6 := (show ∀ w ∈ wsX60, w ∈ wsX6_told by decide +kernel)
  have gf154 := hts (.fieldLink RX6 154 "RowRanksModel" "entries" "I") (by decide +kernel)
  have gf43 := hts (.fieldLink RX6 43 "RowRanksModel" "undos" "I") (by decide +kernel)
  have gf189 := hts (.fieldLink RX6 189 "RowRanksModel" "seed" "I") (by decide +kernel)
  unfold f_X6_told at hf
  have go : ∀ (H : Heap) (locs : List Loc), va_P D vwCl [oX6 w w_undos w_seed w_entries, aJ cJ (w 1) 3420 w_w, aI cI (w 4) 20 w_bookPlace, aI cI (w 5) 20 w_bookPosition, aI cI (w 6) 12 w_scratch] H → va_S A s.heap H locs → W p l e { frames := 9, cells := 0, slots := 0, locals := 224 } s m args below meth c H locs 0 0 (MQ below (QwI D zr (fun u => [oX6 w w_undos w_seed w_entries, aJ cJ (w 1) 3420 w_w, aI cI (w 4) 20 w_bookPlace, aI cI (w 5) 20 w_bookPosition, aI cI (w 6) 12 u]) A) args s 0 0 A) (F0 m 0 ls []) := by
    intro H locs hP hS
    refine lv_iload_n hx hb dX6_told_0 rfl (lv_at hl 1 rfl) ?_
    refine lv_i2l (v := (Int32.toInt64 x1)) hx hb dX6_told_1 rfl ?_
    refine lv_ldc2 hx hb hown gk51 dX6_told_2 ?_
    refine lv_ldc2 hx hb hown gk178 dX6_told_5 ?_
    obtain ⟨z1, hz1, hf⟩ := obd hf
    refine kZ (runS (As := [.long (Int32.toInt64 x1), .long 2, .long 10]) (rest := []) C0 hE hAb hP ((hD.weaken (fun _ _ _ h9 => hAb _ h9)).addr rfl) hS [] (wc := []) (by decide) rfl (c_X6_in l D cI cJ cZ cQ bs H.size (Int32.toInt64 x1) 2 10 z1 hz1) (va_cwS 3 hts gX6_told_X6_in rfl rfl rfl (by decide +kernel) ⟨Nat.le_of_ble_eq_true rfl, Nat.le_of_ble_eq_true rfl⟩) rfl hl.1 rfl (Nat.le_of_ble_eq_true rfl) dX6_told_8 ⟨Nat.le_of_ble_eq_true rfl, Nat.le_of_ble_eq_true rfl⟩) hS hP (fun bz1 H locs hP hS => ?_)
    refine lv_if_eq (tgt := 40) hx hb dX6_told_11 (by decide) (fun c2 => ?_) (fun c2 => ?_)
    · replace hf := oif c2 hf
      refine lv_iload_n hx hb dX6_told_40 rfl (lv_at hl 1 rfl) ?_
      by_cases c3 : x1 = 0
      · replace hf := oif c3 hf
        refine cgI c3 ?_
        refine lv_tableIn (off := 79) (tgt := 120) hx hb dX6_told_41 (by decide) (by decide) (by decide +kernel) (by decide) ?_
        refine lv_aload_n hx hb dX6_told_120 rfl (lv_at hl 0 rfl) ?_
        obtain ⟨z4, hz4, hf⟩ := obd hf
        refine kI (runV (As := []) (rest := []) C0 hE hAb hP ((hD.weaken (fun _ _ _ h9 => hAb _ h9)).addr rfl) hS [0, 1] (wc := [oX6 w w_undos w_seed w_entries, aJ cJ (w 1) 3420 w_w]) (by decide) rfl 0 rfl rfl (c_X6_keys l D cI cJ cZ cQ bs H.size w w_undos w_seed w_entries w_w z4 hz4) (cwV 0 hts gX6_told_X6_keys rfl rfl rfl (by decide +kernel) ⟨Nat.le_of_ble_eq_true rfl, Nat.le_of_ble_eq_true rfl⟩) rfl hl.1 rfl (Nat.le_of_ble_eq_true rfl) dX6_told_121 ⟨Nat.le_of_ble_eq_true rfl, Nat.le_of_ble_eq_true rfl⟩) hS hP (fun H locs hP hS => ?_)
        have er := Option.some.inj hf
        exact rwI (wm := (fun u => [oX6 w w_undos w_seed w_entries, aJ cJ (w 1) 3420 w_w, aI cI (w 4) 20 w_bookPlace, aI cI (w 5) 20 w_bookPosition, aI cI (w 6) 12 u])) hx hb hr hS dX6_told_124 hP er hlocks
      replace hf := oel c3 hf
      by_cases c5 : x1 = 1
      · replace hf := oif c5 hf
        refine cgI c5 ?_
        refine lv_tableIn (off := 84) (tgt := 125) hx hb dX6_told_41 (by decide) (by decide) (by decide +kernel) (by decide) ?_
        refine lv_aload_n hx hb dX6_told_125 rfl (lv_at hl 0 rfl) ?_
        obtain ⟨z6, hz6, hf⟩ := obd hf
        refine kI (runV (As := []) (rest := []) C0 hE hAb hP ((hD.weaken (fun _ _ _ h9 => hAb _ h9)).addr rfl) hS [0, 1] (wc := [oX6 w w_undos w_seed w_entries, aJ cJ (w 1) 3420 w_w]) (by decide) rfl 0 rfl rfl (c_X6_sheetNow l D cI cJ cZ cQ bs H.size w w_undos w_seed w_entries w_w z6 hz6) (cwV 0 hts gX6_told_X6_sheetNow rfl rfl rfl (by decide +kernel) ⟨Nat.le_of_ble_eq_true rfl, Nat.le_of_ble_eq_true rfl⟩) rfl hl.1 rfl (Nat.le_of_ble_eq_true rfl) dX6_told_126 ⟨Nat.le_of_ble_eq_true rfl, Nat.le_of_ble_eq_true rfl⟩) hS hP (fun H locs hP hS => ?_)
        have er := Option.some.inj hf
        exact rwI (wm := (fun u => [oX6 w w_undos w_seed w_entries, aJ cJ (w 1) 3420 w_w, aI cI (w 4) 20 w_bookPlace, aI cI (w 5) 20 w_bookPosition, aI cI (w 6) 12 u])) hx hb hr hS dX6_told_129 hP er hlocks
      replace hf := oel c5 hf
      by_cases c7 : x1 = 2
      · replace hf := oif c7 hf
        refine cgI c7 ?_
        refine lv_tableIn (off := 114) (tgt := 155) hx hb dX6_told_41 (by decide) (by decide) (by decide +kernel) (by decide) ?_
        refine lv_ldc hx hb hown gk192 dX6_told_155 ?_
        have er := Option.some.inj hf
        exact rwI (wm := (fun u => [oX6 w w_undos w_seed w_entries, aJ cJ (w 1) 3420 w_w, aI cI (w 4) 20 w_bookPlace, aI cI (w 5) 20 w_bookPosition, aI cI (w 6) 12 u])) hx hb hr hS dX6_told_157 hP er hlocks
      replace hf := oel c7 hf
      by_cases c8 : x1 = 3
      · replace hf := oif c8 hf
        refine cgI c8 ?_
        refine lv_tableIn (off := 114) (tgt := 155) hx hb dX6_told_41 (by decide) (by decide) (by decide +kernel) (by decide) ?_
        refine lv_ldc hx hb hown gk192 dX6_told_155 ?_
        have er := Option.some.inj hf
        exact rwI (wm := (fun u => [oX6 w w_undos w_seed w_entries, aJ cJ (w 1) 3420 w_w, aI cI (w 4) 20 w_bookPlace, aI cI (w 5) 20 w_bookPosition, aI cI (w 6) 12 u])) hx hb hr hS dX6_told_157 hP er hlocks
      replace hf := oel c8 hf
      by_cases c9 : x1 = 4
      · replace hf := oif c9 hf
        refine cgI c9 ?_
        refine lv_tableIn (off := 114) (tgt := 155) hx hb dX6_told_41 (by decide) (by decide) (by decide +kernel) (by decide) ?_
        refine lv_ldc hx hb hown gk192 dX6_told_155 ?_
        have er := Option.some.inj hf
        exact rwI (wm := (fun u => [oX6 w w_undos w_seed w_entries, aJ cJ (w 1) 3420 w_w, aI cI (w 4) 20 w_bookPlace, aI cI (w 5) 20 w_bookPosition, aI cI (w 6) 12 u])) hx hb hr hS dX6_told_157 hP er hlocks
      replace hf := oel c9 hf
      by_cases c10 : x1 = 5
      · replace hf := oif c10 hf
        refine cgI c10 ?_
        refine lv_tableIn (off := 114) (tgt := 155) hx hb dX6_told_41 (by decide) (by decide) (by decide +kernel) (by decide) ?_
        refine lv_ldc hx hb hown gk192 dX6_told_155 ?_
        have er := Option.some.inj hf
        exact rwI (wm := (fun u => [oX6 w w_undos w_seed w_entries, aJ cJ (w 1) 3420 w_w, aI cI (w 4) 20 w_bookPlace, aI cI (w 5) 20 w_bookPosition, aI cI (w 6) 12 u])) hx hb hr hS dX6_told_157 hP er hlocks
      replace hf := oel c10 hf
      by_cases c11 : x1 = 6
      · replace hf := oif c11 hf
        refine cgI c11 ?_
        refine lv_tableIn (off := 114) (tgt := 155) hx hb dX6_told_41 (by decide) (by decide) (by decide +kernel) (by decide) ?_
        refine lv_ldc hx hb hown gk192 dX6_told_155 ?_
        have er := Option.some.inj hf
        exact rwI (wm := (fun u => [oX6 w w_undos w_seed w_entries, aJ cJ (w 1) 3420 w_w, aI cI (w 4) 20 w_bookPlace, aI cI (w 5) 20 w_bookPosition, aI cI (w 6) 12 u])) hx hb hr hS dX6_told_157 hP er hlocks
      replace hf := oel c11 hf
      by_cases c12 : x1 = 7
      · replace hf := oif c12 hf
        refine cgI c12 ?_
        refine lv_tableIn (off := 114) (tgt := 155) hx hb dX6_told_41 (by decide) (by decide) (by decide +kernel) (by decide) ?_
        refine lv_ldc hx hb hown gk192 dX6_told_155 ?_
        have er := Option.some.inj hf
        exact rwI (wm := (fun u => [oX6 w w_undos w_seed w_entries, aJ cJ (w 1) 3420 w_w, aI cI (w 4) 20 w_bookPlace, aI cI (w 5) 20 w_bookPosition, aI cI (w 6) 12 u])) hx hb hr hS dX6_told_157 hP er hlocks
      replace hf := oel c12 hf
      by_cases c13 : x1 = 8
      · replace hf := oif c13 hf
        refine cgI c13 ?_
        refine lv_tableIn (off := 114) (tgt := 155) hx hb dX6_told_41 (by decide) (by decide) (by decide +kernel) (by decide) ?_
        refine lv_ldc hx hb hown gk192 dX6_told_155 ?_
        have er := Option.some.inj hf
        exact rwI (wm := (fun u => [oX6 w w_undos w_seed w_entries, aJ cJ (w 1) 3420 w_w, aI cI (w 4) 20 w_bookPlace, aI cI (w 5) 20 w_bookPosition, aI cI (w 6) 12 u])) hx hb hr hS dX6_told_157 hP er hlocks
      replace hf := oel c13 hf
      by_cases c14 : x1 = 9
      · replace hf := oif c14 hf
        refine cgI c14 ?_
        refine lv_tableIn (off := 114) (tgt := 155) hx hb dX6_told_41 (by decide) (by decide) (by decide +kernel) (by decide) ?_
        refine lv_ldc hx hb hown gk192 dX6_told_155 ?_
        have er := Option.some.inj hf
        exact rwI (wm := (fun u => [oX6 w w_undos w_seed w_entries, aJ cJ (w 1) 3420 w_w, aI cI (w 4) 20 w_bookPlace, aI cI (w 5) 20 w_bookPosition, aI cI (w 6) 12 u])) hx hb hr hS dX6_told_157 hP er hlocks
      replace hf := oel c14 hf
      by_cases c15 : x1 = 10
      · replace hf := oif c15 hf
        refine cgI c15 ?_
        refine lv_tableIn (off := 114) (tgt := 155) hx hb dX6_told_41 (by decide) (by decide) (by decide +kernel) (by decide) ?_
        refine lv_ldc hx hb hown gk192 dX6_told_155 ?_
        have er := Option.some.inj hf
        exact rwI (wm := (fun u => [oX6 w w_undos w_seed w_entries, aJ cJ (w 1) 3420 w_w, aI cI (w 4) 20 w_bookPlace, aI cI (w 5) 20 w_bookPosition, aI cI (w 6) 12 u])) hx hb hr hS dX6_told_157 hP er hlocks
      replace hf := oel c15 hf
      by_cases c16 : x1 = 11
      · replace hf := oif c16 hf
        refine cgI c16 ?_
        refine lv_tableIn (off := 89) (tgt := 130) hx hb dX6_told_41 (by decide) (by decide) (by decide +kernel) (by decide) ?_
        refine lv_aload_n hx hb dX6_told_130 rfl (lv_at hl 0 rfl) ?_
        obtain ⟨z17, hz17, hf⟩ := obd hf
        refine kI (runV (As := []) (rest := []) C0 hE hAb hP ((hD.weaken (fun _ _ _ h9 => hAb _ h9)).addr rfl) hS [0, 1] (wc := [oX6 w w_undos w_seed w_entries, aJ cJ (w 1) 3420 w_w]) (by decide) rfl 0 rfl rfl (c_X6_explained l D cI cJ cZ cQ bs H.size w w_undos w_seed w_entries w_w z17 hz17) (cwV 0 hts gX6_told_X6_explained rfl rfl rfl (by decide +kernel) ⟨Nat.le_of_ble_eq_true rfl, Nat.le_of_ble_eq_true rfl⟩) rfl hl.1 rfl (Nat.le_of_ble_eq_true rfl) dX6_told_131 ⟨Nat.le_of_ble_eq_true rfl, Nat.le_of_ble_eq_true rfl⟩) hS hP (fun H locs hP hS => ?_)
        have er := Option.some.inj hf
        exact rwI (wm := (fun u => [oX6 w w_undos w_seed w_entries, aJ cJ (w 1) 3420 w_w, aI cI (w 4) 20 w_bookPlace, aI cI (w 5) 20 w_bookPosition, aI cI (w 6) 12 u])) hx hb hr hS dX6_told_134 hP er hlocks
      replace hf := oel c16 hf
      by_cases c18 : x1 = 12
      · replace hf := oif c18 hf
        refine cgI c18 ?_
        refine lv_tableIn (off := 94) (tgt := 135) hx hb dX6_told_41 (by decide) (by decide) (by decide +kernel) (by decide) ?_
        refine lv_aload_n hx hb dX6_told_135 rfl (lv_at hl 0 rfl) ?_
        refine va_get (D := D) (ci := 6) (v := .int w_entries) (C := RX6) (T := TX6) (N := 12) hx hb hts hI_X6 hown hK hP 0 rfl rfl 5 (by decide) gf154 (fun _ h9 => h9) rfl dX6_told_136 ?_
        have er := Option.some.inj hf
        exact rwI (wm := (fun u => [oX6 w w_undos w_seed w_entries, aJ cJ (w 1) 3420 w_w, aI cI (w 4) 20 w_bookPlace, aI cI (w 5) 20 w_bookPosition, aI cI (w 6) 12 u])) hx hb hr hS dX6_told_139 hP er hlocks
      replace hf := oel c18 hf
      by_cases c19 : x1 = 13
      · replace hf := oif c19 hf
        refine cgI c19 ?_
        refine lv_tableIn (off := 99) (tgt := 140) hx hb dX6_told_41 (by decide) (by decide) (by decide +kernel) (by decide) ?_
        refine lv_aload_n hx hb dX6_told_140 rfl (lv_at hl 0 rfl) ?_
        obtain ⟨z20, hz20, hf⟩ := obd hf
        refine kI (runV (As := []) (rest := []) C0 hE hAb hP ((hD.weaken (fun _ _ _ h9 => hAb _ h9)).addr rfl) hS [0, 1, 2, 3] (wc := [oX6 w w_undos w_seed w_entries, aJ cJ (w 1) 3420 w_w, aI cI (w 4) 20 w_bookPlace, aI cI (w 5) 20 w_bookPosition]) (by decide) rfl 0 rfl rfl (c_X6_wrong l D cI cJ cZ cQ bs H.size w w_undos w_seed w_entries w_w w_bookPlace w_bookPosition z20 hz20) (cwV 0 hts gX6_told_X6_wrong rfl rfl rfl (by decide +kernel) ⟨Nat.le_of_ble_eq_true rfl, Nat.le_of_ble_eq_true rfl⟩) rfl hl.1 rfl (Nat.le_of_ble_eq_true rfl) dX6_told_141 ⟨Nat.le_of_ble_eq_true rfl, Nat.le_of_ble_eq_true rfl⟩) hS hP (fun H locs hP hS => ?_)
        have er := Option.some.inj hf
        exact rwI (wm := (fun u => [oX6 w w_undos w_seed w_entries, aJ cJ (w 1) 3420 w_w, aI cI (w 4) 20 w_bookPlace, aI cI (w 5) 20 w_bookPosition, aI cI (w 6) 12 u])) hx hb hr hS dX6_told_144 hP er hlocks
      replace hf := oel c19 hf
      by_cases c21 : x1 = 14
      · replace hf := oif c21 hf
        refine cgI c21 ?_
        refine lv_tableIn (off := 104) (tgt := 145) hx hb dX6_told_41 (by decide) (by decide) (by decide +kernel) (by decide) ?_
        refine lv_aload_n hx hb dX6_told_145 rfl (lv_at hl 0 rfl) ?_
        refine va_get (D := D) (ci := 6) (v := .int w_undos) (C := RX6) (T := TX6) (N := 12) hx hb hts hI_X6 hown hK hP 0 rfl rfl 3 (by decide) gf43 (fun _ h9 => h9) rfl dX6_told_146 ?_
        have er := Option.some.inj hf
        exact rwI (wm := (fun u => [oX6 w w_undos w_seed w_entries, aJ cJ (w 1) 3420 w_w, aI cI (w 4) 20 w_bookPlace, aI cI (w 5) 20 w_bookPosition, aI cI (w 6) 12 u])) hx hb hr hS dX6_told_149 hP er hlocks
      replace hf := oel c21 hf
      by_cases c22 : x1 = 15
      · replace hf := oif c22 hf
        refine cgI c22 ?_
        refine lv_tableIn (off := 109) (tgt := 150) hx hb dX6_told_41 (by decide) (by decide) (by decide +kernel) (by decide) ?_
        refine lv_aload_n hx hb dX6_told_150 rfl (lv_at hl 0 rfl) ?_
        refine va_get (D := D) (ci := 6) (v := .int w_seed) (C := RX6) (T := TX6) (N := 12) hx hb hts hI_X6 hown hK hP 0 rfl rfl 4 (by decide) gf189 (fun _ h9 => h9) rfl dX6_told_151 ?_
        have er := Option.some.inj hf
        exact rwI (wm := (fun u => [oX6 w w_undos w_seed w_entries, aJ cJ (w 1) 3420 w_w, aI cI (w 4) 20 w_bookPlace, aI cI (w 5) 20 w_bookPosition, aI cI (w 6) 12 u])) hx hb hr hS dX6_told_154 hP er hlocks
      replace hf := oel c22 hf
      refine lv_tableOut (tgt := 155) hx hb dX6_told_41 (by have a0 := lv_neT c3 (a := 0) (by decide); have a1 := lv_neT c5 (a := 1) (by decide); have a2 := lv_neT c7 (a := 2) (by decide); have a3 := lv_neT c8 (a := 3) (by decide); have a4 := lv_neT c9 (a := 4) (by decide); have a5 := lv_neT c10 (a := 5) (by decide); have a6 := lv_neT c11 (a := 6) (by decide); have a7 := lv_neT c12 (a := 7) (by decide); have a8 := lv_neT c13 (a := 8) (by decide); have a9 := lv_neT c14 (a := 9) (by decide); have a10 := lv_neT c15 (a := 10) (by decide); have a11 := lv_neT c16 (a := 11) (by decide); have a12 := lv_neT c18 (a := 12) (by decide); have a13 := lv_neT c19 (a := 13) (by decide); have a14 := lv_neT c21 (a := 14) (by decide); have a15 := lv_neT c22 (a := 15) (by decide); omega) (by decide) ?_
      refine lv_ldc hx hb hown gk192 dX6_told_155 ?_
      have er := Option.some.inj hf
      exact rwI (wm := (fun u => [oX6 w w_undos w_seed w_entries, aJ cJ (w 1) 3420 w_w, aI cI (w 4) 20 w_bookPlace, aI cI (w 5) 20 w_bookPosition, aI cI (w 6) 12 u])) hx hb hr hS dX6_told_157 hP er hlocks
    · replace hf := oel c2 hf
      refine lv_aload_n hx hb dX6_told_14 rfl (lv_at hl 0 rfl) ?_
      obtain ⟨z23, hz23, hf⟩ := obd hf
      refine kI (runV (As := []) (rest := []) C0 hE hAb hP ((hD.weaken (fun _ _ _ h9 => hAb _ h9)).addr rfl) hS [0, 1] (wc := [oX6 w w_undos w_seed w_entries, aJ cJ (w 1) 3420 w_w]) (by decide) rfl 0 rfl rfl (c_X6_places l D cI cJ cZ cQ bs H.size w w_undos w_seed w_entries w_w z23 hz23) (cwV 0 hts gX6_told_X6_places rfl rfl rfl (by decide +kernel) ⟨Nat.le_of_ble_eq_true rfl, Nat.le_of_ble_eq_true rfl⟩) rfl hl.1 rfl (Nat.le_of_ble_eq_true rfl) dX6_told_15 ⟨Nat.le_of_ble_eq_true rfl, Nat.le_of_ble_eq_true rfl⟩) hS hP (fun H locs hP hS => ?_)
      refine lv_istore_n (lv' := [(2, .int z23), (0, .ref (w 0)), (1, .int x1)]) hx hb dX6_told_18 rfl hl (by decide) rfl (fun ls hl => ?_)
      refine lv_iload_n hx hb dX6_told_19 rfl (lv_at hl 0 rfl) ?_
      refine lv_iconst (v := (-1)) hx hb dX6_told_20 (by decide) ?_
      refine lv_icmp_eq (tgt := 29) hx hb dX6_told_21 (by decide) (fun c24 => ?_) (fun c24 => ?_)
      · replace hf := oif c24 hf
        refine lv_iload_n hx hb dX6_told_29 rfl (lv_at hl 0 rfl) ?_
        refine lv_goto (tgt := 39) hx hb dX6_told_30 (by decide) ?_
        have er := Option.some.inj hf
        exact rwI (wm := (fun u => [oX6 w w_undos w_seed w_entries, aJ cJ (w 1) 3420 w_w, aI cI (w 4) 20 w_bookPlace, aI cI (w 5) 20 w_bookPosition, aI cI (w 6) 12 u])) hx hb hr hS dX6_told_39 hP er hlocks
      · replace hf := oel c24 hf
        refine lv_iload_n hx hb dX6_told_24 rfl (lv_at hl 2 rfl) ?_
        refine lv_iconst (v := 2) hx hb dX6_told_25 (by decide) ?_
        refine lv_icmp_ne (tgt := 33) hx hb dX6_told_26 (by decide) (fun c25 => ?_) (fun c25 => ?_)
        · replace hf := oel c25 hf
          refine lv_aload_n hx hb dX6_told_33 rfl (lv_at hl 1 rfl) ?_
          refine lv_iload_n hx hb dX6_told_34 rfl (lv_at hl 2 rfl) ?_
          refine lv_iload_n hx hb dX6_told_35 rfl (lv_at hl 0 rfl) ?_
          obtain ⟨z26, hz26, hf⟩ := obd hf
          refine kwI (runV (As := [.int x1, .int z23]) (rest := []) C0 hE hAb hP ((hD.weaken (fun _ _ _ h9 => hAb _ h9)).addr rfl) hS [0, 1, 4] (wc := [oX6 w w_undos w_seed w_entries, aJ cJ (w 1) 3420 w_w, aI cI (w 6) 12 w_scratch]) (by decide) rfl 0 rfl rfl (c_X6_ofOrder l D cI cJ cZ cQ bs H.size w w_undos w_seed w_entries w_w w_scratch x1 z23 z26 hz26) (cwV 2 hts gX6_told_X6_ofOrder rfl rfl rfl (by decide +kernel) ⟨Nat.le_of_ble_eq_true rfl, Nat.le_of_ble_eq_true rfl⟩) rfl hl.1 rfl (Nat.le_of_ble_eq_true rfl) dX6_told_36 ⟨Nat.le_of_ble_eq_true rfl, Nat.le_of_ble_eq_true rfl⟩) hS hP (hD.addr rfl) hA [0, 1, 4] rfl rfl (ws' := [oX6 w w_undos w_seed w_entries, aJ cJ (w 1) 3420 w_w, aI cI (w 4) 20 w_bookPlace, aI cI (w 5) 20 w_bookPosition, aI cI (w 6) 12 z26.2]) rfl rfl (fun H locs hP hS => ?_)
          have er := Option.some.inj hf
          exact rwI (wm := (fun u => [oX6 w w_undos w_seed w_entries, aJ cJ (w 1) 3420 w_w, aI cI (w 4) 20 w_bookPlace, aI cI (w 5) 20 w_bookPosition, aI cI (w 6) 12 u])) hx hb hr hS dX6_told_39 hP er hlocks
        · replace hf := oif c25 hf
          refine lv_iload_n hx hb dX6_told_29 rfl (lv_at hl 0 rfl) ?_
          refine lv_goto (tgt := 39) hx hb dX6_told_30 (by decide) ?_
          have er := Option.some.inj hf
          exact rwI (wm := (fun u => [oX6 w w_undos w_seed w_entries, aJ cJ (w 1) 3420 w_w, aI cI (w 4) 20 w_bookPlace, aI cI (w 5) 20 w_bookPosition, aI cI (w 6) 12 u])) hx hb hr hS dX6_told_39 hP er hlocks
  exact go s.heap [] hP hS
noncomputable def f_X6_isSlot (x0 : Int32) : Option (Int32) := (f_X6_in (Int32.toInt64 x0) 0 5).bind (fun z1 => some (z1))
set_option maxHeartbeats 4000000 in
set_option maxRecDepth 100000 in
theorem c_X6_isSlot (l : Launch) (D : va_G) (cI cJ cZ cQ : ClassId) (bs sz : Nat) (x0 : Int32) (zr : Int32) (hf : f_X6_isSlot x0 = some zr) : Met l yX6_isSlot wsX6_isSlot { frames := 1, cells := 0, slots := 0, locals := 25 } (va_Pc [.int x0] (Pr D cI cJ cZ cQ bs sz [])) (QrZ zr) 0 0 no := by
  refine stM (cc := cX6_isSlot) (maxL := 1) (ret := (some .boolean)) (by decide +kernel) rfl (Nat.le_of_ble_eq_true rfl) ?_
  intro p e s m args below meth c C0 hr hlocks hname hsz hP hDb hE ls hl
  have hAb : ∀ q, no q → bs ≤ q := fun _ h => h.elim
  obtain ⟨hx, hb, hml, hown, hts⟩ := id C0
  have hown : s.vm.findClass RX6 = some m.cls := hown
  obtain ⟨hK, hNW, -, tw, hZ, hT⟩ := id hE
  have hl : lv_has ls 1 [(0, .int x0)] := hl
  have hS : va_S no s.heap s.heap [] := va_S.rf
  have gk193 := hts (.constantLong RX6 193 (5)) (by decide +kernel)
  unfold f_X6_isSlot at hf
  have go : ∀ (H : Heap) (locs : List Loc), va_P D vwCl [] H → va_S no s.heap H locs → W p l e { frames := 1, cells := 0, slots := 0, locals := 25 } s m args below meth c H locs 0 0 (MQ below (QrZ zr) args s 0 0 no) (F0 m 0 ls []) := by
    intro H locs hP hS
    refine lv_iload_n hx hb dX6_isSlot_0 rfl (lv_at hl 0 rfl) ?_
    refine lv_i2l (v := (Int32.toInt64 x0)) hx hb dX6_isSlot_1 rfl ?_
    refine lv_lconst (v := 0) hx hb dX6_isSlot_2 (by decide) ?_
    refine lv_ldc2 hx hb hown gk193 dX6_isSlot_3 ?_
    obtain ⟨z1, hz1, hf⟩ := obd hf
    refine kZ (runS (As := [.long (Int32.toInt64 x0), .long 0, .long 5]) (rest := []) C0 hE hAb hP (hDb.addr rfl) hS [] (wc := []) (by decide) rfl (c_X6_in l D cI cJ cZ cQ bs H.size (Int32.toInt64 x0) 0 5 z1 hz1) (va_cwS 3 hts gX6_isSlot_X6_in rfl rfl rfl (by decide +kernel) ⟨Nat.le_of_ble_eq_true rfl, Nat.le_of_ble_eq_true rfl⟩) rfl hl.1 rfl (Nat.le_of_ble_eq_true rfl) dX6_isSlot_6 ⟨Nat.le_of_ble_eq_true rfl, Nat.le_of_ble_eq_true rfl⟩) hS hP (fun bz1 H locs hP hS => ?_)
    have er := Option.some.inj hf
    exact rtZ hx hb hr hS dX6_isSlot_9 er bz1 hlocks
  exact go s.heap [] hP hS
noncomputable def f_X6_row (w_w : Nat → Int64) (x1 : Int32) (x2 : Int32) : Option (Int32) := (f_X6_isSlot x1).bind (fun z1 => if z1 = 0 then (some ((-1000000001))) else ((f_X6_in (Int32.toInt64 x2) 0 1).bind (fun z3 => if z3 = 0 then (some ((-1000000002))) else (if x2 = 0 then ((f_X6_kind w_w x1).bind (fun z11 => some (z11))) else ((f_X6_kind w_w x1).bind (fun z6 => if z6 = 14 then (some ((-1))) else ((f_X6_isRow w_w x1).bind (fun z8 => if z8 = 0 then (some ((-2))) else ((f_X6_many w_w x1).bind (fun z10 => some (z10)))))))))))
set_option maxHeartbeats 4000000 in
set_option maxRecDepth 100000 in
theorem c_X6_row (l : Launch) (D : va_G) (cI cJ cZ cQ : ClassId) (bs sz : Nat) (w : Nat → Nat) (w_undos : Int32) (w_seed : Int32) (w_entries : Int32) (w_w : Nat → Int64) (x1 : Int32) (x2 : Int32) (zr : Int32) (hf : f_X6_row w_w x1 x2 = some zr) : Met l yX6_row wsX6_row { frames := 2, cells := 0, slots := 0, locals := 45 } (va_Pc [.ref (w 0), .int x1, .int x2] (Pr D cI cJ cZ cQ bs sz [oX6 w w_undos w_seed w_entries, aJ cJ (w 1) 3420 w_w])) (QrI zr) 0 0 no := by
  refine stM (cc := cX6_row) (maxL := 3) (ret := (some .int)) (by decide +kernel) rfl (Nat.le_of_ble_eq_true rfl) ?_
  intro p e s m args below meth c C0 hr hlocks hname hsz hP hDb hE ls hl
  have hAb : ∀ q, no q → bs ≤ q := fun _ h => h.elim
  obtain ⟨hx, hb, hml, hown, hts⟩ := id C0
  have hown : s.vm.findClass RX6 = some m.cls := hown
  obtain ⟨hK, hNW, -, tw, hZ, hT⟩ := id hE
  have hl : lv_has ls 3 [(0, .ref (w 0)), (1, .int x1), (2, .int x2)] := hl
  have hS : va_S no s.heap s.heap [] := va_S.rf
  have gk192 := hts (.constant RX6 192 (-1000000002)) (by decide +kernel)
  have gk198 := hts (.constant RX6 198 (-1000000001)) (by decide +kernel)
  unfold f_X6_row at hf
  have go : ∀ (H : Heap) (locs : List Loc), va_P D vwCl [oX6 w w_undos w_seed w_entries, aJ cJ (w 1) 3420 w_w] H → va_S no s.heap H locs → W p l e { frames := 2, cells := 0, slots := 0, locals := 45 } s m args below meth c H locs 0 0 (MQ below (QrI zr) args s 0 0 no) (F0 m 0 ls []) := by
    intro H locs hP hS
    refine lv_iload_n hx hb dX6_row_0 rfl (lv_at hl 1 rfl) ?_
    obtain ⟨z1, hz1, hf⟩ := obd hf
    refine kZ (runS (As := [.int x1]) (rest := []) C0 hE hAb hP (hDb.addr rfl) hS [] (wc := []) (by decide) rfl (c_X6_isSlot l D cI cJ cZ cQ bs H.size x1 z1 hz1) (va_cwS 1 hts gX6_row_X6_isSlot rfl rfl rfl (by decide +kernel) ⟨Nat.le_of_ble_eq_true rfl, Nat.le_of_ble_eq_true rfl⟩) rfl hl.1 rfl (Nat.le_of_ble_eq_true rfl) dX6_row_1 ⟨Nat.le_of_ble_eq_true rfl, Nat.le_of_ble_eq_true rfl⟩) hS hP (fun bz1 H locs hP hS => ?_)
    refine lv_if_ne (tgt := 10) hx hb dX6_row_4 (by decide) (fun c2 => ?_) (fun c2 => ?_)
    · replace hf := oel c2 hf
      refine lv_iload_n hx hb dX6_row_10 rfl (lv_at hl 2 rfl) ?_
      refine lv_i2l (v := (Int32.toInt64 x2)) hx hb dX6_row_11 rfl ?_
      refine lv_lconst (v := 0) hx hb dX6_row_12 (by decide) ?_
      refine lv_lconst (v := 1) hx hb dX6_row_13 (by decide) ?_
      obtain ⟨z3, hz3, hf⟩ := obd hf
      refine kZ (runS (As := [.long (Int32.toInt64 x2), .long 0, .long 1]) (rest := []) C0 hE hAb hP (hDb.addr rfl) hS [] (wc := []) (by decide) rfl (c_X6_in l D cI cJ cZ cQ bs H.size (Int32.toInt64 x2) 0 1 z3 hz3) (va_cwS 3 hts gX6_row_X6_in rfl rfl rfl (by decide +kernel) ⟨Nat.le_of_ble_eq_true rfl, Nat.le_of_ble_eq_true rfl⟩) rfl hl.1 rfl (Nat.le_of_ble_eq_true rfl) dX6_row_14 ⟨Nat.le_of_ble_eq_true rfl, Nat.le_of_ble_eq_true rfl⟩) hS hP (fun bz3 H locs hP hS => ?_)
      refine lv_if_ne (tgt := 23) hx hb dX6_row_17 (by decide) (fun c4 => ?_) (fun c4 => ?_)
      · replace hf := oel c4 hf
        refine lv_iload_n hx hb dX6_row_23 rfl (lv_at hl 2 rfl) ?_
        refine lv_if_ne (tgt := 35) hx hb dX6_row_24 (by decide) (fun c5 => ?_) (fun c5 => ?_)
        · replace hf := oel c5 hf
          refine lv_aload_n hx hb dX6_row_35 rfl (lv_at hl 0 rfl) ?_
          refine lv_iload_n hx hb dX6_row_36 rfl (lv_at hl 1 rfl) ?_
          obtain ⟨z6, hz6, hf⟩ := obd hf
          refine kI (runV (As := [.int x1]) (rest := []) C0 hE hAb hP (hDb.addr rfl) hS [0, 1] (wc := [oX6 w w_undos w_seed w_entries, aJ cJ (w 1) 3420 w_w]) (by decide) rfl 0 rfl rfl (c_X6_kind l D cI cJ cZ cQ bs H.size w w_undos w_seed w_entries w_w x1 z6 hz6) (cwV 1 hts gX6_row_X6_kind rfl rfl rfl (by decide +kernel) ⟨Nat.le_of_ble_eq_true rfl, Nat.le_of_ble_eq_true rfl⟩) rfl hl.1 rfl (Nat.le_of_ble_eq_true rfl) dX6_row_37 ⟨Nat.le_of_ble_eq_true rfl, Nat.le_of_ble_eq_true rfl⟩) hS hP (fun H locs hP hS => ?_)
          refine lv_bipush (v := 14) hx hb dX6_row_40 (by decide) ?_
          refine lv_icmp_ne (tgt := 49) hx hb dX6_row_42 (by decide) (fun c7 => ?_) (fun c7 => ?_)
          · replace hf := oel c7 hf
            refine lv_aload_n hx hb dX6_row_49 rfl (lv_at hl 0 rfl) ?_
            refine lv_iload_n hx hb dX6_row_50 rfl (lv_at hl 1 rfl) ?_
            obtain ⟨z8, hz8, hf⟩ := obd hf
            refine kZ (runV (As := [.int x1]) (rest := []) C0 hE hAb hP (hDb.addr rfl) hS [0, 1] (wc := [oX6 w w_undos w_seed w_entries, aJ cJ (w 1) 3420 w_w]) (by decide) rfl 0 rfl rfl (c_X6_isRow l D cI cJ cZ cQ bs H.size w w_undos w_seed w_entries w_w x1 z8 hz8) (cwV 1 hts gX6_row_X6_isRow rfl rfl rfl (by decide +kernel) ⟨Nat.le_of_ble_eq_true rfl, Nat.le_of_ble_eq_true rfl⟩) rfl hl.1 rfl (Nat.le_of_ble_eq_true rfl) dX6_row_51 ⟨Nat.le_of_ble_eq_true rfl, Nat.le_of_ble_eq_true rfl⟩) hS hP (fun bz8 H locs hP hS => ?_)
            refine lv_if_ne (tgt := 62) hx hb dX6_row_54 (by decide) (fun c9 => ?_) (fun c9 => ?_)
            · replace hf := oel c9 hf
              refine lv_aload_n hx hb dX6_row_62 rfl (lv_at hl 0 rfl) ?_
              refine lv_iload_n hx hb dX6_row_63 rfl (lv_at hl 1 rfl) ?_
              obtain ⟨z10, hz10, hf⟩ := obd hf
              refine kI (runV (As := [.int x1]) (rest := []) C0 hE hAb hP (hDb.addr rfl) hS [0, 1] (wc := [oX6 w w_undos w_seed w_entries, aJ cJ (w 1) 3420 w_w]) (by decide) rfl 0 rfl rfl (c_X6_many l D cI cJ cZ cQ bs H.size w w_undos w_seed w_entries w_w x1 z10 hz10) (cwV 1 hts gX6_row_X6_many rfl rfl rfl (by decide +kernel) ⟨Nat.le_of_ble_eq_true rfl, Nat.le_of_ble_eq_true rfl⟩) rfl hl.1 rfl (Nat.le_of_ble_eq_true rfl) dX6_row_64 ⟨Nat.le_of_ble_eq_true rfl, Nat.le_of_ble_eq_true rfl⟩) hS hP (fun H locs hP hS => ?_)
              have er := Option.some.inj hf
              exact rtI hx hb hr hS dX6_row_67 er hlocks
            · replace hf := oif c9 hf
              refine lv_bipush (v := (-2)) hx hb dX6_row_57 (by decide) ?_
              refine lv_goto (tgt := 67) hx hb dX6_row_59 (by decide) ?_
              have er := Option.some.inj hf
              exact rtI hx hb hr hS dX6_row_67 er hlocks
          · replace hf := oif c7 hf
            refine lv_iconst (v := (-1)) hx hb dX6_row_45 (by decide) ?_
            refine lv_goto (tgt := 67) hx hb dX6_row_46 (by decide) ?_
            have er := Option.some.inj hf
            exact rtI hx hb hr hS dX6_row_67 er hlocks
        · replace hf := oif c5 hf
          refine lv_aload_n hx hb dX6_row_27 rfl (lv_at hl 0 rfl) ?_
          refine lv_iload_n hx hb dX6_row_28 rfl (lv_at hl 1 rfl) ?_
          obtain ⟨z11, hz11, hf⟩ := obd hf
          refine kI (runV (As := [.int x1]) (rest := []) C0 hE hAb hP (hDb.addr rfl) hS [0, 1] (wc := [oX6 w w_undos w_seed w_entries, aJ cJ (w 1) 3420 w_w]) (by decide) rfl 0 rfl rfl (c_X6_kind l D cI cJ cZ cQ bs H.size w w_undos w_seed w_entries w_w x1 z11 hz11) (cwV 1 hts gX6_row_X6_kind rfl rfl rfl (by decide +kernel) ⟨Nat.le_of_ble_eq_true rfl, Nat.le_of_ble_eq_true rfl⟩) rfl hl.1 rfl (Nat.le_of_ble_eq_true rfl) dX6_row_29 ⟨Nat.le_of_ble_eq_true rfl, Nat.le_of_ble_eq_true rfl⟩) hS hP (fun H locs hP hS => ?_)
          refine lv_goto (tgt := 67) hx hb dX6_row_32 (by decide) ?_
          have er := Option.some.inj hf
          exact rtI hx hb hr hS dX6_row_67 er hlocks
      · replace hf := oif c4 hf
        refine lv_ldc hx hb hown gk192 dX6_row_20 ?_
        have er := Option.some.inj hf
        exact rtI hx hb hr hS dX6_row_22 er hlocks
    · replace hf := oif c2 hf
      refine lv_ldc hx hb hown gk198 dX6_row_7 ?_
      have er := Option.some.inj hf
      exact rtI hx hb hr hS dX6_row_9 er hlocks
  exact go s.heap [] hP hS
noncomputable def f_X6_cell (w_w : Nat → Int64) (x1 : Int32) (x2 : Int32) (x3 : Int32) : Option (Int64) := (f_X6_isSlot x1).bind (fun z1 => if z1 = 0 then (some ((-1000000001))) else ((f_X6_in (Int32.toInt64 x3) 0 1).bind (fun z3 => if z3 = 0 then (some ((-1000000002))) else ((f_X6_lacks w_w x1 (Int32.toInt64 x2)).bind (fun z5 => if z5 ≤ 0 then (if x3 = 0 then ((f_X6_sortAt w_w x1 x2).bind (fun z10 => some ((Int32.toInt64 z10)))) else ((f_X6_at x1 x2).bind (fun z8 => if ib ((84 : Int32) + z8) 3420 = true then (some ((w_w ((84 : Int32) + z8).toNatClampNeg))) else none))) else (if x3 = 0 then (some ((Int32.toInt64 (((-10) : Int32) - z5)))) else (some (0))))))))
set_option maxHeartbeats 4000000 in
set_option maxRecDepth 100000 in
theorem c_X6_cell (l : Launch) (D : va_G) (cI cJ cZ cQ : ClassId) (bs sz : Nat) (w : Nat → Nat) (w_undos : Int32) (w_seed : Int32) (w_entries : Int32) (w_w : Nat → Int64) (x1 : Int32) (x2 : Int32) (x3 : Int32) (zr : Int64) (hf : f_X6_cell w_w x1 x2 x3 = some zr) : Met l yX6_cell wsX6_cell { frames := 3, cells := 0, slots := 0, locals := 65 } (va_Pc [.ref (w 0), .int x1, .int x2, .int x3] (Pr D cI cJ cZ cQ bs sz [oX6 w w_undos w_seed w_entries, aJ cJ (w 1) 3420 w_w])) (QrJ zr) 0 0 no := by
  refine stM (cc := cX6_cell) (maxL := 5) (ret := (some .long)) (by decide +kernel) rfl (Nat.le_of_ble_eq_true rfl) ?_
  intro p e s m args below meth c C0 hr hlocks hname hsz hP hDb hE ls hl
  have hAb : ∀ q, no q → bs ≤ q := fun _ h => h.elim
  obtain ⟨hx, hb, hml, hown, hts⟩ := id C0
  have hown : s.vm.findClass RX6 = some m.cls := hown
  obtain ⟨hK, hNW, -, tw, hZ, hT⟩ := id hE
  have hl : lv_has ls 5 [(0, .ref (w 0)), (1, .int x1), (2, .int x2), (3, .int x3)] := hl
  have hS : va_S no s.heap s.heap [] := va_S.rf
  have hI_X6 := (show ∀ w ∈ wsX60, w ∈ wsX6_cell by decide +kernel)
  have gf7 := hts (.fieldLink RX6 7 "RowRanksModel" "w" "[J") (by decide +kernel)
  have gk201 := hts (.constantLong RX6 201 (-1000000002)) (by decide +kernel)
  have gk199 := hts (.constantLong RX6 199 (-1000000001)) (by decide +kernel)
  unfold f_X6_cell at hf
  have go : ∀ (H : Heap) (locs : List Loc), va_P D vwCl [oX6 w w_undos w_seed w_entries, aJ cJ (w 1) 3420 w_w] H → va_S no s.heap H locs → W p l e { frames := 3, cells := 0, slots := 0, locals := 65 } s m args below meth c H locs 0 0 (MQ below (QrJ zr) args s 0 0 no) (F0 m 0 ls []) := by
    intro H locs hP hS
    refine lv_iload_n hx hb dX6_cell_0 rfl (lv_at hl 1 rfl) ?_
    obtain ⟨z1, hz1, hf⟩ := obd hf
    refine kZ (runS (As := [.int x1]) (rest := []) C0 hE hAb hP (hDb.addr rfl) hS [] (wc := []) (by decide) rfl (c_X6_isSlot l D cI cJ cZ cQ bs H.size x1 z1 hz1) (va_cwS 1 hts gX6_cell_X6_isSlot rfl rfl rfl (by decide +kernel) ⟨Nat.le_of_ble_eq_true rfl, Nat.le_of_ble_eq_true rfl⟩) rfl hl.1 rfl (Nat.le_of_ble_eq_true rfl) dX6_cell_1 ⟨Nat.le_of_ble_eq_true rfl, Nat.le_of_ble_eq_true rfl⟩) hS hP (fun bz1 H locs hP hS => ?_)
    refine lv_if_ne (tgt := 11) hx hb dX6_cell_4 (by decide) (fun c2 => ?_) (fun c2 => ?_)
    · replace hf := oel c2 hf
      refine lv_iload_n hx hb dX6_cell_11 rfl (lv_at hl 3 rfl) ?_
      refine lv_i2l (v := (Int32.toInt64 x3)) hx hb dX6_cell_12 rfl ?_
      refine lv_lconst (v := 0) hx hb dX6_cell_13 (by decide) ?_
      refine lv_lconst (v := 1) hx hb dX6_cell_14 (by decide) ?_
      obtain ⟨z3, hz3, hf⟩ := obd hf
      refine kZ (runS (As := [.long (Int32.toInt64 x3), .long 0, .long 1]) (rest := []) C0 hE hAb hP (hDb.addr rfl) hS [] (wc := []) (by decide) rfl (c_X6_in l D cI cJ cZ cQ bs H.size (Int32.toInt64 x3) 0 1 z3 hz3) (va_cwS 3 hts gX6_cell_X6_in rfl rfl rfl (by decide +kernel) ⟨Nat.le_of_ble_eq_true rfl, Nat.le_of_ble_eq_true rfl⟩) rfl hl.1 rfl (Nat.le_of_ble_eq_true rfl) dX6_cell_15 ⟨Nat.le_of_ble_eq_true rfl, Nat.le_of_ble_eq_true rfl⟩) hS hP (fun bz3 H locs hP hS => ?_)
      refine lv_if_ne (tgt := 25) hx hb dX6_cell_18 (by decide) (fun c4 => ?_) (fun c4 => ?_)
      · replace hf := oel c4 hf
        refine lv_aload_n hx hb dX6_cell_25 rfl (lv_at hl 0 rfl) ?_
        refine lv_iload_n hx hb dX6_cell_26 rfl (lv_at hl 1 rfl) ?_
        refine lv_iload_n hx hb dX6_cell_27 rfl (lv_at hl 2 rfl) ?_
        refine lv_i2l (v := (Int32.toInt64 x2)) hx hb dX6_cell_28 rfl ?_
        obtain ⟨z5, hz5, hf⟩ := obd hf
        refine kI (runV (As := [.int x1, .long (Int32.toInt64 x2)]) (rest := []) C0 hE hAb hP (hDb.addr rfl) hS [0, 1] (wc := [oX6 w w_undos w_seed w_entries, aJ cJ (w 1) 3420 w_w]) (by decide) rfl 0 rfl rfl (c_X6_lacks l D cI cJ cZ cQ bs H.size w w_undos w_seed w_entries w_w x1 (Int32.toInt64 x2) z5 hz5) (cwV 2 hts gX6_cell_X6_lacks rfl rfl rfl (by decide +kernel) ⟨Nat.le_of_ble_eq_true rfl, Nat.le_of_ble_eq_true rfl⟩) rfl hl.1 rfl (Nat.le_of_ble_eq_true rfl) dX6_cell_29 ⟨Nat.le_of_ble_eq_true rfl, Nat.le_of_ble_eq_true rfl⟩) hS hP (fun H locs hP hS => ?_)
        refine lv_istore (lv' := [(4, .int z5), (0, .ref (w 0)), (1, .int x1), (2, .int x2), (3, .int x3)]) hx hb dX6_cell_32 hl (by decide) rfl (fun ls hl => ?_)
        refine lv_iload hx hb dX6_cell_34 (lv_at hl 0 rfl) ?_
        refine lv_if_le (tgt := 54) hx hb dX6_cell_36 (by decide) (fun c6 => ?_) (fun c6 => ?_)
        · replace hf := oif c6 hf
          refine lv_iload_n hx hb dX6_cell_54 rfl (lv_at hl 4 rfl) ?_
          refine lv_if_ne (tgt := 68) hx hb dX6_cell_55 (by decide) (fun c7 => ?_) (fun c7 => ?_)
          · replace hf := oel c7 hf
            refine lv_aload_n hx hb dX6_cell_68 rfl (lv_at hl 1 rfl) ?_
            refine va_get (D := D) (ci := 6) (v := .ref (w 1)) (C := RX6) (T := TX6) (N := 12) hx hb hts hI_X6 hown hK hP 0 rfl rfl 0 (by decide) gf7 (fun _ h9 => h9) rfl dX6_cell_69 ?_
            refine lv_bipush (v := 84) hx hb dX6_cell_72 (by decide) ?_
            refine lv_iload_n hx hb dX6_cell_74 rfl (lv_at hl 2 rfl) ?_
            refine lv_iload_n hx hb dX6_cell_75 rfl (lv_at hl 3 rfl) ?_
            obtain ⟨z8, hz8, hf⟩ := obd hf
            refine kI (runS (As := [.int x1, .int x2]) (rest := [.int 84, .ref (w 1)]) C0 hE hAb hP (hDb.addr rfl) hS [] (wc := []) (by decide) rfl (c_X6_at l D cI cJ cZ cQ bs H.size x1 x2 z8 hz8) (va_cwS 2 hts gX6_cell_X6_at rfl rfl rfl (by decide +kernel) ⟨Nat.le_of_ble_eq_true rfl, Nat.le_of_ble_eq_true rfl⟩) rfl hl.1 rfl (Nat.le_of_ble_eq_true rfl) dX6_cell_76 ⟨Nat.le_of_ble_eq_true rfl, Nat.le_of_ble_eq_true rfl⟩) hS hP (fun H locs hP hS => ?_)
            refine lv_iadd hx hb dX6_cell_79 ?_
            obtain ⟨h9, hf⟩ := ogd hf
            refine va_lald hx hb hK hP 1 1 rfl rfl (ib_in h9) dX6_cell_80 ?_
            have er := Option.some.inj hf
            exact rtJ hx hb hr hS dX6_cell_81 er hlocks
          · replace hf := oif c7 hf
            refine lv_aload_n hx hb dX6_cell_58 rfl (lv_at hl 1 rfl) ?_
            refine lv_iload_n hx hb dX6_cell_59 rfl (lv_at hl 2 rfl) ?_
            refine lv_iload_n hx hb dX6_cell_60 rfl (lv_at hl 3 rfl) ?_
            obtain ⟨z10, hz10, hf⟩ := obd hf
            refine kI (runV (As := [.int x1, .int x2]) (rest := []) C0 hE hAb hP (hDb.addr rfl) hS [0, 1] (wc := [oX6 w w_undos w_seed w_entries, aJ cJ (w 1) 3420 w_w]) (by decide) rfl 0 rfl rfl (c_X6_sortAt l D cI cJ cZ cQ bs H.size w w_undos w_seed w_entries w_w x1 x2 z10 hz10) (cwV 2 hts gX6_cell_X6_sortAt rfl rfl rfl (by decide +kernel) ⟨Nat.le_of_ble_eq_true rfl, Nat.le_of_ble_eq_true rfl⟩) rfl hl.1 rfl (Nat.le_of_ble_eq_true rfl) dX6_cell_61 ⟨Nat.le_of_ble_eq_true rfl, Nat.le_of_ble_eq_true rfl⟩) hS hP (fun H locs hP hS => ?_)
            refine lv_i2l (v := (Int32.toInt64 z10)) hx hb dX6_cell_64 rfl ?_
            refine lv_goto (tgt := 81) hx hb dX6_cell_65 (by decide) ?_
            have er := Option.some.inj hf
            exact rtJ hx hb hr hS dX6_cell_81 er hlocks
        · replace hf := oel c6 hf
          refine lv_iload_n hx hb dX6_cell_39 rfl (lv_at hl 4 rfl) ?_
          refine lv_if_ne (tgt := 52) hx hb dX6_cell_40 (by decide) (fun c11 => ?_) (fun c11 => ?_)
          · replace hf := oel c11 hf
            refine lv_lconst (v := 0) hx hb dX6_cell_52 (by decide) ?_
            have er := Option.some.inj hf
            exact rtJ hx hb hr hS dX6_cell_53 er hlocks
          · replace hf := oif c11 hf
            refine lv_bipush (v := (-10)) hx hb dX6_cell_43 (by decide) ?_
            refine lv_iload hx hb dX6_cell_45 (lv_at hl 0 rfl) ?_
            refine lv_isub hx hb dX6_cell_47 ?_
            refine lv_i2l (v := (Int32.toInt64 (((-10) : Int32) - z5))) hx hb dX6_cell_48 rfl ?_
            refine lv_goto (tgt := 53) hx hb dX6_cell_49 (by decide) ?_
            have er := Option.some.inj hf
            exact rtJ hx hb hr hS dX6_cell_53 er hlocks
      · replace hf := oif c4 hf
        refine lv_ldc2 hx hb hown gk201 dX6_cell_21 ?_
        have er := Option.some.inj hf
        exact rtJ hx hb hr hS dX6_cell_24 er hlocks
    · replace hf := oif c2 hf
      refine lv_ldc2 hx hb hown gk199 dX6_cell_7 ?_
      have er := Option.some.inj hf
      exact rtJ hx hb hr hS dX6_cell_10 er hlocks
  exact go s.heap [] hP hS
noncomputable def f_X6_hand (w_w : Nat → Int64) (x1 : Int32) : Option (Int64) := if x1 = 0 then (some ((w_w (Int32.toNatClampNeg 170)))) else (if x1 = 1 then (some ((w_w (Int32.toNatClampNeg 171)))) else (some ((-1000000002))))
set_option maxHeartbeats 4000000 in
set_option maxRecDepth 100000 in
theorem c_X6_hand (l : Launch) (D : va_G) (cI cJ cZ cQ : ClassId) (bs sz : Nat) (w : Nat → Nat) (w_undos : Int32) (w_seed : Int32) (w_entries : Int32) (w_w : Nat → Int64) (x1 : Int32) (zr : Int64) (hf : f_X6_hand w_w x1 = some zr) : Met l yX6_hand wsX6_hand { frames := 0, cells := 0, slots := 0, locals := 0 } (va_Pc [.ref (w 0), .int x1] (Pr D cI cJ cZ cQ bs sz [oX6 w w_undos w_seed w_entries, aJ cJ (w 1) 3420 w_w])) (QrJ zr) 0 0 no := by
  refine stM (cc := cX6_hand) (maxL := 2) (ret := (some .long)) (by decide +kernel) rfl (Nat.le_of_ble_eq_true rfl) ?_
  intro p e s m args below meth c C0 hr hlocks hname hsz hP hDb hE ls hl
  have hAb : ∀ q, no q → bs ≤ q := fun _ h => h.elim
  obtain ⟨hx, hb, hml, hown, hts⟩ := id C0
  have hown : s.vm.findClass RX6 = some m.cls := hown
  obtain ⟨hK, hNW, -, tw, hZ, hT⟩ := id hE
  have hl : lv_has ls 2 [(0, .ref (w 0)), (1, .int x1)] := hl
  have hS : va_S no s.heap s.heap [] := va_S.rf
  have gk201 := hts (.constantLong RX6 201 (-1000000002)) (by decide +kernel)
  have hI_X6 := (show ∀ w ∈ wsX60, w ∈ wsX6_hand by decide +kernel)
  have gf7 := hts (.fieldLink RX6 7 "RowRanksModel" "w" "[J") (by decide +kernel)
  unfold f_X6_hand at hf
  have go : ∀ (H : Heap) (locs : List Loc), va_P D vwCl [oX6 w w_undos w_seed w_entries, aJ cJ (w 1) 3420 w_w] H → va_S no s.heap H locs → W p l e { frames := 0, cells := 0, slots := 0, locals := 0 } s m args below meth c H locs 0 0 (MQ below (QrJ zr) args s 0 0 no) (F0 m 0 ls []) := by
    intro H locs hP hS
    refine lv_iload_n hx hb dX6_hand_0 rfl (lv_at hl 1 rfl) ?_
    refine lv_if_ne (tgt := 15) hx hb dX6_hand_1 (by decide) (fun c1 => ?_) (fun c1 => ?_)
    · replace hf := oel c1 hf
      refine lv_iload_n hx hb dX6_hand_15 rfl (lv_at hl 1 rfl) ?_
      refine lv_iconst (v := 1) hx hb dX6_hand_16 (by decide) ?_
      refine lv_icmp_ne (tgt := 31) hx hb dX6_hand_17 (by decide) (fun c2 => ?_) (fun c2 => ?_)
      · replace hf := oel c2 hf
        refine lv_ldc2 hx hb hown gk201 dX6_hand_31 ?_
        have er := Option.some.inj hf
        exact rtJ hx hb hr hS dX6_hand_34 er hlocks
      · replace hf := oif c2 hf
        refine lv_aload_n hx hb dX6_hand_20 rfl (lv_at hl 0 rfl) ?_
        refine va_get (D := D) (ci := 6) (v := .ref (w 1)) (C := RX6) (T := TX6) (N := 12) hx hb hts hI_X6 hown hK hP 0 rfl rfl 0 (by decide) gf7 (fun _ h9 => h9) rfl dX6_hand_21 ?_
        refine lv_sipush (v := 171) hx hb dX6_hand_24 (by decide) ?_
        refine va_lald hx hb hK hP 1 1 rfl rfl (ib_in (by decide)) dX6_hand_27 ?_
        refine lv_goto (tgt := 34) hx hb dX6_hand_28 (by decide) ?_
        have er := Option.some.inj hf
        exact rtJ hx hb hr hS dX6_hand_34 er hlocks
    · replace hf := oif c1 hf
      refine lv_aload_n hx hb dX6_hand_4 rfl (lv_at hl 0 rfl) ?_
      refine va_get (D := D) (ci := 6) (v := .ref (w 1)) (C := RX6) (T := TX6) (N := 12) hx hb hts hI_X6 hown hK hP 0 rfl rfl 0 (by decide) gf7 (fun _ h9 => h9) rfl dX6_hand_5 ?_
      refine lv_sipush (v := 170) hx hb dX6_hand_8 (by decide) ?_
      refine va_lald hx hb hK hP 1 1 rfl rfl (ib_in (by decide)) dX6_hand_11 ?_
      refine lv_goto (tgt := 34) hx hb dX6_hand_12 (by decide) ?_
      have er := Option.some.inj hf
      exact rtJ hx hb hr hS dX6_hand_34 er hlocks
  exact go s.heap [] hP hS
noncomputable def L_X6_tagged_13 (w_w : Nat → Int64) (v1 : Int32) (v3 : Int32) : Nat → Int32 → Int32 → Option (Int32)
  | 0, _, _ => none
  | n + 1, v2, v4 => (f_X6_isRow w_w v3).bind (fun z2 => if z2 = 0 then (some (v2)) else ((f_X6_many w_w v3).bind (fun z4 => if z4 ≤ v4 then (some (v2)) else ((f_X6_sortAt w_w v3 v4).bind (fun z6 => if z6 = 8 then ((f_X6_at v3 v4).bind (fun z9 => if ib ((84 : Int32) + z9) 3420 = true then (if (lg_cmp (w_w ((84 : Int32) + z9).toNatClampNeg) (Int32.toInt64 v1)) = 0 then ((some (v4 + 1 : Int32)).bind (fun y13 => L_X6_tagged_13 w_w v1 v3 n (v2 + (1 : Int32)) y13)) else ((some (v4 + 1 : Int32)).bind (fun y12 => L_X6_tagged_13 w_w v1 v3 n (v2 + (0 : Int32)) y12))) else none)) else ((some (v4 + 1 : Int32)).bind (fun y8 => L_X6_tagged_13 w_w v1 v3 n (v2 + (0 : Int32)) y8)))))))
noncomputable def L_X6_tagged_4 (w_w : Nat → Int64) (v1 : Int32) : Nat → Int32 → Int32 → Option (Int32)
  | 0, _, _ => none
  | n + 1, v2, v3 => if 6 ≤ v3 then (some (v2)) else ((L_X6_tagged_13 w_w v1 v3 4000 v2 0).bind (fun z14 => (some (v3 + 1 : Int32)).bind (fun y15 => L_X6_tagged_4 w_w v1 n z14 y15)))
noncomputable def f_X6_tagged (w_w : Nat → Int64) (x1 : Int32) : Option (Int32) := (L_X6_tagged_4 w_w x1 4000 0 0).bind (fun z16 => some (z16))
set_option maxHeartbeats 4000000 in
set_option maxRecDepth 100000 in
theorem c_X6_tagged (l : Launch) (D : va_G) (cI cJ cZ cQ : ClassId) (bs sz : Nat) (w : Nat → Nat) (w_undos : Int32) (w_seed : Int32) (w_entries : Int32) (w_w : Nat → Int64) (x1 : Int32) (zr : Int32) (hf : f_X6_tagged w_w x1 = some zr) : Met l yX6_tagged wsX6_tagged { frames := 2, cells := 0, slots := 0, locals := 43 } (va_Pc [.ref (w 0), .int x1] (Pr D cI cJ cZ cQ bs sz [oX6 w w_undos w_seed w_entries, aJ cJ (w 1) 3420 w_w])) (QrI zr) 0 0 no := by
  refine stM (cc := cX6_tagged) (maxL := 5) (ret := (some .int)) (by decide +kernel) rfl (Nat.le_of_ble_eq_true rfl) ?_
  intro p e s m args below meth c C0 hr hlocks hname hsz hP hDb hE ls hl
  have hAb : ∀ q, no q → bs ≤ q := fun _ h => h.elim
  obtain ⟨hx, hb, hml, hown, hts⟩ := id C0
  have hown : s.vm.findClass RX6 = some m.cls := hown
  obtain ⟨hK, hNW, -, tw, hZ, hT⟩ := id hE
  have hl : lv_has ls 5 [(0, .ref (w 0)), (1, .int x1)] := hl
  have hS : va_S no s.heap s.heap [] := va_S.rf
  have hI_X6 := (show ∀ w ∈ wsX60, w ∈ wsX6_tagged by decide +kernel)
  have gf7 := hts (.fieldLink RX6 7 "RowRanksModel" "w" "[J") (by decide +kernel)
  have W13 : ∀ (n : Nat) (v1 : Int32) (v2 : Int32) (v3 : Int32) (v4 : Int32) (H : Heap) (locs : List Loc) (ls : Array Slot) (z : Int32), va_P D vwCl [oX6 w w_undos w_seed w_entries, aJ cJ (w 1) 3420 w_w] H → va_S no s.heap H locs → lv_has ls 5 [(0, .ref (w 0)), (1, .int v1), (2, .int v2), (3, .int v3), (4, .int v4)] → L_X6_tagged_13 w_w v1 v3 n v2 v4 = some z → (∀ (H : Heap) (locs : List Loc) (ls : Array Slot), va_P D vwCl [oX6 w w_undos w_seed w_entries, aJ cJ (w 1) 3420 w_w] H → va_S no s.heap H locs → lv_has ls 5 [(0, .ref (w 0)), (1, .int v1), (2, .int z), (3, .int v3)] → W p l e { frames := 2, cells := 0, slots := 0, locals := 43 } s m args below meth c H locs 0 0 (MQ below (QrI zr) args s 0 0 no) (F0 m 77 ls [])) → W p l e { frames := 2, cells := 0, slots := 0, locals := 43 } s m args below meth c H locs 0 0 (MQ below (QrI zr) args s 0 0 no) (F0 m 13 ls []) := by
    intro n
    induction n with
    | zero =>
      intro v1 v2 v3 v4 H locs ls z hP hS hl hf
      exact absurd (show (none : Option (Int32)) = some z from hf) (fun h => by cases h)
    | succ n ih =>
      intro v1 v2 v3 v4 H locs ls z hP hS hl hf K
      rw [L_X6_tagged_13] at hf
      refine lv_aload_n hx hb dX6_tagged_13 rfl (lv_at hl 0 rfl) ?_
      refine lv_iload_n hx hb dX6_tagged_14 rfl (lv_at hl 3 rfl) ?_
      obtain ⟨z2, hz2, hf⟩ := obd hf
      refine kZ (runV (As := [.int v3]) (rest := []) C0 hE hAb hP (hDb.addr rfl) hS [0, 1] (wc := [oX6 w w_undos w_seed w_entries, aJ cJ (w 1) 3420 w_w]) (by decide) rfl 0 rfl rfl (c_X6_isRow l D cI cJ cZ cQ bs H.size w w_undos w_seed w_entries w_w v3 z2 hz2) (cwV 1 hts gX6_tagged_X6_isRow rfl rfl rfl (by decide +kernel) ⟨Nat.le_of_ble_eq_true rfl, Nat.le_of_ble_eq_true rfl⟩) rfl hl.1 rfl (Nat.le_of_ble_eq_true rfl) dX6_tagged_15 ⟨Nat.le_of_ble_eq_true rfl, Nat.le_of_ble_eq_true rfl⟩) hS hP (fun bz2 H locs hP hS => ?_)
      refine lv_if_eq (tgt := 77) hx hb dX6_tagged_18 (by decide) (fun c3 => ?_) (fun c3 => ?_)
      · replace hf := oif c3 hf
        have hf := Option.some.inj hf
        subst hf
        exact K H locs ls hP hS (lv_sub hl [0, 1, 2, 3] rfl)
      · replace hf := oel c3 hf
        refine lv_iload hx hb dX6_tagged_21 (lv_at hl 4 rfl) ?_
        refine lv_aload_n hx hb dX6_tagged_23 rfl (lv_at hl 0 rfl) ?_
        refine lv_iload_n hx hb dX6_tagged_24 rfl (lv_at hl 3 rfl) ?_
        obtain ⟨z4, hz4, hf⟩ := obd hf
        refine kI (runV (As := [.int v3]) (rest := [.int v4]) C0 hE hAb hP (hDb.addr rfl) hS [0, 1] (wc := [oX6 w w_undos w_seed w_entries, aJ cJ (w 1) 3420 w_w]) (by decide) rfl 0 rfl rfl (c_X6_many l D cI cJ cZ cQ bs H.size w w_undos w_seed w_entries w_w v3 z4 hz4) (cwV 1 hts gX6_tagged_X6_many rfl rfl rfl (by decide +kernel) ⟨Nat.le_of_ble_eq_true rfl, Nat.le_of_ble_eq_true rfl⟩) rfl hl.1 rfl (Nat.le_of_ble_eq_true rfl) dX6_tagged_25 ⟨Nat.le_of_ble_eq_true rfl, Nat.le_of_ble_eq_true rfl⟩) hS hP (fun H locs hP hS => ?_)
        refine lv_icmp_ge (tgt := 77) hx hb dX6_tagged_28 (by decide) (fun c5 => ?_) (fun c5 => ?_)
        · replace hf := oif c5 hf
          have hf := Option.some.inj hf
          subst hf
          exact K H locs ls hP hS (lv_sub hl [0, 1, 2, 3] rfl)
        · replace hf := oel c5 hf
          refine lv_iload_n hx hb dX6_tagged_31 rfl (lv_at hl 2 rfl) ?_
          refine lv_aload_n hx hb dX6_tagged_32 rfl (lv_at hl 0 rfl) ?_
          refine lv_iload_n hx hb dX6_tagged_33 rfl (lv_at hl 3 rfl) ?_
          refine lv_iload hx hb dX6_tagged_34 (lv_at hl 4 rfl) ?_
          obtain ⟨z6, hz6, hf⟩ := obd hf
          refine kI (runV (As := [.int v3, .int v4]) (rest := [.int v2]) C0 hE hAb hP (hDb.addr rfl) hS [0, 1] (wc := [oX6 w w_undos w_seed w_entries, aJ cJ (w 1) 3420 w_w]) (by decide) rfl 0 rfl rfl (c_X6_sortAt l D cI cJ cZ cQ bs H.size w w_undos w_seed w_entries w_w v3 v4 z6 hz6) (cwV 2 hts gX6_tagged_X6_sortAt rfl rfl rfl (by decide +kernel) ⟨Nat.le_of_ble_eq_true rfl, Nat.le_of_ble_eq_true rfl⟩) rfl hl.1 rfl (Nat.le_of_ble_eq_true rfl) dX6_tagged_36 ⟨Nat.le_of_ble_eq_true rfl, Nat.le_of_ble_eq_true rfl⟩) hS hP (fun H locs hP hS => ?_)
          refine lv_bipush (v := 8) hx hb dX6_tagged_39 (by decide) ?_
          refine lv_icmp_ne (tgt := 68) hx hb dX6_tagged_41 (by decide) (fun c7 => ?_) (fun c7 => ?_)
          · replace hf := oel c7 hf
            refine lv_iconst (v := 0) hx hb dX6_tagged_68 (by decide) ?_
            refine lv_iadd hx hb dX6_tagged_69 ?_
            refine lv_istore_n (lv' := [(2, .int (v2 + (0 : Int32))), (0, .ref (w 0)), (1, .int v1), (3, .int v3), (4, .int v4)]) hx hb dX6_tagged_70 rfl hl (by decide) rfl (fun ls hl => ?_)
            obtain ⟨y8, ey8⟩ : ∃ y : Int32, y = v4 + 1 := ⟨_, rfl⟩
            replace hf := onm ey8 hf
            refine lv_iinc (v := y8) (lv' := [(4, .int y8), (2, .int (v2 + (0 : Int32))), (0, .ref (w 0)), (1, .int v1), (3, .int v3)]) hx hb dX6_tagged_71 hl (k := 4) rfl (by rw [ey8]; rfl) (by decide) rfl (fun ls hl => ?_)
            refine lv_goto (tgt := 13) hx hb dX6_tagged_74 (by decide) ?_
            exact ih v1 (v2 + (0 : Int32)) v3 y8 H locs ls z hP hS (lv_sub hl [2, 3, 1, 4, 0] rfl) hf K
          · replace hf := oif c7 hf
            refine lv_aload_n hx hb dX6_tagged_44 rfl (lv_at hl 0 rfl) ?_
            refine va_get (D := D) (ci := 6) (v := .ref (w 1)) (C := RX6) (T := TX6) (N := 12) hx hb hts hI_X6 hown hK hP 0 rfl rfl 0 (by decide) gf7 (fun _ h9 => h9) rfl dX6_tagged_45 ?_
            refine lv_bipush (v := 84) hx hb dX6_tagged_48 (by decide) ?_
            refine lv_iload_n hx hb dX6_tagged_50 rfl (lv_at hl 3 rfl) ?_
            refine lv_iload hx hb dX6_tagged_51 (lv_at hl 4 rfl) ?_
            obtain ⟨z9, hz9, hf⟩ := obd hf
            refine kI (runS (As := [.int v3, .int v4]) (rest := [.int 84, .ref (w 1), .int v2]) C0 hE hAb hP (hDb.addr rfl) hS [] (wc := []) (by decide) rfl (c_X6_at l D cI cJ cZ cQ bs H.size v3 v4 z9 hz9) (va_cwS 2 hts gX6_tagged_X6_at rfl rfl rfl (by decide +kernel) ⟨Nat.le_of_ble_eq_true rfl, Nat.le_of_ble_eq_true rfl⟩) rfl hl.1 rfl (Nat.le_of_ble_eq_true rfl) dX6_tagged_53 ⟨Nat.le_of_ble_eq_true rfl, Nat.le_of_ble_eq_true rfl⟩) hS hP (fun H locs hP hS => ?_)
            refine lv_iadd hx hb dX6_tagged_56 ?_
            obtain ⟨h10, hf⟩ := ogd hf
            refine va_lald hx hb hK hP 1 1 rfl rfl (ib_in h10) dX6_tagged_57 ?_
            refine lv_iload_n hx hb dX6_tagged_58 rfl (lv_at hl 1 rfl) ?_
            refine lv_i2l (v := (Int32.toInt64 v1)) hx hb dX6_tagged_59 rfl ?_
            refine W.lcmp hx hb dX6_tagged_60 ?_
            refine lv_if_ne (tgt := 68) hx hb dX6_tagged_61 (by decide) (fun c11 => ?_) (fun c11 => ?_)
            · replace hf := oel c11 hf
              refine lv_iconst (v := 0) hx hb dX6_tagged_68 (by decide) ?_
              refine lv_iadd hx hb dX6_tagged_69 ?_
              refine lv_istore_n (lv' := [(2, .int (v2 + (0 : Int32))), (0, .ref (w 0)), (1, .int v1), (3, .int v3), (4, .int v4)]) hx hb dX6_tagged_70 rfl hl (by decide) rfl (fun ls hl => ?_)
              obtain ⟨y12, ey12⟩ : ∃ y : Int32, y = v4 + 1 := ⟨_, rfl⟩
              replace hf := onm ey12 hf
              refine lv_iinc (v := y12) (lv' := [(4, .int y12), (2, .int (v2 + (0 : Int32))), (0, .ref (w 0)), (1, .int v1), (3, .int v3)]) hx hb dX6_tagged_71 hl (k := 4) rfl (by rw [ey12]; rfl) (by decide) rfl (fun ls hl => ?_)
              refine lv_goto (tgt := 13) hx hb dX6_tagged_74 (by decide) ?_
              exact ih v1 (v2 + (0 : Int32)) v3 y12 H locs ls z hP hS (lv_sub hl [2, 3, 1, 4, 0] rfl) hf K
            · replace hf := oif c11 hf
              refine lv_iconst (v := 1) hx hb dX6_tagged_64 (by decide) ?_
              refine lv_goto (tgt := 69) hx hb dX6_tagged_65 (by decide) ?_
              refine lv_iadd hx hb dX6_tagged_69 ?_
              refine lv_istore_n (lv' := [(2, .int (v2 + (1 : Int32))), (0, .ref (w 0)), (1, .int v1), (3, .int v3), (4, .int v4)]) hx hb dX6_tagged_70 rfl hl (by decide) rfl (fun ls hl => ?_)
              obtain ⟨y13, ey13⟩ : ∃ y : Int32, y = v4 + 1 := ⟨_, rfl⟩
              replace hf := onm ey13 hf
              refine lv_iinc (v := y13) (lv' := [(4, .int y13), (2, .int (v2 + (1 : Int32))), (0, .ref (w 0)), (1, .int v1), (3, .int v3)]) hx hb dX6_tagged_71 hl (k := 4) rfl (by rw [ey13]; rfl) (by decide) rfl (fun ls hl => ?_)
              refine lv_goto (tgt := 13) hx hb dX6_tagged_74 (by decide) ?_
              exact ih v1 (v2 + (1 : Int32)) v3 y13 H locs ls z hP hS (lv_sub hl [2, 3, 1, 4, 0] rfl) hf K
  have W4 : ∀ (n : Nat) (v1 : Int32) (v2 : Int32) (v3 : Int32) (H : Heap) (locs : List Loc) (ls : Array Slot) (z : Int32), va_P D vwCl [oX6 w w_undos w_seed w_entries, aJ cJ (w 1) 3420 w_w] H → va_S no s.heap H locs → lv_has ls 5 [(0, .ref (w 0)), (1, .int v1), (2, .int v2), (3, .int v3)] → L_X6_tagged_4 w_w v1 n v2 v3 = some z → (∀ (H : Heap) (locs : List Loc) (ls : Array Slot), va_P D vwCl [oX6 w w_undos w_seed w_entries, aJ cJ (w 1) 3420 w_w] H → va_S no s.heap H locs → lv_has ls 5 [(2, .int z)] → W p l e { frames := 2, cells := 0, slots := 0, locals := 43 } s m args below meth c H locs 0 0 (MQ below (QrI zr) args s 0 0 no) (F0 m 83 ls [])) → W p l e { frames := 2, cells := 0, slots := 0, locals := 43 } s m args below meth c H locs 0 0 (MQ below (QrI zr) args s 0 0 no) (F0 m 4 ls []) := by
    intro n
    induction n with
    | zero =>
      intro v1 v2 v3 H locs ls z hP hS hl hf
      exact absurd (show (none : Option (Int32)) = some z from hf) (fun h => by cases h)
    | succ n ih =>
      intro v1 v2 v3 H locs ls z hP hS hl hf K
      rw [L_X6_tagged_4] at hf
      refine lv_iload_n hx hb dX6_tagged_4 rfl (lv_at hl 3 rfl) ?_
      refine lv_bipush (v := 6) hx hb dX6_tagged_5 (by decide) ?_
      refine lv_icmp_ge (tgt := 83) hx hb dX6_tagged_7 (by decide) (fun c1 => ?_) (fun c1 => ?_)
      · replace hf := oif c1 hf
        have hf := Option.some.inj hf
        subst hf
        exact K H locs ls hP hS (lv_sub hl [2] rfl)
      · replace hf := oel c1 hf
        refine lv_iconst (v := 0) hx hb dX6_tagged_10 (by decide) ?_
        refine lv_istore (lv' := [(4, .int 0), (0, .ref (w 0)), (1, .int v1), (2, .int v2), (3, .int v3)]) hx hb dX6_tagged_11 hl (by decide) rfl (fun ls hl => ?_)
        obtain ⟨z14, hz14, hf⟩ := obd hf
        refine W13 4000 v1 v2 v3 0 H locs ls z14 hP hS (lv_sub hl [1, 2, 3, 4, 0] rfl) hz14 (fun H locs ls hP hS hl => ?_)
        obtain ⟨y15, ey15⟩ : ∃ y : Int32, y = v3 + 1 := ⟨_, rfl⟩
        replace hf := onm ey15 hf
        refine lv_iinc (v := y15) (lv' := [(3, .int y15), (0, .ref (w 0)), (1, .int v1), (2, .int z14)]) hx hb dX6_tagged_77 hl (k := 3) rfl (by rw [ey15]; rfl) (by decide) rfl (fun ls hl => ?_)
        refine lv_goto (tgt := 4) hx hb dX6_tagged_80 (by decide) ?_
        exact ih v1 z14 y15 H locs ls z hP hS (lv_sub hl [1, 2, 3, 0] rfl) hf K
  unfold f_X6_tagged at hf
  have go : ∀ (H : Heap) (locs : List Loc), va_P D vwCl [oX6 w w_undos w_seed w_entries, aJ cJ (w 1) 3420 w_w] H → va_S no s.heap H locs → W p l e { frames := 2, cells := 0, slots := 0, locals := 43 } s m args below meth c H locs 0 0 (MQ below (QrI zr) args s 0 0 no) (F0 m 0 ls []) := by
    intro H locs hP hS
    refine lv_iconst (v := 0) hx hb dX6_tagged_0 (by decide) ?_
    refine lv_istore_n (lv' := [(2, .int 0), (0, .ref (w 0)), (1, .int x1)]) hx hb dX6_tagged_1 rfl hl (by decide) rfl (fun ls hl => ?_)
    refine lv_iconst (v := 0) hx hb dX6_tagged_2 (by decide) ?_
    refine lv_istore_n (lv' := [(3, .int 0), (2, .int 0), (0, .ref (w 0)), (1, .int x1)]) hx hb dX6_tagged_3 rfl hl (by decide) rfl (fun ls hl => ?_)
    obtain ⟨z16, hz16, hf⟩ := obd hf
    refine W4 4000 x1 0 0 H locs ls z16 hP hS (lv_sub hl [2, 3, 1, 0] rfl) hz16 (fun H locs ls hP hS hl => ?_)
    refine lv_iload_n hx hb dX6_tagged_83 rfl (lv_at hl 0 rfl) ?_
    have er := Option.some.inj hf
    exact rtI hx hb hr hS dX6_tagged_84 er hlocks
  exact go s.heap [] hP hS
noncomputable def f_X6_tag (w_w : Nat → Int64) (x1 : Int32) (x2 : Int32) : Option (Int32) := (f_X6_in (Int32.toInt64 x1) 0 7).bind (fun z1 => if z1 = 0 then (some ((-1000000001))) else (if x2 = 0 then (if ib ((172 : Int32) + x1) 3420 = true then (some ((Int64.toInt32 (w_w ((172 : Int32) + x1).toNatClampNeg)))) else none) else (if x2 = 1 then ((f_X6_heft w_w (Int32.toInt64 x1)).bind (fun z7 => some ((Int64.toInt32 z7)))) else (if x2 = 2 then ((f_X6_tagged w_w x1).bind (fun z6 => some (z6))) else (some ((-1000000002)))))))
set_option maxHeartbeats 4000000 in
set_option maxRecDepth 100000 in
theorem c_X6_tag (l : Launch) (D : va_G) (cI cJ cZ cQ : ClassId) (bs sz : Nat) (w : Nat → Nat) (w_undos : Int32) (w_seed : Int32) (w_entries : Int32) (w_w : Nat → Int64) (x1 : Int32) (x2 : Int32) (zr : Int32) (hf : f_X6_tag w_w x1 x2 = some zr) : Met l yX6_tag wsX6_tag { frames := 3, cells := 0, slots := 0, locals := 67 } (va_Pc [.ref (w 0), .int x1, .int x2] (Pr D cI cJ cZ cQ bs sz [oX6 w w_undos w_seed w_entries, aJ cJ (w 1) 3420 w_w])) (QrI zr) 0 0 no := by
  refine stM (cc := cX6_tag) (maxL := 3) (ret := (some .int)) (by decide +kernel) rfl (Nat.le_of_ble_eq_true rfl) ?_
  intro p e s m args below meth c C0 hr hlocks hname hsz hP hDb hE ls hl
  have hAb : ∀ q, no q → bs ≤ q := fun _ h => h.elim
  obtain ⟨hx, hb, hml, hown, hts⟩ := id C0
  have hown : s.vm.findClass RX6 = some m.cls := hown
  obtain ⟨hK, hNW, -, tw, hZ, hT⟩ := id hE
  have hl : lv_has ls 3 [(0, .ref (w 0)), (1, .int x1), (2, .int x2)] := hl
  have hS : va_S no s.heap s.heap [] := va_S.rf
  have gk207 := hts (.constantLong RX6 207 (7)) (by decide +kernel)
  have gk192 := hts (.constant RX6 192 (-1000000002)) (by decide +kernel)
  have hI_X6 := (show ∀ w ∈ wsX60, w ∈ wsX6_tag by decide +kernel)
  have gf7 := hts (.fieldLink RX6 7 "RowRanksModel" "w" "[J") (by decide +kernel)
  have gk198 := hts (.constant RX6 198 (-1000000001)) (by decide +kernel)
  unfold f_X6_tag at hf
  have go : ∀ (H : Heap) (locs : List Loc), va_P D vwCl [oX6 w w_undos w_seed w_entries, aJ cJ (w 1) 3420 w_w] H → va_S no s.heap H locs → W p l e { frames := 3, cells := 0, slots := 0, locals := 67 } s m args below meth c H locs 0 0 (MQ below (QrI zr) args s 0 0 no) (F0 m 0 ls []) := by
    intro H locs hP hS
    refine lv_iload_n hx hb dX6_tag_0 rfl (lv_at hl 1 rfl) ?_
    refine lv_i2l (v := (Int32.toInt64 x1)) hx hb dX6_tag_1 rfl ?_
    refine lv_lconst (v := 0) hx hb dX6_tag_2 (by decide) ?_
    refine lv_ldc2 hx hb hown gk207 dX6_tag_3 ?_
    obtain ⟨z1, hz1, hf⟩ := obd hf
    refine kZ (runS (As := [.long (Int32.toInt64 x1), .long 0, .long 7]) (rest := []) C0 hE hAb hP (hDb.addr rfl) hS [] (wc := []) (by decide) rfl (c_X6_in l D cI cJ cZ cQ bs H.size (Int32.toInt64 x1) 0 7 z1 hz1) (va_cwS 3 hts gX6_tag_X6_in rfl rfl rfl (by decide +kernel) ⟨Nat.le_of_ble_eq_true rfl, Nat.le_of_ble_eq_true rfl⟩) rfl hl.1 rfl (Nat.le_of_ble_eq_true rfl) dX6_tag_6 ⟨Nat.le_of_ble_eq_true rfl, Nat.le_of_ble_eq_true rfl⟩) hS hP (fun bz1 H locs hP hS => ?_)
    refine lv_if_ne (tgt := 15) hx hb dX6_tag_9 (by decide) (fun c2 => ?_) (fun c2 => ?_)
    · replace hf := oel c2 hf
      refine lv_iload_n hx hb dX6_tag_15 rfl (lv_at hl 2 rfl) ?_
      refine lv_if_ne (tgt := 33) hx hb dX6_tag_16 (by decide) (fun c3 => ?_) (fun c3 => ?_)
      · replace hf := oel c3 hf
        refine lv_iload_n hx hb dX6_tag_33 rfl (lv_at hl 2 rfl) ?_
        refine lv_iconst (v := 1) hx hb dX6_tag_34 (by decide) ?_
        refine lv_icmp_ne (tgt := 48) hx hb dX6_tag_35 (by decide) (fun c4 => ?_) (fun c4 => ?_)
        · replace hf := oel c4 hf
          refine lv_iload_n hx hb dX6_tag_48 rfl (lv_at hl 2 rfl) ?_
          refine lv_iconst (v := 2) hx hb dX6_tag_49 (by decide) ?_
          refine lv_icmp_ne (tgt := 61) hx hb dX6_tag_50 (by decide) (fun c5 => ?_) (fun c5 => ?_)
          · replace hf := oel c5 hf
            refine lv_ldc hx hb hown gk192 dX6_tag_61 ?_
            have er := Option.some.inj hf
            exact rtI hx hb hr hS dX6_tag_63 er hlocks
          · replace hf := oif c5 hf
            refine lv_aload_n hx hb dX6_tag_53 rfl (lv_at hl 0 rfl) ?_
            refine lv_iload_n hx hb dX6_tag_54 rfl (lv_at hl 1 rfl) ?_
            obtain ⟨z6, hz6, hf⟩ := obd hf
            refine kI (runV (As := [.int x1]) (rest := []) C0 hE hAb hP (hDb.addr rfl) hS [0, 1] (wc := [oX6 w w_undos w_seed w_entries, aJ cJ (w 1) 3420 w_w]) (by decide) rfl 0 rfl rfl (c_X6_tagged l D cI cJ cZ cQ bs H.size w w_undos w_seed w_entries w_w x1 z6 hz6) (cwV 1 hts gX6_tag_X6_tagged rfl rfl rfl (by decide +kernel) ⟨Nat.le_of_ble_eq_true rfl, Nat.le_of_ble_eq_true rfl⟩) rfl hl.1 rfl (Nat.le_of_ble_eq_true rfl) dX6_tag_55 ⟨Nat.le_of_ble_eq_true rfl, Nat.le_of_ble_eq_true rfl⟩) hS hP (fun H locs hP hS => ?_)
            refine lv_goto (tgt := 63) hx hb dX6_tag_58 (by decide) ?_
            have er := Option.some.inj hf
            exact rtI hx hb hr hS dX6_tag_63 er hlocks
        · replace hf := oif c4 hf
          refine lv_aload_n hx hb dX6_tag_38 rfl (lv_at hl 0 rfl) ?_
          refine lv_iload_n hx hb dX6_tag_39 rfl (lv_at hl 1 rfl) ?_
          refine lv_i2l (v := (Int32.toInt64 x1)) hx hb dX6_tag_40 rfl ?_
          obtain ⟨z7, hz7, hf⟩ := obd hf
          refine kJ (runV (As := [.long (Int32.toInt64 x1)]) (rest := []) C0 hE hAb hP (hDb.addr rfl) hS [0, 1] (wc := [oX6 w w_undos w_seed w_entries, aJ cJ (w 1) 3420 w_w]) (by decide) rfl 0 rfl rfl (c_X6_heft l D cI cJ cZ cQ bs H.size w w_undos w_seed w_entries w_w (Int32.toInt64 x1) z7 hz7) (cwV 1 hts gX6_tag_X6_heft rfl rfl rfl (by decide +kernel) ⟨Nat.le_of_ble_eq_true rfl, Nat.le_of_ble_eq_true rfl⟩) rfl hl.1 rfl (Nat.le_of_ble_eq_true rfl) dX6_tag_41 ⟨Nat.le_of_ble_eq_true rfl, Nat.le_of_ble_eq_true rfl⟩) hS hP (fun H locs hP hS => ?_)
          refine lv_l2i (v := (Int64.toInt32 z7)) hx hb dX6_tag_44 rfl ?_
          refine lv_goto (tgt := 63) hx hb dX6_tag_45 (by decide) ?_
          have er := Option.some.inj hf
          exact rtI hx hb hr hS dX6_tag_63 er hlocks
      · replace hf := oif c3 hf
        refine lv_aload_n hx hb dX6_tag_19 rfl (lv_at hl 0 rfl) ?_
        refine va_get (D := D) (ci := 6) (v := .ref (w 1)) (C := RX6) (T := TX6) (N := 12) hx hb hts hI_X6 hown hK hP 0 rfl rfl 0 (by decide) gf7 (fun _ h9 => h9) rfl dX6_tag_20 ?_
        refine lv_sipush (v := 172) hx hb dX6_tag_23 (by decide) ?_
        refine lv_iload_n hx hb dX6_tag_26 rfl (lv_at hl 1 rfl) ?_
        refine lv_iadd hx hb dX6_tag_27 ?_
        obtain ⟨h8, hf⟩ := ogd hf
        refine va_lald hx hb hK hP 1 1 rfl rfl (ib_in h8) dX6_tag_28 ?_
        refine lv_l2i (v := (Int64.toInt32 (w_w ((172 : Int32) + x1).toNatClampNeg))) hx hb dX6_tag_29 rfl ?_
        refine lv_goto (tgt := 63) hx hb dX6_tag_30 (by decide) ?_
        have er := Option.some.inj hf
        exact rtI hx hb hr hS dX6_tag_63 er hlocks
    · replace hf := oif c2 hf
      refine lv_ldc hx hb hown gk198 dX6_tag_12 ?_
      have er := Option.some.inj hf
      exact rtI hx hb hr hS dX6_tag_14 er hlocks
  exact go s.heap [] hP hS
noncomputable def f_X6_keyAt (w_w : Nat → Int64) (x1 : Int32) (x2 : Int32) : Option (Int32) := (f_X6_keys w_w).bind (fun z1 => (f_X6_in (Int32.toInt64 x1) 0 (Int32.toInt64 (z1 - (1 : Int32)))).bind (fun z2 => if z2 = 0 then (some ((-1000000001))) else ((f_X6_in (Int32.toInt64 x2) 0 2).bind (fun z4 => if z4 = 0 then (some ((-1000000002))) else (if ib (((157 : Int32) + ((3 : Int32) * x1)) + x2) 3420 = true then (some ((Int64.toInt32 (w_w (((157 : Int32) + ((3 : Int32) * x1)) + x2).toNatClampNeg)))) else none)))))
set_option maxHeartbeats 4000000 in
set_option maxRecDepth 100000 in
theorem c_X6_keyAt (l : Launch) (D : va_G) (cI cJ cZ cQ : ClassId) (bs sz : Nat) (w : Nat → Nat) (w_undos : Int32) (w_seed : Int32) (w_entries : Int32) (w_w : Nat → Int64) (x1 : Int32) (x2 : Int32) (zr : Int32) (hf : f_X6_keyAt w_w x1 x2 = some zr) : Met l yX6_keyAt wsX6_keyAt { frames := 1, cells := 0, slots := 0, locals := 25 } (va_Pc [.ref (w 0), .int x1, .int x2] (Pr D cI cJ cZ cQ bs sz [oX6 w w_undos w_seed w_entries, aJ cJ (w 1) 3420 w_w])) (QrI zr) 0 0 no := by
  refine stM (cc := cX6_keyAt) (maxL := 3) (ret := (some .int)) (by decide +kernel) rfl (Nat.le_of_ble_eq_true rfl) ?_
  intro p e s m args below meth c C0 hr hlocks hname hsz hP hDb hE ls hl
  have hAb : ∀ q, no q → bs ≤ q := fun _ h => h.elim
  obtain ⟨hx, hb, hml, hown, hts⟩ := id C0
  have hown : s.vm.findClass RX6 = some m.cls := hown
  obtain ⟨hK, hNW, -, tw, hZ, hT⟩ := id hE
  have hl : lv_has ls 3 [(0, .ref (w 0)), (1, .int x1), (2, .int x2)] := hl
  have hS : va_S no s.heap s.heap [] := va_S.rf
  have gk51 := hts (.constantLong RX6 51 (2)) (by decide +kernel)
  have gk192 := hts (.constant RX6 192 (-1000000002)) (by decide +kernel)
  have hI_X6 := (show ∀ w ∈ wsX60, w ∈ wsX6_keyAt by decide +kernel)
  have gf7 := hts (.fieldLink RX6 7 "RowRanksModel" "w" "[J") (by decide +kernel)
  have gk198 := hts (.constant RX6 198 (-1000000001)) (by decide +kernel)
  unfold f_X6_keyAt at hf
  have go : ∀ (H : Heap) (locs : List Loc), va_P D vwCl [oX6 w w_undos w_seed w_entries, aJ cJ (w 1) 3420 w_w] H → va_S no s.heap H locs → W p l e { frames := 1, cells := 0, slots := 0, locals := 25 } s m args below meth c H locs 0 0 (MQ below (QrI zr) args s 0 0 no) (F0 m 0 ls []) := by
    intro H locs hP hS
    refine lv_iload_n hx hb dX6_keyAt_0 rfl (lv_at hl 1 rfl) ?_
    refine lv_i2l (v := (Int32.toInt64 x1)) hx hb dX6_keyAt_1 rfl ?_
    refine lv_lconst (v := 0) hx hb dX6_keyAt_2 (by decide) ?_
    refine lv_aload_n hx hb dX6_keyAt_3 rfl (lv_at hl 0 rfl) ?_
    obtain ⟨z1, hz1, hf⟩ := obd hf
    refine kI (runV (As := []) (rest := [.long 0, .long (Int32.toInt64 x1)]) C0 hE hAb hP (hDb.addr rfl) hS [0, 1] (wc := [oX6 w w_undos w_seed w_entries, aJ cJ (w 1) 3420 w_w]) (by decide) rfl 0 rfl rfl (c_X6_keys l D cI cJ cZ cQ bs H.size w w_undos w_seed w_entries w_w z1 hz1) (cwV 0 hts gX6_keyAt_X6_keys rfl rfl rfl (by decide +kernel) ⟨Nat.le_of_ble_eq_true rfl, Nat.le_of_ble_eq_true rfl⟩) rfl hl.1 rfl (Nat.le_of_ble_eq_true rfl) dX6_keyAt_4 ⟨Nat.le_of_ble_eq_true rfl, Nat.le_of_ble_eq_true rfl⟩) hS hP (fun H locs hP hS => ?_)
    refine lv_iconst (v := 1) hx hb dX6_keyAt_7 (by decide) ?_
    refine lv_isub hx hb dX6_keyAt_8 ?_
    refine lv_i2l (v := (Int32.toInt64 (z1 - (1 : Int32)))) hx hb dX6_keyAt_9 rfl ?_
    obtain ⟨z2, hz2, hf⟩ := obd hf
    refine kZ (runS (As := [.long (Int32.toInt64 x1), .long 0, .long (Int32.toInt64 (z1 - (1 : Int32)))]) (rest := []) C0 hE hAb hP (hDb.addr rfl) hS [] (wc := []) (by decide) rfl (c_X6_in l D cI cJ cZ cQ bs H.size (Int32.toInt64 x1) 0 (Int32.toInt64 (z1 - (1 : Int32))) z2 hz2) (va_cwS 3 hts gX6_keyAt_X6_in rfl rfl rfl (by decide +kernel) ⟨Nat.le_of_ble_eq_true rfl, Nat.le_of_ble_eq_true rfl⟩) rfl hl.1 rfl (Nat.le_of_ble_eq_true rfl) dX6_keyAt_10 ⟨Nat.le_of_ble_eq_true rfl, Nat.le_of_ble_eq_true rfl⟩) hS hP (fun bz2 H locs hP hS => ?_)
    refine lv_if_ne (tgt := 19) hx hb dX6_keyAt_13 (by decide) (fun c3 => ?_) (fun c3 => ?_)
    · replace hf := oel c3 hf
      refine lv_iload_n hx hb dX6_keyAt_19 rfl (lv_at hl 2 rfl) ?_
      refine lv_i2l (v := (Int32.toInt64 x2)) hx hb dX6_keyAt_20 rfl ?_
      refine lv_lconst (v := 0) hx hb dX6_keyAt_21 (by decide) ?_
      refine lv_ldc2 hx hb hown gk51 dX6_keyAt_22 ?_
      obtain ⟨z4, hz4, hf⟩ := obd hf
      refine kZ (runS (As := [.long (Int32.toInt64 x2), .long 0, .long 2]) (rest := []) C0 hE hAb hP (hDb.addr rfl) hS [] (wc := []) (by decide) rfl (c_X6_in l D cI cJ cZ cQ bs H.size (Int32.toInt64 x2) 0 2 z4 hz4) (va_cwS 3 hts gX6_keyAt_X6_in rfl rfl rfl (by decide +kernel) ⟨Nat.le_of_ble_eq_true rfl, Nat.le_of_ble_eq_true rfl⟩) rfl hl.1 rfl (Nat.le_of_ble_eq_true rfl) dX6_keyAt_25 ⟨Nat.le_of_ble_eq_true rfl, Nat.le_of_ble_eq_true rfl⟩) hS hP (fun bz4 H locs hP hS => ?_)
      refine lv_if_eq (tgt := 49) hx hb dX6_keyAt_28 (by decide) (fun c5 => ?_) (fun c5 => ?_)
      · replace hf := oif c5 hf
        refine lv_ldc hx hb hown gk192 dX6_keyAt_49 ?_
        have er := Option.some.inj hf
        exact rtI hx hb hr hS dX6_keyAt_51 er hlocks
      · replace hf := oel c5 hf
        refine lv_aload_n hx hb dX6_keyAt_31 rfl (lv_at hl 0 rfl) ?_
        refine va_get (D := D) (ci := 6) (v := .ref (w 1)) (C := RX6) (T := TX6) (N := 12) hx hb hts hI_X6 hown hK hP 0 rfl rfl 0 (by decide) gf7 (fun _ h9 => h9) rfl dX6_keyAt_32 ?_
        refine lv_sipush (v := 157) hx hb dX6_keyAt_35 (by decide) ?_
        refine lv_iconst (v := 3) hx hb dX6_keyAt_38 (by decide) ?_
        refine lv_iload_n hx hb dX6_keyAt_39 rfl (lv_at hl 1 rfl) ?_
        refine lv_imul hx hb dX6_keyAt_40 ?_
        refine lv_iadd hx hb dX6_keyAt_41 ?_
        refine lv_iload_n hx hb dX6_keyAt_42 rfl (lv_at hl 2 rfl) ?_
        refine lv_iadd hx hb dX6_keyAt_43 ?_
        obtain ⟨h6, hf⟩ := ogd hf
        refine va_lald hx hb hK hP 1 1 rfl rfl (ib_in h6) dX6_keyAt_44 ?_
        refine lv_l2i (v := (Int64.toInt32 (w_w (((157 : Int32) + ((3 : Int32) * x1)) + x2).toNatClampNeg))) hx hb dX6_keyAt_45 rfl ?_
        refine lv_goto (tgt := 51) hx hb dX6_keyAt_46 (by decide) ?_
        have er := Option.some.inj hf
        exact rtI hx hb hr hS dX6_keyAt_51 er hlocks
    · replace hf := oif c3 hf
      refine lv_ldc hx hb hown gk198 dX6_keyAt_16 ?_
      have er := Option.some.inj hf
      exact rtI hx hb hr hS dX6_keyAt_18 er hlocks
  exact go s.heap [] hP hS
noncomputable def L_X6_lessThan_5 (w_w : Nat → Int64) (v1 : Int32) (v2 : Int32) : Nat → Int32 → Int32 → Option (Int32)
  | 0, _, _ => none
  | n + 1, v3, v4 => if v2 ≤ v4 then (some (v3)) else ((f_X6_isLess w_w v4 v1).bind (fun z2 => if z2 = 0 then ((some (v4 + 1 : Int32)).bind (fun y4 => L_X6_lessThan_5 w_w v1 v2 n (v3 + (0 : Int32)) y4)) else ((some (v4 + 1 : Int32)).bind (fun y5 => L_X6_lessThan_5 w_w v1 v2 n (v3 + (1 : Int32)) y5))))
noncomputable def f_X6_lessThan (w_w : Nat → Int64) (x1 : Int32) (x2 : Int32) : Option (Int32) := (L_X6_lessThan_5 w_w x1 x2 4000 0 0).bind (fun z6 => some (z6))
set_option maxHeartbeats 4000000 in
set_option maxRecDepth 100000 in
theorem c_X6_lessThan (l : Launch) (D : va_G) (cI cJ cZ cQ : ClassId) (bs sz : Nat) (w : Nat → Nat) (w_undos : Int32) (w_seed : Int32) (w_entries : Int32) (w_w : Nat → Int64) (x1 : Int32) (x2 : Int32) (zr : Int32) (hf : f_X6_lessThan w_w x1 x2 = some zr) : Met l yX6_lessThan wsX6_lessThan { frames := 6, cells := 0, slots := 0, locals := 152 } (va_Pc [.ref (w 0), .int x1, .int x2] (Pr D cI cJ cZ cQ bs sz [oX6 w w_undos w_seed w_entries, aJ cJ (w 1) 3420 w_w])) (QrI zr) 0 0 no := by
  refine stM (cc := cX6_lessThan) (maxL := 5) (ret := (some .int)) (by decide +kernel) rfl (Nat.le_of_ble_eq_true rfl) ?_
  intro p e s m args below meth c C0 hr hlocks hname hsz hP hDb hE ls hl
  have hAb : ∀ q, no q → bs ≤ q := fun _ h => h.elim
  obtain ⟨hx, hb, hml, hown, hts⟩ := id C0
  have hown : s.vm.findClass RX6 = some m.cls := hown
  obtain ⟨hK, hNW, -, tw, hZ, hT⟩ := id hE
  have hl : lv_has ls 5 [(0, .ref (w 0)), (1, .int x1), (2, .int x2)] := hl
  have hS : va_S no s.heap s.heap [] := va_S.rf
  have W5 : ∀ (n : Nat) (v1 : Int32) (v2 : Int32) (v3 : Int32) (v4 : Int32) (H : Heap) (locs : List Loc) (ls : Array Slot) (z : Int32), va_P D vwCl [oX6 w w_undos w_seed w_entries, aJ cJ (w 1) 3420 w_w] H → va_S no s.heap H locs → lv_has ls 5 [(0, .ref (w 0)), (1, .int v1), (2, .int v2), (3, .int v3), (4, .int v4)] → L_X6_lessThan_5 w_w v1 v2 n v3 v4 = some z → (∀ (H : Heap) (locs : List Loc) (ls : Array Slot), va_P D vwCl [oX6 w w_undos w_seed w_entries, aJ cJ (w 1) 3420 w_w] H → va_S no s.heap H locs → lv_has ls 5 [(3, .int z)] → W p l e { frames := 6, cells := 0, slots := 0, locals := 152 } s m args below meth c H locs 0 0 (MQ below (QrI zr) args s 0 0 no) (F0 m 35 ls [])) → W p l e { frames := 6, cells := 0, slots := 0, locals := 152 } s m args below meth c H locs 0 0 (MQ below (QrI zr) args s 0 0 no) (F0 m 5 ls []) := by
    intro n
    induction n with
    | zero =>
      intro v1 v2 v3 v4 H locs ls z hP hS hl hf
      exact absurd (show (none : Option (Int32)) = some z from hf) (fun h => by cases h)
    | succ n ih =>
      intro v1 v2 v3 v4 H locs ls z hP hS hl hf K
      rw [L_X6_lessThan_5] at hf
      refine lv_iload hx hb dX6_lessThan_5 (lv_at hl 4 rfl) ?_
      refine lv_iload_n hx hb dX6_lessThan_7 rfl (lv_at hl 2 rfl) ?_
      refine lv_icmp_ge (tgt := 35) hx hb dX6_lessThan_8 (by decide) (fun c1 => ?_) (fun c1 => ?_)
      · replace hf := oif c1 hf
        have hf := Option.some.inj hf
        subst hf
        exact K H locs ls hP hS (lv_sub hl [3] rfl)
      · replace hf := oel c1 hf
        refine lv_iload_n hx hb dX6_lessThan_11 rfl (lv_at hl 3 rfl) ?_
        refine lv_aload_n hx hb dX6_lessThan_12 rfl (lv_at hl 0 rfl) ?_
        refine lv_iload hx hb dX6_lessThan_13 (lv_at hl 4 rfl) ?_
        refine lv_iload_n hx hb dX6_lessThan_15 rfl (lv_at hl 1 rfl) ?_
        obtain ⟨z2, hz2, hf⟩ := obd hf
        refine kZ (runV (As := [.int v4, .int v1]) (rest := [.int v3]) C0 hE hAb hP (hDb.addr rfl) hS [0, 1] (wc := [oX6 w w_undos w_seed w_entries, aJ cJ (w 1) 3420 w_w]) (by decide) rfl 0 rfl rfl (c_X6_isLess l D cI cJ cZ cQ bs H.size w w_undos w_seed w_entries w_w v4 v1 z2 hz2) (cwV 2 hts gX6_lessThan_X6_isLess rfl rfl rfl (by decide +kernel) ⟨Nat.le_of_ble_eq_true rfl, Nat.le_of_ble_eq_true rfl⟩) rfl hl.1 rfl (Nat.le_of_ble_eq_true rfl) dX6_lessThan_16 ⟨Nat.le_of_ble_eq_true rfl, Nat.le_of_ble_eq_true rfl⟩) hS hP (fun bz2 H locs hP hS => ?_)
        refine lv_if_eq (tgt := 26) hx hb dX6_lessThan_19 (by decide) (fun c3 => ?_) (fun c3 => ?_)
        · replace hf := oif c3 hf
          refine lv_iconst (v := 0) hx hb dX6_lessThan_26 (by decide) ?_
          refine lv_iadd hx hb dX6_lessThan_27 ?_
          refine lv_istore_n (lv' := [(3, .int (v3 + (0 : Int32))), (0, .ref (w 0)), (1, .int v1), (2, .int v2), (4, .int v4)]) hx hb dX6_lessThan_28 rfl hl (by decide) rfl (fun ls hl => ?_)
          obtain ⟨y4, ey4⟩ : ∃ y : Int32, y = v4 + 1 := ⟨_, rfl⟩
          replace hf := onm ey4 hf
          refine lv_iinc (v := y4) (lv' := [(4, .int y4), (3, .int (v3 + (0 : Int32))), (0, .ref (w 0)), (1, .int v1), (2, .int v2)]) hx hb dX6_lessThan_29 hl (k := 4) rfl (by rw [ey4]; rfl) (by decide) rfl (fun ls hl => ?_)
          refine lv_goto (tgt := 5) hx hb dX6_lessThan_32 (by decide) ?_
          exact ih v1 v2 (v3 + (0 : Int32)) y4 H locs ls z hP hS (lv_sub hl [2, 3, 4, 1, 0] rfl) hf K
        · replace hf := oel c3 hf
          refine lv_iconst (v := 1) hx hb dX6_lessThan_22 (by decide) ?_
          refine lv_goto (tgt := 27) hx hb dX6_lessThan_23 (by decide) ?_
          refine lv_iadd hx hb dX6_lessThan_27 ?_
          refine lv_istore_n (lv' := [(3, .int (v3 + (1 : Int32))), (0, .ref (w 0)), (1, .int v1), (2, .int v2), (4, .int v4)]) hx hb dX6_lessThan_28 rfl hl (by decide) rfl (fun ls hl => ?_)
          obtain ⟨y5, ey5⟩ : ∃ y : Int32, y = v4 + 1 := ⟨_, rfl⟩
          replace hf := onm ey5 hf
          refine lv_iinc (v := y5) (lv' := [(4, .int y5), (3, .int (v3 + (1 : Int32))), (0, .ref (w 0)), (1, .int v1), (2, .int v2)]) hx hb dX6_lessThan_29 hl (k := 4) rfl (by rw [ey5]; rfl) (by decide) rfl (fun ls hl => ?_)
          refine lv_goto (tgt := 5) hx hb dX6_lessThan_32 (by decide) ?_
          exact ih v1 v2 (v3 + (1 : Int32)) y5 H locs ls z hP hS (lv_sub hl [2, 3, 4, 1, 0] rfl) hf K
  unfold f_X6_lessThan at hf
  have go : ∀ (H : Heap) (locs : List Loc), va_P D vwCl [oX6 w w_undos w_seed w_entries, aJ cJ (w 1) 3420 w_w] H → va_S no s.heap H locs → W p l e { frames := 6, cells := 0, slots := 0, locals := 152 } s m args below meth c H locs 0 0 (MQ below (QrI zr) args s 0 0 no) (F0 m 0 ls []) := by
    intro H locs hP hS
    refine lv_iconst (v := 0) hx hb dX6_lessThan_0 (by decide) ?_
    refine lv_istore_n (lv' := [(3, .int 0), (0, .ref (w 0)), (1, .int x1), (2, .int x2)]) hx hb dX6_lessThan_1 rfl hl (by decide) rfl (fun ls hl => ?_)
    refine lv_iconst (v := 0) hx hb dX6_lessThan_2 (by decide) ?_
    refine lv_istore (lv' := [(4, .int 0), (3, .int 0), (0, .ref (w 0)), (1, .int x1), (2, .int x2)]) hx hb dX6_lessThan_3 hl (by decide) rfl (fun ls hl => ?_)
    obtain ⟨z6, hz6, hf⟩ := obd hf
    refine W5 4000 x1 x2 0 0 H locs ls z6 hP hS (lv_sub hl [2, 3, 4, 1, 0] rfl) hz6 (fun H locs ls hP hS hl => ?_)
    refine lv_iload_n hx hb dX6_lessThan_35 rfl (lv_at hl 0 rfl) ?_
    have er := Option.some.inj hf
    exact rtI hx hb hr hS dX6_lessThan_36 er hlocks
  exact go s.heap [] hP hS
noncomputable def L_X6_alikeTo_5 (w_w : Nat → Int64) (v1 : Int32) (v2 : Int32) : Nat → Int32 → Int32 → Option (Int32)
  | 0, _, _ => none
  | n + 1, v3, v4 => if v2 ≤ v4 then (some (v3)) else ((f_X6_by w_w 15 v4 v1).bind (fun z2 => if z2 = 0 then ((some (v4 + 1 : Int32)).bind (fun y5 => L_X6_alikeTo_5 w_w v1 v2 n (v3 + (1 : Int32)) y5)) else ((some (v4 + 1 : Int32)).bind (fun y4 => L_X6_alikeTo_5 w_w v1 v2 n (v3 + (0 : Int32)) y4))))
noncomputable def f_X6_alikeTo (w_w : Nat → Int64) (x1 : Int32) (x2 : Int32) : Option (Int32) := (L_X6_alikeTo_5 w_w x1 x2 4000 0 0).bind (fun z6 => some (z6))
set_option maxHeartbeats 4000000 in
set_option maxRecDepth 100000 in
theorem c_X6_alikeTo (l : Launch) (D : va_G) (cI cJ cZ cQ : ClassId) (bs sz : Nat) (w : Nat → Nat) (w_undos : Int32) (w_seed : Int32) (w_entries : Int32) (w_w : Nat → Int64) (x1 : Int32) (x2 : Int32) (zr : Int32) (hf : f_X6_alikeTo w_w x1 x2 = some zr) : Met l yX6_alikeTo wsX6_alikeTo { frames := 5, cells := 0, slots := 0, locals := 130 } (va_Pc [.ref (w 0), .int x1, .int x2] (Pr D cI cJ cZ cQ bs sz [oX6 w w_undos w_seed w_entries, aJ cJ (w 1) 3420 w_w])) (QrI zr) 0 0 no := by
  refine stM (cc := cX6_alikeTo) (maxL := 5) (ret := (some .int)) (by decide +kernel) rfl (Nat.le_of_ble_eq_true rfl) ?_
  intro p e s m args below meth c C0 hr hlocks hname hsz hP hDb hE ls hl
  have hAb : ∀ q, no q → bs ≤ q := fun _ h => h.elim
  obtain ⟨hx, hb, hml, hown, hts⟩ := id C0
  have hown : s.vm.findClass RX6 = some m.cls := hown
  obtain ⟨hK, hNW, -, tw, hZ, hT⟩ := id hE
  have hl : lv_has ls 5 [(0, .ref (w 0)), (1, .int x1), (2, .int x2)] := hl
  have hS : va_S no s.heap s.heap [] := va_S.rf
  have W5 : ∀ (n : Nat) (v1 : Int32) (v2 : Int32) (v3 : Int32) (v4 : Int32) (H : Heap) (locs : List Loc) (ls : Array Slot) (z : Int32), va_P D vwCl [oX6 w w_undos w_seed w_entries, aJ cJ (w 1) 3420 w_w] H → va_S no s.heap H locs → lv_has ls 5 [(0, .ref (w 0)), (1, .int v1), (2, .int v2), (3, .int v3), (4, .int v4)] → L_X6_alikeTo_5 w_w v1 v2 n v3 v4 = some z → (∀ (H : Heap) (locs : List Loc) (ls : Array Slot), va_P D vwCl [oX6 w w_undos w_seed w_entries, aJ cJ (w 1) 3420 w_w] H → va_S no s.heap H locs → lv_has ls 5 [(3, .int z)] → W p l e { frames := 5, cells := 0, slots := 0, locals := 130 } s m args below meth c H locs 0 0 (MQ below (QrI zr) args s 0 0 no) (F0 m 37 ls [])) → W p l e { frames := 5, cells := 0, slots := 0, locals := 130 } s m args below meth c H locs 0 0 (MQ below (QrI zr) args s 0 0 no) (F0 m 5 ls []) := by
    intro n
    induction n with
    | zero =>
      intro v1 v2 v3 v4 H locs ls z hP hS hl hf
      exact absurd (show (none : Option (Int32)) = some z from hf) (fun h => by cases h)
    | succ n ih =>
      intro v1 v2 v3 v4 H locs ls z hP hS hl hf K
      rw [L_X6_alikeTo_5] at hf
      refine lv_iload hx hb dX6_alikeTo_5 (lv_at hl 4 rfl) ?_
      refine lv_iload_n hx hb dX6_alikeTo_7 rfl (lv_at hl 2 rfl) ?_
      refine lv_icmp_ge (tgt := 37) hx hb dX6_alikeTo_8 (by decide) (fun c1 => ?_) (fun c1 => ?_)
      · replace hf := oif c1 hf
        have hf := Option.some.inj hf
        subst hf
        exact K H locs ls hP hS (lv_sub hl [3] rfl)
      · replace hf := oel c1 hf
        refine lv_iload_n hx hb dX6_alikeTo_11 rfl (lv_at hl 3 rfl) ?_
        refine lv_aload_n hx hb dX6_alikeTo_12 rfl (lv_at hl 0 rfl) ?_
        refine lv_bipush (v := 15) hx hb dX6_alikeTo_13 (by decide) ?_
        refine lv_iload hx hb dX6_alikeTo_15 (lv_at hl 4 rfl) ?_
        refine lv_iload_n hx hb dX6_alikeTo_17 rfl (lv_at hl 1 rfl) ?_
        obtain ⟨z2, hz2, hf⟩ := obd hf
        refine kI (runV (As := [.int 15, .int v4, .int v1]) (rest := [.int v3]) C0 hE hAb hP (hDb.addr rfl) hS [0, 1] (wc := [oX6 w w_undos w_seed w_entries, aJ cJ (w 1) 3420 w_w]) (by decide) rfl 0 rfl rfl (c_X6_by l D cI cJ cZ cQ bs H.size w w_undos w_seed w_entries w_w 15 v4 v1 z2 hz2) (cwV 3 hts gX6_alikeTo_X6_by rfl rfl rfl (by decide +kernel) ⟨Nat.le_of_ble_eq_true rfl, Nat.le_of_ble_eq_true rfl⟩) rfl hl.1 rfl (Nat.le_of_ble_eq_true rfl) dX6_alikeTo_18 ⟨Nat.le_of_ble_eq_true rfl, Nat.le_of_ble_eq_true rfl⟩) hS hP (fun H locs hP hS => ?_)
        refine lv_if_ne (tgt := 28) hx hb dX6_alikeTo_21 (by decide) (fun c3 => ?_) (fun c3 => ?_)
        · replace hf := oel c3 hf
          refine lv_iconst (v := 0) hx hb dX6_alikeTo_28 (by decide) ?_
          refine lv_iadd hx hb dX6_alikeTo_29 ?_
          refine lv_istore_n (lv' := [(3, .int (v3 + (0 : Int32))), (0, .ref (w 0)), (1, .int v1), (2, .int v2), (4, .int v4)]) hx hb dX6_alikeTo_30 rfl hl (by decide) rfl (fun ls hl => ?_)
          obtain ⟨y4, ey4⟩ : ∃ y : Int32, y = v4 + 1 := ⟨_, rfl⟩
          replace hf := onm ey4 hf
          refine lv_iinc (v := y4) (lv' := [(4, .int y4), (3, .int (v3 + (0 : Int32))), (0, .ref (w 0)), (1, .int v1), (2, .int v2)]) hx hb dX6_alikeTo_31 hl (k := 4) rfl (by rw [ey4]; rfl) (by decide) rfl (fun ls hl => ?_)
          refine lv_goto (tgt := 5) hx hb dX6_alikeTo_34 (by decide) ?_
          exact ih v1 v2 (v3 + (0 : Int32)) y4 H locs ls z hP hS (lv_sub hl [2, 3, 4, 1, 0] rfl) hf K
        · replace hf := oif c3 hf
          refine lv_iconst (v := 1) hx hb dX6_alikeTo_24 (by decide) ?_
          refine lv_goto (tgt := 29) hx hb dX6_alikeTo_25 (by decide) ?_
          refine lv_iadd hx hb dX6_alikeTo_29 ?_
          refine lv_istore_n (lv' := [(3, .int (v3 + (1 : Int32))), (0, .ref (w 0)), (1, .int v1), (2, .int v2), (4, .int v4)]) hx hb dX6_alikeTo_30 rfl hl (by decide) rfl (fun ls hl => ?_)
          obtain ⟨y5, ey5⟩ : ∃ y : Int32, y = v4 + 1 := ⟨_, rfl⟩
          replace hf := onm ey5 hf
          refine lv_iinc (v := y5) (lv' := [(4, .int y5), (3, .int (v3 + (1 : Int32))), (0, .ref (w 0)), (1, .int v1), (2, .int v2)]) hx hb dX6_alikeTo_31 hl (k := 4) rfl (by rw [ey5]; rfl) (by decide) rfl (fun ls hl => ?_)
          refine lv_goto (tgt := 5) hx hb dX6_alikeTo_34 (by decide) ?_
          exact ih v1 v2 (v3 + (1 : Int32)) y5 H locs ls z hP hS (lv_sub hl [2, 3, 4, 1, 0] rfl) hf K
  unfold f_X6_alikeTo at hf
  have go : ∀ (H : Heap) (locs : List Loc), va_P D vwCl [oX6 w w_undos w_seed w_entries, aJ cJ (w 1) 3420 w_w] H → va_S no s.heap H locs → W p l e { frames := 5, cells := 0, slots := 0, locals := 130 } s m args below meth c H locs 0 0 (MQ below (QrI zr) args s 0 0 no) (F0 m 0 ls []) := by
    intro H locs hP hS
    refine lv_iconst (v := 0) hx hb dX6_alikeTo_0 (by decide) ?_
    refine lv_istore_n (lv' := [(3, .int 0), (0, .ref (w 0)), (1, .int x1), (2, .int x2)]) hx hb dX6_alikeTo_1 rfl hl (by decide) rfl (fun ls hl => ?_)
    refine lv_iconst (v := 0) hx hb dX6_alikeTo_2 (by decide) ?_
    refine lv_istore (lv' := [(4, .int 0), (3, .int 0), (0, .ref (w 0)), (1, .int x1), (2, .int x2)]) hx hb dX6_alikeTo_3 hl (by decide) rfl (fun ls hl => ?_)
    obtain ⟨z6, hz6, hf⟩ := obd hf
    refine W5 4000 x1 x2 0 0 H locs ls z6 hP hS (lv_sub hl [2, 3, 4, 1, 0] rfl) hz6 (fun H locs ls hP hS hl => ?_)
    refine lv_iload_n hx hb dX6_alikeTo_37 rfl (lv_at hl 0 rfl) ?_
    have er := Option.some.inj hf
    exact rtI hx hb hr hS dX6_alikeTo_38 er hlocks
  exact go s.heap [] hP hS
noncomputable def L_X6_unlikeLess_23 (w_w : Nat → Int64) (v4 : Int32) : Nat → Int32 → Int32 → Option (Int32)
  | 0, _, _ => none
  | n + 1, v5, v6 => if v4 ≤ v6 then (some (v5)) else (if v5 = 0 then (some (v5)) else ((f_X6_by w_w 15 v6 v4).bind (fun z5 => if z5 = 0 then ((some (v6 + 1 : Int32)).bind (fun y7 => L_X6_unlikeLess_23 w_w v4 n 0 y7)) else ((some (v6 + 1 : Int32)).bind (fun y8 => L_X6_unlikeLess_23 w_w v4 n 1 y8)))))
noncomputable def L_X6_unlikeLess_5 (w_w : Nat → Int64) (v1 : Int32) (v2 : Int32) : Nat → Int32 → Int32 → Option (Int32)
  | 0, _, _ => none
  | n + 1, v3, v4 => if v2 ≤ v4 then (some (v3)) else ((f_X6_isLess w_w v4 v1).bind (fun z2 => (L_X6_unlikeLess_23 w_w v4 4000 z2 0).bind (fun z9 => if z9 = 0 then ((some (v4 + 1 : Int32)).bind (fun y11 => L_X6_unlikeLess_5 w_w v1 v2 n (v3 + (0 : Int32)) y11)) else ((some (v4 + 1 : Int32)).bind (fun y12 => L_X6_unlikeLess_5 w_w v1 v2 n (v3 + (1 : Int32)) y12)))))
noncomputable def f_X6_unlikeLess (w_w : Nat → Int64) (x1 : Int32) (x2 : Int32) : Option (Int32) := (L_X6_unlikeLess_5 w_w x1 x2 4000 0 0).bind (fun z13 => some (z13))
set_option maxHeartbeats 4000000 in
set_option maxRecDepth 100000 in
theorem c_X6_unlikeLess (l : Launch) (D : va_G) (cI cJ cZ cQ : ClassId) (bs sz : Nat) (w : Nat → Nat) (w_undos : Int32) (w_seed : Int32) (w_entries : Int32) (w_w : Nat → Int64) (x1 : Int32) (x2 : Int32) (zr : Int32) (hf : f_X6_unlikeLess w_w x1 x2 = some zr) : Met l yX6_unlikeLess wsX6_unlikeLess { frames := 6, cells := 0, slots := 0, locals := 152 } (va_Pc [.ref (w 0), .int x1, .int x2] (Pr D cI cJ cZ cQ bs sz [oX6 w w_undos w_seed w_entries, aJ cJ (w 1) 3420 w_w])) (QrI zr) 0 0 no := by
  refine stM (cc := cX6_unlikeLess) (maxL := 7) (ret := (some .int)) (by decide +kernel) rfl (Nat.le_of_ble_eq_true rfl) ?_
  intro p e s m args below meth c C0 hr hlocks hname hsz hP hDb hE ls hl
  have hAb : ∀ q, no q → bs ≤ q := fun _ h => h.elim
  obtain ⟨hx, hb, hml, hown, hts⟩ := id C0
  have hown : s.vm.findClass RX6 = some m.cls := hown
  obtain ⟨hK, hNW, -, tw, hZ, hT⟩ := id hE
  have hl : lv_has ls 7 [(0, .ref (w 0)), (1, .int x1), (2, .int x2)] := hl
  have hS : va_S no s.heap s.heap [] := va_S.rf
  have W23 : ∀ (n : Nat) (v1 : Int32) (v2 : Int32) (v3 : Int32) (v4 : Int32) (v5 : Int32) (v6 : Int32) (H : Heap) (locs : List Loc) (ls : Array Slot) (z : Int32), va_P D vwCl [oX6 w w_undos w_seed w_entries, aJ cJ (w 1) 3420 w_w] H → va_S no s.heap H locs → lv_has ls 7 [(0, .ref (w 0)), (1, .int v1), (2, .int v2), (3, .int v3), (4, .int v4), (5, .int v5), (6, .int v6)] → L_X6_unlikeLess_23 w_w v4 n v5 v6 = some z → (∀ (H : Heap) (locs : List Loc) (ls : Array Slot), va_P D vwCl [oX6 w w_undos w_seed w_entries, aJ cJ (w 1) 3420 w_w] H → va_S no s.heap H locs → lv_has ls 7 [(0, .ref (w 0)), (1, .int v1), (2, .int v2), (3, .int v3), (4, .int v4), (5, .int z)] → W p l e { frames := 6, cells := 0, slots := 0, locals := 152 } s m args below meth c H locs 0 0 (MQ below (QrI zr) args s 0 0 no) (F0 m 61 ls [])) → W p l e { frames := 6, cells := 0, slots := 0, locals := 152 } s m args below meth c H locs 0 0 (MQ below (QrI zr) args s 0 0 no) (F0 m 23 ls []) := by
    intro n
    induction n with
    | zero =>
      intro v1 v2 v3 v4 v5 v6 H locs ls z hP hS hl hf
      exact absurd (show (none : Option (Int32)) = some z from hf) (fun h => by cases h)
    | succ n ih =>
      intro v1 v2 v3 v4 v5 v6 H locs ls z hP hS hl hf K
      rw [L_X6_unlikeLess_23] at hf
      refine lv_iload hx hb dX6_unlikeLess_23 (lv_at hl 6 rfl) ?_
      refine lv_iload hx hb dX6_unlikeLess_25 (lv_at hl 4 rfl) ?_
      refine lv_icmp_ge (tgt := 61) hx hb dX6_unlikeLess_27 (by decide) (fun c3 => ?_) (fun c3 => ?_)
      · replace hf := oif c3 hf
        have hf := Option.some.inj hf
        subst hf
        exact K H locs ls hP hS (lv_sub hl [0, 1, 2, 3, 4, 5] rfl)
      · replace hf := oel c3 hf
        refine lv_iload hx hb dX6_unlikeLess_30 (lv_at hl 5 rfl) ?_
        refine lv_if_eq (tgt := 61) hx hb dX6_unlikeLess_32 (by decide) (fun c4 => ?_) (fun c4 => ?_)
        · replace hf := oif c4 hf
          have hf := Option.some.inj hf
          subst hf
          exact K H locs ls hP hS (lv_sub hl [0, 1, 2, 3, 4, 5] rfl)
        · replace hf := oel c4 hf
          refine lv_aload_n hx hb dX6_unlikeLess_35 rfl (lv_at hl 0 rfl) ?_
          refine lv_bipush (v := 15) hx hb dX6_unlikeLess_36 (by decide) ?_
          refine lv_iload hx hb dX6_unlikeLess_38 (lv_at hl 6 rfl) ?_
          refine lv_iload hx hb dX6_unlikeLess_40 (lv_at hl 4 rfl) ?_
          obtain ⟨z5, hz5, hf⟩ := obd hf
          refine kI (runV (As := [.int 15, .int v6, .int v4]) (rest := []) C0 hE hAb hP (hDb.addr rfl) hS [0, 1] (wc := [oX6 w w_undos w_seed w_entries, aJ cJ (w 1) 3420 w_w]) (by decide) rfl 0 rfl rfl (c_X6_by l D cI cJ cZ cQ bs H.size w w_undos w_seed w_entries w_w 15 v6 v4 z5 hz5) (cwV 3 hts gX6_unlikeLess_X6_by rfl rfl rfl (by decide +kernel) ⟨Nat.le_of_ble_eq_true rfl, Nat.le_of_ble_eq_true rfl⟩) rfl hl.1 rfl (Nat.le_of_ble_eq_true rfl) dX6_unlikeLess_42 ⟨Nat.le_of_ble_eq_true rfl, Nat.le_of_ble_eq_true rfl⟩) hS hP (fun H locs hP hS => ?_)
          refine lv_if_eq (tgt := 52) hx hb dX6_unlikeLess_45 (by decide) (fun c6 => ?_) (fun c6 => ?_)
          · replace hf := oif c6 hf
            refine lv_iconst (v := 0) hx hb dX6_unlikeLess_52 (by decide) ?_
            refine lv_istore (lv' := [(5, .int 0), (0, .ref (w 0)), (1, .int v1), (2, .int v2), (3, .int v3), (4, .int v4), (6, .int v6)]) hx hb dX6_unlikeLess_53 hl (by decide) rfl (fun ls hl => ?_)
            obtain ⟨y7, ey7⟩ : ∃ y : Int32, y = v6 + 1 := ⟨_, rfl⟩
            replace hf := onm ey7 hf
            refine lv_iinc (v := y7) (lv' := [(6, .int y7), (5, .int 0), (0, .ref (w 0)), (1, .int v1), (2, .int v2), (3, .int v3), (4, .int v4)]) hx hb dX6_unlikeLess_55 hl (k := 6) rfl (by rw [ey7]; rfl) (by decide) rfl (fun ls hl => ?_)
            refine lv_goto (tgt := 23) hx hb dX6_unlikeLess_58 (by decide) ?_
            exact ih v1 v2 v3 v4 0 y7 H locs ls z hP hS (lv_sub hl [2, 3, 4, 5, 6, 1, 0] rfl) hf K
          · replace hf := oel c6 hf
            refine lv_iconst (v := 1) hx hb dX6_unlikeLess_48 (by decide) ?_
            refine lv_goto (tgt := 53) hx hb dX6_unlikeLess_49 (by decide) ?_
            refine lv_istore (lv' := [(5, .int 1), (0, .ref (w 0)), (1, .int v1), (2, .int v2), (3, .int v3), (4, .int v4), (6, .int v6)]) hx hb dX6_unlikeLess_53 hl (by decide) rfl (fun ls hl => ?_)
            obtain ⟨y8, ey8⟩ : ∃ y : Int32, y = v6 + 1 := ⟨_, rfl⟩
            replace hf := onm ey8 hf
            refine lv_iinc (v := y8) (lv' := [(6, .int y8), (5, .int 1), (0, .ref (w 0)), (1, .int v1), (2, .int v2), (3, .int v3), (4, .int v4)]) hx hb dX6_unlikeLess_55 hl (k := 6) rfl (by rw [ey8]; rfl) (by decide) rfl (fun ls hl => ?_)
            refine lv_goto (tgt := 23) hx hb dX6_unlikeLess_58 (by decide) ?_
            exact ih v1 v2 v3 v4 1 y8 H locs ls z hP hS (lv_sub hl [2, 3, 4, 5, 6, 1, 0] rfl) hf K
  have W5 : ∀ (n : Nat) (v1 : Int32) (v2 : Int32) (v3 : Int32) (v4 : Int32) (H : Heap) (locs : List Loc) (ls : Array Slot) (z : Int32), va_P D vwCl [oX6 w w_undos w_seed w_entries, aJ cJ (w 1) 3420 w_w] H → va_S no s.heap H locs → lv_has ls 7 [(0, .ref (w 0)), (1, .int v1), (2, .int v2), (3, .int v3), (4, .int v4)] → L_X6_unlikeLess_5 w_w v1 v2 n v3 v4 = some z → (∀ (H : Heap) (locs : List Loc) (ls : Array Slot), va_P D vwCl [oX6 w w_undos w_seed w_entries, aJ cJ (w 1) 3420 w_w] H → va_S no s.heap H locs → lv_has ls 7 [(3, .int z)] → W p l e { frames := 6, cells := 0, slots := 0, locals := 152 } s m args below meth c H locs 0 0 (MQ below (QrI zr) args s 0 0 no) (F0 m 80 ls [])) → W p l e { frames := 6, cells := 0, slots := 0, locals := 152 } s m args below meth c H locs 0 0 (MQ below (QrI zr) args s 0 0 no) (F0 m 5 ls []) := by
    intro n
    induction n with
    | zero =>
      intro v1 v2 v3 v4 H locs ls z hP hS hl hf
      exact absurd (show (none : Option (Int32)) = some z from hf) (fun h => by cases h)
    | succ n ih =>
      intro v1 v2 v3 v4 H locs ls z hP hS hl hf K
      rw [L_X6_unlikeLess_5] at hf
      refine lv_iload hx hb dX6_unlikeLess_5 (lv_at hl 4 rfl) ?_
      refine lv_iload_n hx hb dX6_unlikeLess_7 rfl (lv_at hl 2 rfl) ?_
      refine lv_icmp_ge (tgt := 80) hx hb dX6_unlikeLess_8 (by decide) (fun c1 => ?_) (fun c1 => ?_)
      · replace hf := oif c1 hf
        have hf := Option.some.inj hf
        subst hf
        exact K H locs ls hP hS (lv_sub hl [3] rfl)
      · replace hf := oel c1 hf
        refine lv_aload_n hx hb dX6_unlikeLess_11 rfl (lv_at hl 0 rfl) ?_
        refine lv_iload hx hb dX6_unlikeLess_12 (lv_at hl 4 rfl) ?_
        refine lv_iload_n hx hb dX6_unlikeLess_14 rfl (lv_at hl 1 rfl) ?_
        obtain ⟨z2, hz2, hf⟩ := obd hf
        refine kZ (runV (As := [.int v4, .int v1]) (rest := []) C0 hE hAb hP (hDb.addr rfl) hS [0, 1] (wc := [oX6 w w_undos w_seed w_entries, aJ cJ (w 1) 3420 w_w]) (by decide) rfl 0 rfl rfl (c_X6_isLess l D cI cJ cZ cQ bs H.size w w_undos w_seed w_entries w_w v4 v1 z2 hz2) (cwV 2 hts gX6_unlikeLess_X6_isLess rfl rfl rfl (by decide +kernel) ⟨Nat.le_of_ble_eq_true rfl, Nat.le_of_ble_eq_true rfl⟩) rfl hl.1 rfl (Nat.le_of_ble_eq_true rfl) dX6_unlikeLess_15 ⟨Nat.le_of_ble_eq_true rfl, Nat.le_of_ble_eq_true rfl⟩) hS hP (fun bz2 H locs hP hS => ?_)
        refine lv_istore (lv' := [(5, .int z2), (0, .ref (w 0)), (1, .int v1), (2, .int v2), (3, .int v3), (4, .int v4)]) hx hb dX6_unlikeLess_18 hl (by decide) rfl (fun ls hl => ?_)
        refine lv_iconst (v := 0) hx hb dX6_unlikeLess_20 (by decide) ?_
        refine lv_istore (lv' := [(6, .int 0), (5, .int z2), (0, .ref (w 0)), (1, .int v1), (2, .int v2), (3, .int v3), (4, .int v4)]) hx hb dX6_unlikeLess_21 hl (by decide) rfl (fun ls hl => ?_)
        obtain ⟨z9, hz9, hf⟩ := obd hf
        refine W23 4000 v1 v2 v3 v4 z2 0 H locs ls z9 hP hS (lv_sub hl [2, 3, 4, 5, 6, 1, 0] rfl) hz9 (fun H locs ls hP hS hl => ?_)
        refine lv_iload_n hx hb dX6_unlikeLess_61 rfl (lv_at hl 3 rfl) ?_
        refine lv_iload hx hb dX6_unlikeLess_62 (lv_at hl 5 rfl) ?_
        refine lv_if_eq (tgt := 71) hx hb dX6_unlikeLess_64 (by decide) (fun c10 => ?_) (fun c10 => ?_)
        · replace hf := oif c10 hf
          refine lv_iconst (v := 0) hx hb dX6_unlikeLess_71 (by decide) ?_
          refine lv_iadd hx hb dX6_unlikeLess_72 ?_
          refine lv_istore_n (lv' := [(3, .int (v3 + (0 : Int32))), (0, .ref (w 0)), (1, .int v1), (2, .int v2), (4, .int v4), (5, .int z9)]) hx hb dX6_unlikeLess_73 rfl hl (by decide) rfl (fun ls hl => ?_)
          obtain ⟨y11, ey11⟩ : ∃ y : Int32, y = v4 + 1 := ⟨_, rfl⟩
          replace hf := onm ey11 hf
          refine lv_iinc (v := y11) (lv' := [(4, .int y11), (3, .int (v3 + (0 : Int32))), (0, .ref (w 0)), (1, .int v1), (2, .int v2), (5, .int z9)]) hx hb dX6_unlikeLess_74 hl (k := 4) rfl (by rw [ey11]; rfl) (by decide) rfl (fun ls hl => ?_)
          refine lv_goto (tgt := 5) hx hb dX6_unlikeLess_77 (by decide) ?_
          exact ih v1 v2 (v3 + (0 : Int32)) y11 H locs ls z hP hS (lv_sub hl [2, 3, 4, 1, 0] rfl) hf K
        · replace hf := oel c10 hf
          refine lv_iconst (v := 1) hx hb dX6_unlikeLess_67 (by decide) ?_
          refine lv_goto (tgt := 72) hx hb dX6_unlikeLess_68 (by decide) ?_
          refine lv_iadd hx hb dX6_unlikeLess_72 ?_
          refine lv_istore_n (lv' := [(3, .int (v3 + (1 : Int32))), (0, .ref (w 0)), (1, .int v1), (2, .int v2), (4, .int v4), (5, .int z9)]) hx hb dX6_unlikeLess_73 rfl hl (by decide) rfl (fun ls hl => ?_)
          obtain ⟨y12, ey12⟩ : ∃ y : Int32, y = v4 + 1 := ⟨_, rfl⟩
          replace hf := onm ey12 hf
          refine lv_iinc (v := y12) (lv' := [(4, .int y12), (3, .int (v3 + (1 : Int32))), (0, .ref (w 0)), (1, .int v1), (2, .int v2), (5, .int z9)]) hx hb dX6_unlikeLess_74 hl (k := 4) rfl (by rw [ey12]; rfl) (by decide) rfl (fun ls hl => ?_)
          refine lv_goto (tgt := 5) hx hb dX6_unlikeLess_77 (by decide) ?_
          exact ih v1 v2 (v3 + (1 : Int32)) y12 H locs ls z hP hS (lv_sub hl [2, 3, 4, 1, 0] rfl) hf K
  unfold f_X6_unlikeLess at hf
  have go : ∀ (H : Heap) (locs : List Loc), va_P D vwCl [oX6 w w_undos w_seed w_entries, aJ cJ (w 1) 3420 w_w] H → va_S no s.heap H locs → W p l e { frames := 6, cells := 0, slots := 0, locals := 152 } s m args below meth c H locs 0 0 (MQ below (QrI zr) args s 0 0 no) (F0 m 0 ls []) := by
    intro H locs hP hS
    refine lv_iconst (v := 0) hx hb dX6_unlikeLess_0 (by decide) ?_
    refine lv_istore_n (lv' := [(3, .int 0), (0, .ref (w 0)), (1, .int x1), (2, .int x2)]) hx hb dX6_unlikeLess_1 rfl hl (by decide) rfl (fun ls hl => ?_)
    refine lv_iconst (v := 0) hx hb dX6_unlikeLess_2 (by decide) ?_
    refine lv_istore (lv' := [(4, .int 0), (3, .int 0), (0, .ref (w 0)), (1, .int x1), (2, .int x2)]) hx hb dX6_unlikeLess_3 hl (by decide) rfl (fun ls hl => ?_)
    obtain ⟨z13, hz13, hf⟩ := obd hf
    refine W5 4000 x1 x2 0 0 H locs ls z13 hP hS (lv_sub hl [2, 3, 4, 1, 0] rfl) hz13 (fun H locs ls hP hS hl => ?_)
    refine lv_iload_n hx hb dX6_unlikeLess_80 rfl (lv_at hl 0 rfl) ?_
    have er := Option.some.inj hf
    exact rtI hx hb hr hS dX6_unlikeLess_81 er hlocks
  exact go s.heap [] hP hS
noncomputable def L_X6_placeAt_2 (w_w : Nat → Int64) (v1 : Int32) (v2 : Int32) : Nat → Int32 → Option (Int32)
  | 0, _ => none
  | n + 1, v3 => (f_X6_position w_w 15 v3 v2).bind (fun z1 => if z1 = v1 then (some (v3)) else ((some (v3 + 1 : Int32)).bind (fun y3 => L_X6_placeAt_2 w_w v1 v2 n y3)))
noncomputable def f_X6_placeAt (w_w : Nat → Int64) (x1 : Int32) (x2 : Int32) : Option (Int32) := (L_X6_placeAt_2 w_w x1 x2 4000 0).bind (fun z4 => some (z4))
set_option maxHeartbeats 4000000 in
set_option maxRecDepth 100000 in
theorem c_X6_placeAt (l : Launch) (D : va_G) (cI cJ cZ cQ : ClassId) (bs sz : Nat) (w : Nat → Nat) (w_undos : Int32) (w_seed : Int32) (w_entries : Int32) (w_w : Nat → Int64) (x1 : Int32) (x2 : Int32) (zr : Int32) (hf : f_X6_placeAt w_w x1 x2 = some zr) : Met l yX6_placeAt wsX6_placeAt { frames := 6, cells := 0, slots := 0, locals := 156 } (va_Pc [.ref (w 0), .int x1, .int x2] (Pr D cI cJ cZ cQ bs sz [oX6 w w_undos w_seed w_entries, aJ cJ (w 1) 3420 w_w])) (QrI zr) 0 0 no := by
  refine stM (cc := cX6_placeAt) (maxL := 4) (ret := (some .int)) (by decide +kernel) rfl (Nat.le_of_ble_eq_true rfl) ?_
  intro p e s m args below meth c C0 hr hlocks hname hsz hP hDb hE ls hl
  have hAb : ∀ q, no q → bs ≤ q := fun _ h => h.elim
  obtain ⟨hx, hb, hml, hown, hts⟩ := id C0
  have hown : s.vm.findClass RX6 = some m.cls := hown
  obtain ⟨hK, hNW, -, tw, hZ, hT⟩ := id hE
  have hl : lv_has ls 4 [(0, .ref (w 0)), (1, .int x1), (2, .int x2)] := hl
  have hS : va_S no s.heap s.heap [] := va_S.rf
  have W2 : ∀ (n : Nat) (v1 : Int32) (v2 : Int32) (v3 : Int32) (H : Heap) (locs : List Loc) (ls : Array Slot) (z : Int32), va_P D vwCl [oX6 w w_undos w_seed w_entries, aJ cJ (w 1) 3420 w_w] H → va_S no s.heap H locs → lv_has ls 4 [(0, .ref (w 0)), (1, .int v1), (2, .int v2), (3, .int v3)] → L_X6_placeAt_2 w_w v1 v2 n v3 = some z → (∀ (H : Heap) (locs : List Loc) (ls : Array Slot), va_P D vwCl [oX6 w w_undos w_seed w_entries, aJ cJ (w 1) 3420 w_w] H → va_S no s.heap H locs → lv_has ls 4 [(3, .int z)] → W p l e { frames := 6, cells := 0, slots := 0, locals := 156 } s m args below meth c H locs 0 0 (MQ below (QrI zr) args s 0 0 no) (F0 m 20 ls [])) → W p l e { frames := 6, cells := 0, slots := 0, locals := 156 } s m args below meth c H locs 0 0 (MQ below (QrI zr) args s 0 0 no) (F0 m 2 ls []) := by
    intro n
    induction n with
    | zero =>
      intro v1 v2 v3 H locs ls z hP hS hl hf
      exact absurd (show (none : Option (Int32)) = some z from hf) (fun h => by cases h)
    | succ n ih =>
      intro v1 v2 v3 H locs ls z hP hS hl hf K
      rw [L_X6_placeAt_2] at hf
      refine lv_aload_n hx hb dX6_placeAt_2 rfl (lv_at hl 0 rfl) ?_
      refine lv_bipush (v := 15) hx hb dX6_placeAt_3 (by decide) ?_
      refine lv_iload_n hx hb dX6_placeAt_5 rfl (lv_at hl 3 rfl) ?_
      refine lv_iload_n hx hb dX6_placeAt_6 rfl (lv_at hl 2 rfl) ?_
      obtain ⟨z1, hz1, hf⟩ := obd hf
      refine kI (runV (As := [.int 15, .int v3, .int v2]) (rest := []) C0 hE hAb hP (hDb.addr rfl) hS [0, 1] (wc := [oX6 w w_undos w_seed w_entries, aJ cJ (w 1) 3420 w_w]) (by decide) rfl 0 rfl rfl (c_X6_position l D cI cJ cZ cQ bs H.size w w_undos w_seed w_entries w_w 15 v3 v2 z1 hz1) (cwV 3 hts gX6_placeAt_X6_position rfl rfl rfl (by decide +kernel) ⟨Nat.le_of_ble_eq_true rfl, Nat.le_of_ble_eq_true rfl⟩) rfl hl.1 rfl (Nat.le_of_ble_eq_true rfl) dX6_placeAt_7 ⟨Nat.le_of_ble_eq_true rfl, Nat.le_of_ble_eq_true rfl⟩) hS hP (fun H locs hP hS => ?_)
      refine lv_iload_n hx hb dX6_placeAt_10 rfl (lv_at hl 1 rfl) ?_
      refine lv_icmp_eq (tgt := 20) hx hb dX6_placeAt_11 (by decide) (fun c2 => ?_) (fun c2 => ?_)
      · replace hf := oif c2 hf
        have hf := Option.some.inj hf
        subst hf
        exact K H locs ls hP hS (lv_sub hl [3] rfl)
      · replace hf := oel c2 hf
        obtain ⟨y3, ey3⟩ : ∃ y : Int32, y = v3 + 1 := ⟨_, rfl⟩
        replace hf := onm ey3 hf
        refine lv_iinc (v := y3) (lv' := [(3, .int y3), (0, .ref (w 0)), (1, .int v1), (2, .int v2)]) hx hb dX6_placeAt_14 hl (k := 3) rfl (by rw [ey3]; rfl) (by decide) rfl (fun ls hl => ?_)
        refine lv_goto (tgt := 2) hx hb dX6_placeAt_17 (by decide) ?_
        exact ih v1 v2 y3 H locs ls z hP hS (lv_sub hl [1, 2, 3, 0] rfl) hf K
  unfold f_X6_placeAt at hf
  have go : ∀ (H : Heap) (locs : List Loc), va_P D vwCl [oX6 w w_undos w_seed w_entries, aJ cJ (w 1) 3420 w_w] H → va_S no s.heap H locs → W p l e { frames := 6, cells := 0, slots := 0, locals := 156 } s m args below meth c H locs 0 0 (MQ below (QrI zr) args s 0 0 no) (F0 m 0 ls []) := by
    intro H locs hP hS
    refine lv_iconst (v := 0) hx hb dX6_placeAt_0 (by decide) ?_
    refine lv_istore_n (lv' := [(3, .int 0), (0, .ref (w 0)), (1, .int x1), (2, .int x2)]) hx hb dX6_placeAt_1 rfl hl (by decide) rfl (fun ls hl => ?_)
    obtain ⟨z4, hz4, hf⟩ := obd hf
    refine W2 4000 x1 x2 0 H locs ls z4 hP hS (lv_sub hl [1, 2, 3, 0] rfl) hz4 (fun H locs ls hP hS hl => ?_)
    refine lv_iload_n hx hb dX6_placeAt_20 rfl (lv_at hl 0 rfl) ?_
    have er := Option.some.inj hf
    exact rtI hx hb hr hS dX6_placeAt_21 er hlocks
  exact go s.heap [] hP hS
