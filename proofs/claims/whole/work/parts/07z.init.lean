noncomputable def L_X6_init_77  : Nat → Int32 → (Nat → Int64) → Option ((Nat → Int64))
  | 0, _, _ => none
  | n + 1, v1, w_w => if 6 ≤ v1 then (some (w_w)) else (if ib ((0 : Int32) + v1) 3420 = true then ((some (vp_updL w_w ((0 : Int32) + v1).toNatClampNeg 14 : Nat → Int64)).bind (fun h2a => (some (v1 + 1 : Int32)).bind (fun y3 => L_X6_init_77 n y3 h2a))) else none)
noncomputable def L_X6_init_113  : Nat → Int32 → (Nat → Int64) → Option ((Nat → Int64))
  | 0, _, _ => none
  | n + 1, v1, w_w => if 8 ≤ v1 then (some (w_w)) else (if ib ((172 : Int32) + v1) 3420 = true then ((some (vp_updL w_w ((172 : Int32) + v1).toNatClampNeg (Int32.toInt64 (v1 / (2 : Int32))) : Nat → Int64)).bind (fun h8a => (some (v1 + 1 : Int32)).bind (fun y9 => L_X6_init_113 n y9 h8a))) else none)
noncomputable def f_X6_init : Option ((Nat → Int64) × (Nat → Int32) × (Nat → Int32) × Int32 × Int32 × Int32 × (Nat → Int32) × (Nat → Int32) × (Nat → Int32) × (Nat → Int32) × (Nat → Int64) × (Nat → Int64)) := (L_X6_init_77 4000 0 (fun _ => 0)).bind (fun z4 => (some (vp_updL z4 (Int32.toNatClampNeg 170) 9 : Nat → Int64)).bind (fun h5a => (L_X6_init_113 4000 0 h5a).bind (fun z10 => some ((z10, (fun _ => 0), (fun _ => 0), 0, 0, 0, (fun _ => 0), (fun _ => 0), (fun _ => 0), (fun _ => 0), (fun _ => 0), (fun _ => 0))))))
set_option maxHeartbeats 4000000 in
set_option maxRecDepth 100000 in
theorem c_X6_init (l : Launch) (D : va_G) (cI cJ cZ cQ : ClassId) (bs sz : Nat) (h0 : Nat) (zr : (Nat → Int64) × (Nat → Int32) × (Nat → Int32) × Int32 × Int32 × Int32 × (Nat → Int32) × (Nat → Int32) × (Nat → Int32) × (Nat → Int32) × (Nat → Int64) × (Nat → Int64)) (hf : f_X6_init = some zr) : Met l yX6_init wsX6_init { frames := 1, cells := 9, slots := 3512, locals := 20 } (va_Pc [.ref h0] (Pr D cI cJ cZ cQ bs sz [(h0, .inr (6, [.null, .null, .null, .int 0, .int 0, .int 0, .null, .null, .null, .null, .null, .null]))])) (QnV D h0 zr (fun w u => [oX6 w u.2.2.2.1 u.2.2.2.2.1 u.2.2.2.2.2.1, aJ cJ (w 1) 3420 u.1, aI cI (w 2) 2 u.2.1, aI cZ (w 3) 2 u.2.2.1, aI cI (w 4) 20 u.2.2.2.2.2.2.1, aI cI (w 5) 20 u.2.2.2.2.2.2.2.1, aI cI (w 6) 12 u.2.2.2.2.2.2.2.2.1, aI cI (w 7) 12 u.2.2.2.2.2.2.2.2.2.1, aJ cJ (w 8) 12 u.2.2.2.2.2.2.2.2.2.2.1, aJ cJ (w 9) 12 u.2.2.2.2.2.2.2.2.2.2.2]) (va_A [(h0, .inr (6, [.null, .null, .null, .int 0, .int 0, .int 0, .null, .null, .null, .null, .null, .null]))] sz)) 9 3512 (va_A [(h0, .inr (6, [.null, .null, .null, .int 0, .int 0, .int 0, .null, .null, .null, .null, .null, .null]))] sz) := by
  refine stW (cc := cX6_init) (maxL := 2) (ret := none) (Qf := fun A => QnV D h0 zr (fun w u => [oX6 w u.2.2.2.1 u.2.2.2.2.1 u.2.2.2.2.2.1, aJ cJ (w 1) 3420 u.1, aI cI (w 2) 2 u.2.1, aI cZ (w 3) 2 u.2.2.1, aI cI (w 4) 20 u.2.2.2.2.2.2.1, aI cI (w 5) 20 u.2.2.2.2.2.2.2.1, aI cI (w 6) 12 u.2.2.2.2.2.2.2.2.1, aI cI (w 7) 12 u.2.2.2.2.2.2.2.2.2.1, aJ cJ (w 8) 12 u.2.2.2.2.2.2.2.2.2.2.1, aJ cJ (w 9) 12 u.2.2.2.2.2.2.2.2.2.2.2]) A) (by decide +kernel) rfl (Nat.le_of_ble_eq_true rfl) ?_
  intro p e s m args below meth c A C0 hr hlocks hin hsz hP hD hA hAb hE ls hl
  have hin : meth.name = "<init>" := hin
  obtain ⟨hx, hb, hml, hown, hts⟩ := id C0
  have hown : s.vm.findClass RX6 = some m.cls := hown
  obtain ⟨hK, hNW, -, tw, hZ, hT⟩ := id hE
  have hl : lv_has ls 2 [(0, .ref h0)] := hl
  have hS : va_S A s.heap s.heap [] := va_S.rf
  have hI_X6 := (show ∀ w ∈ wsX60, w ∈ wsX6_init by decide +kernel)
  have gl1 := hts (.methodLink RX6 1 objectInit) (by decide +kernel)
  have go2 := hts (.instanceMethod objectInit) (by decide +kernel)
  have go3 := hts (.code objectInit ⟨#[0xb1]⟩ 1 none) (by decide +kernel)
  have galong := hts (.arrayClass .long) (by decide +kernel)
  have gf7 := hts (.fieldLink RX6 7 "RowRanksModel" "w" "[J") (by decide +kernel)
  have gaint := hts (.arrayClass .int) (by decide +kernel)
  have gf13 := hts (.fieldLink RX6 13 "RowRanksModel" "imageSeed" "[I") (by decide +kernel)
  have gaboolean := hts (.arrayClass .boolean) (by decide +kernel)
  have gf17 := hts (.fieldLink RX6 17 "RowRanksModel" "isKept" "[Z") (by decide +kernel)
  have gf21 := hts (.fieldLink RX6 21 "RowRanksModel" "bookPlace" "[I") (by decide +kernel)
  have gf24 := hts (.fieldLink RX6 24 "RowRanksModel" "bookPosition" "[I") (by decide +kernel)
  have gf27 := hts (.fieldLink RX6 27 "RowRanksModel" "scratch" "[I") (by decide +kernel)
  have gf30 := hts (.fieldLink RX6 30 "RowRanksModel" "from" "[I") (by decide +kernel)
  have gf33 := hts (.fieldLink RX6 33 "RowRanksModel" "heldSort" "[J") (by decide +kernel)
  have gf36 := hts (.fieldLink RX6 36 "RowRanksModel" "heldNumber" "[J") (by decide +kernel)
  have gk39 := hts (.constantLong RX6 39 (14)) (by decide +kernel)
  have gk41 := hts (.constantLong RX6 41 (9)) (by decide +kernel)
  unfold f_X6_init at hf
  refine lv_aload_n hx hb dX6_init_0 rfl (lv_at hl 0 rfl) ?_
  refine W.objInit hx hb hown gl1 go2 go3 rfl (by rw [hml]; exact hl.1) rfl dX6_init_1 (Nat.le_of_ble_eq_true rfl) (Nat.le_of_ble_eq_true rfl) ?_
  refine W.eq (g2 := F0 m 4 ls []) rfl ?_
  refine lv_aload_n hx hb dX6_init_4 rfl (lv_at hl 0 rfl) ?_
  refine lv_sipush (v := 3420) hx hb dX6_init_5 (by decide) ?_
  refine nwJ hx hb galong hK hP hD hS hA (N := 3420) (by decide) (by decide) (Nat.le_of_ble_eq_true rfl) (Nat.le_of_ble_eq_true rfl) (Nat.le_of_ble_eq_true rfl) dX6_init_8 (fun q1 H hP hD hS => ?_)
  have hP : va_P D vwCl [(h0, .inr (6, [.null, .null, .null, .int 0, .int 0, .int 0, .null, .null, .null, .null, .null, .null])), aJ cJ q1 3420 (fun _ => 0)] H := hP
  have hD : va_D A [(h0, .inr (6, [.null, .null, .null, .int 0, .int 0, .int 0, .null, .null, .null, .null, .null, .null])), aJ cJ q1 3420 (fun _ => 0)] := hD
  refine va_putF (D := D) (ci := 6) (v := .ref q1) (ty := .array .long) (C := RX6) (T := TX6) (N := 12) hx hb hts hI_X6 tyX6 tyX6_ok nmX6 hown hK hP hD hS 0 rfl rfl 0 (by decide) gf7 (fun _ h9 => h9) rfl hin rfl (by decide +kernel) rfl rfl (Nat.le_of_ble_eq_true rfl) dX6_init_10 (fun H locs hP hD hS => ?_)
  have hP : va_P D vwCl [(h0, .inr (6, [.ref q1, .null, .null, .int 0, .int 0, .int 0, .null, .null, .null, .null, .null, .null])), aJ cJ q1 3420 (fun _ => 0)] H := hP
  have hD : va_D A [(h0, .inr (6, [.ref q1, .null, .null, .int 0, .int 0, .int 0, .null, .null, .null, .null, .null, .null])), aJ cJ q1 3420 (fun _ => 0)] := hD
  refine lv_aload_n hx hb dX6_init_13 rfl (lv_at hl 0 rfl) ?_
  refine lv_iconst (v := 2) hx hb dX6_init_14 (by decide) ?_
  refine nwI hx hb gaint hK hP hD hS hA (N := 2) (by decide) (by decide) (Nat.le_of_ble_eq_true rfl) (Nat.le_of_ble_eq_true rfl) (Nat.le_of_ble_eq_true rfl) dX6_init_15 (fun q2 H hP hD hS => ?_)
  have hP : va_P D vwCl [(h0, .inr (6, [.ref q1, .null, .null, .int 0, .int 0, .int 0, .null, .null, .null, .null, .null, .null])), aJ cJ q1 3420 (fun _ => 0), aI cI q2 2 (fun _ => 0)] H := hP
  have hD : va_D A [(h0, .inr (6, [.ref q1, .null, .null, .int 0, .int 0, .int 0, .null, .null, .null, .null, .null, .null])), aJ cJ q1 3420 (fun _ => 0), aI cI q2 2 (fun _ => 0)] := hD
  refine va_putF (D := D) (ci := 6) (v := .ref q2) (ty := .array .int) (C := RX6) (T := TX6) (N := 12) hx hb hts hI_X6 tyX6 tyX6_ok nmX6 hown hK hP hD hS 0 rfl rfl 1 (by decide) gf13 (fun _ h9 => h9) rfl hin rfl (by decide +kernel) rfl rfl (Nat.le_of_ble_eq_true rfl) dX6_init_17 (fun H locs hP hD hS => ?_)
  have hP : va_P D vwCl [(h0, .inr (6, [.ref q1, .ref q2, .null, .int 0, .int 0, .int 0, .null, .null, .null, .null, .null, .null])), aJ cJ q1 3420 (fun _ => 0), aI cI q2 2 (fun _ => 0)] H := hP
  have hD : va_D A [(h0, .inr (6, [.ref q1, .ref q2, .null, .int 0, .int 0, .int 0, .null, .null, .null, .null, .null, .null])), aJ cJ q1 3420 (fun _ => 0), aI cI q2 2 (fun _ => 0)] := hD
  refine lv_aload_n hx hb dX6_init_20 rfl (lv_at hl 0 rfl) ?_
  refine lv_iconst (v := 2) hx hb dX6_init_21 (by decide) ?_
  refine nwZ hx hb gaboolean hK hP hD hS hA (N := 2) (by decide) (by decide) (Nat.le_of_ble_eq_true rfl) (Nat.le_of_ble_eq_true rfl) (Nat.le_of_ble_eq_true rfl) dX6_init_22 (fun q3 H hP hD hS => ?_)
  have hP : va_P D vwCl [(h0, .inr (6, [.ref q1, .ref q2, .null, .int 0, .int 0, .int 0, .null, .null, .null, .null, .null, .null])), aJ cJ q1 3420 (fun _ => 0), aI cI q2 2 (fun _ => 0), aI cZ q3 2 (fun _ => 0)] H := hP
  have hD : va_D A [(h0, .inr (6, [.ref q1, .ref q2, .null, .int 0, .int 0, .int 0, .null, .null, .null, .null, .null, .null])), aJ cJ q1 3420 (fun _ => 0), aI cI q2 2 (fun _ => 0), aI cZ q3 2 (fun _ => 0)] := hD
  refine va_putF (D := D) (ci := 6) (v := .ref q3) (ty := .array .boolean) (C := RX6) (T := TX6) (N := 12) hx hb hts hI_X6 tyX6 tyX6_ok nmX6 hown hK hP hD hS 0 rfl rfl 2 (by decide) gf17 (fun _ h9 => h9) rfl hin rfl (by decide +kernel) rfl rfl (Nat.le_of_ble_eq_true rfl) dX6_init_24 (fun H locs hP hD hS => ?_)
  have hP : va_P D vwCl [(h0, .inr (6, [.ref q1, .ref q2, .ref q3, .int 0, .int 0, .int 0, .null, .null, .null, .null, .null, .null])), aJ cJ q1 3420 (fun _ => 0), aI cI q2 2 (fun _ => 0), aI cZ q3 2 (fun _ => 0)] H := hP
  have hD : va_D A [(h0, .inr (6, [.ref q1, .ref q2, .ref q3, .int 0, .int 0, .int 0, .null, .null, .null, .null, .null, .null])), aJ cJ q1 3420 (fun _ => 0), aI cI q2 2 (fun _ => 0), aI cZ q3 2 (fun _ => 0)] := hD
  refine lv_aload_n hx hb dX6_init_27 rfl (lv_at hl 0 rfl) ?_
  refine lv_bipush (v := 20) hx hb dX6_init_28 (by decide) ?_
  refine nwI hx hb gaint hK hP hD hS hA (N := 20) (by decide) (by decide) (Nat.le_of_ble_eq_true rfl) (Nat.le_of_ble_eq_true rfl) (Nat.le_of_ble_eq_true rfl) dX6_init_30 (fun q4 H hP hD hS => ?_)
  have hP : va_P D vwCl [(h0, .inr (6, [.ref q1, .ref q2, .ref q3, .int 0, .int 0, .int 0, .null, .null, .null, .null, .null, .null])), aJ cJ q1 3420 (fun _ => 0), aI cI q2 2 (fun _ => 0), aI cZ q3 2 (fun _ => 0), aI cI q4 20 (fun _ => 0)] H := hP
  have hD : va_D A [(h0, .inr (6, [.ref q1, .ref q2, .ref q3, .int 0, .int 0, .int 0, .null, .null, .null, .null, .null, .null])), aJ cJ q1 3420 (fun _ => 0), aI cI q2 2 (fun _ => 0), aI cZ q3 2 (fun _ => 0), aI cI q4 20 (fun _ => 0)] := hD
  refine va_putF (D := D) (ci := 6) (v := .ref q4) (ty := .array .int) (C := RX6) (T := TX6) (N := 12) hx hb hts hI_X6 tyX6 tyX6_ok nmX6 hown hK hP hD hS 0 rfl rfl 6 (by decide) gf21 (fun _ h9 => h9) rfl hin rfl (by decide +kernel) rfl rfl (Nat.le_of_ble_eq_true rfl) dX6_init_32 (fun H locs hP hD hS => ?_)
  have hP : va_P D vwCl [(h0, .inr (6, [.ref q1, .ref q2, .ref q3, .int 0, .int 0, .int 0, .ref q4, .null, .null, .null, .null, .null])), aJ cJ q1 3420 (fun _ => 0), aI cI q2 2 (fun _ => 0), aI cZ q3 2 (fun _ => 0), aI cI q4 20 (fun _ => 0)] H := hP
  have hD : va_D A [(h0, .inr (6, [.ref q1, .ref q2, .ref q3, .int 0, .int 0, .int 0, .ref q4, .null, .null, .null, .null, .null])), aJ cJ q1 3420 (fun _ => 0), aI cI q2 2 (fun _ => 0), aI cZ q3 2 (fun _ => 0), aI cI q4 20 (fun _ => 0)] := hD
  refine lv_aload_n hx hb dX6_init_35 rfl (lv_at hl 0 rfl) ?_
  refine lv_bipush (v := 20) hx hb dX6_init_36 (by decide) ?_
  refine nwI hx hb gaint hK hP hD hS hA (N := 20) (by decide) (by decide) (Nat.le_of_ble_eq_true rfl) (Nat.le_of_ble_eq_true rfl) (Nat.le_of_ble_eq_true rfl) dX6_init_38 (fun q5 H hP hD hS => ?_)
  have hP : va_P D vwCl [(h0, .inr (6, [.ref q1, .ref q2, .ref q3, .int 0, .int 0, .int 0, .ref q4, .null, .null, .null, .null, .null])), aJ cJ q1 3420 (fun _ => 0), aI cI q2 2 (fun _ => 0), aI cZ q3 2 (fun _ => 0), aI cI q4 20 (fun _ => 0), aI cI q5 20 (fun _ => 0)] H := hP
  have hD : va_D A [(h0, .inr (6, [.ref q1, .ref q2, .ref q3, .int 0, .int 0, .int 0, .ref q4, .null, .null, .null, .null, .null])), aJ cJ q1 3420 (fun _ => 0), aI cI q2 2 (fun _ => 0), aI cZ q3 2 (fun _ => 0), aI cI q4 20 (fun _ => 0), aI cI q5 20 (fun _ => 0)] := hD
  refine va_putF (D := D) (ci := 6) (v := .ref q5) (ty := .array .int) (C := RX6) (T := TX6) (N := 12) hx hb hts hI_X6 tyX6 tyX6_ok nmX6 hown hK hP hD hS 0 rfl rfl 7 (by decide) gf24 (fun _ h9 => h9) rfl hin rfl (by decide +kernel) rfl rfl (Nat.le_of_ble_eq_true rfl) dX6_init_40 (fun H locs hP hD hS => ?_)
  have hP : va_P D vwCl [(h0, .inr (6, [.ref q1, .ref q2, .ref q3, .int 0, .int 0, .int 0, .ref q4, .ref q5, .null, .null, .null, .null])), aJ cJ q1 3420 (fun _ => 0), aI cI q2 2 (fun _ => 0), aI cZ q3 2 (fun _ => 0), aI cI q4 20 (fun _ => 0), aI cI q5 20 (fun _ => 0)] H := hP
  have hD : va_D A [(h0, .inr (6, [.ref q1, .ref q2, .ref q3, .int 0, .int 0, .int 0, .ref q4, .ref q5, .null, .null, .null, .null])), aJ cJ q1 3420 (fun _ => 0), aI cI q2 2 (fun _ => 0), aI cZ q3 2 (fun _ => 0), aI cI q4 20 (fun _ => 0), aI cI q5 20 (fun _ => 0)] := hD
  refine lv_aload_n hx hb dX6_init_43 rfl (lv_at hl 0 rfl) ?_
  refine lv_bipush (v := 12) hx hb dX6_init_44 (by decide) ?_
  refine nwI hx hb gaint hK hP hD hS hA (N := 12) (by decide) (by decide) (Nat.le_of_ble_eq_true rfl) (Nat.le_of_ble_eq_true rfl) (Nat.le_of_ble_eq_true rfl) dX6_init_46 (fun q6 H hP hD hS => ?_)
  have hP : va_P D vwCl [(h0, .inr (6, [.ref q1, .ref q2, .ref q3, .int 0, .int 0, .int 0, .ref q4, .ref q5, .null, .null, .null, .null])), aJ cJ q1 3420 (fun _ => 0), aI cI q2 2 (fun _ => 0), aI cZ q3 2 (fun _ => 0), aI cI q4 20 (fun _ => 0), aI cI q5 20 (fun _ => 0), aI cI q6 12 (fun _ => 0)] H := hP
  have hD : va_D A [(h0, .inr (6, [.ref q1, .ref q2, .ref q3, .int 0, .int 0, .int 0, .ref q4, .ref q5, .null, .null, .null, .null])), aJ cJ q1 3420 (fun _ => 0), aI cI q2 2 (fun _ => 0), aI cZ q3 2 (fun _ => 0), aI cI q4 20 (fun _ => 0), aI cI q5 20 (fun _ => 0), aI cI q6 12 (fun _ => 0)] := hD
  refine va_putF (D := D) (ci := 6) (v := .ref q6) (ty := .array .int) (C := RX6) (T := TX6) (N := 12) hx hb hts hI_X6 tyX6 tyX6_ok nmX6 hown hK hP hD hS 0 rfl rfl 8 (by decide) gf27 (fun _ h9 => h9) rfl hin rfl (by decide +kernel) rfl rfl (Nat.le_of_ble_eq_true rfl) dX6_init_48 (fun H locs hP hD hS => ?_)
  have hP : va_P D vwCl [(h0, .inr (6, [.ref q1, .ref q2, .ref q3, .int 0, .int 0, .int 0, .ref q4, .ref q5, .ref q6, .null, .null, .null])), aJ cJ q1 3420 (fun _ => 0), aI cI q2 2 (fun _ => 0), aI cZ q3 2 (fun _ => 0), aI cI q4 20 (fun _ => 0), aI cI q5 20 (fun _ => 0), aI cI q6 12 (fun _ => 0)] H := hP
  have hD : va_D A [(h0, .inr (6, [.ref q1, .ref q2, .ref q3, .int 0, .int 0, .int 0, .ref q4, .ref q5, .ref q6, .null, .null, .null])), aJ cJ q1 3420 (fun _ => 0), aI cI q2 2 (fun _ => 0), aI cZ q3 2 (fun _ => 0), aI cI q4 20 (fun _ => 0), aI cI q5 20 (fun _ => 0), aI cI q6 12 (fun _ => 0)] := hD
  refine lv_aload_n hx hb dX6_init_51 rfl (lv_at hl 0 rfl) ?_
  refine lv_bipush (v := 12) hx hb dX6_init_52 (by decide) ?_
  refine nwI hx hb gaint hK hP hD hS hA (N := 12) (by decide) (by decide) (Nat.le_of_ble_eq_true rfl) (Nat.le_of_ble_eq_true rfl) (Nat.le_of_ble_eq_true rfl) dX6_init_54 (fun q7 H hP hD hS => ?_)
  have hP : va_P D vwCl [(h0, .inr (6, [.ref q1, .ref q2, .ref q3, .int 0, .int 0, .int 0, .ref q4, .ref q5, .ref q6, .null, .null, .null])), aJ cJ q1 3420 (fun _ => 0), aI cI q2 2 (fun _ => 0), aI cZ q3 2 (fun _ => 0), aI cI q4 20 (fun _ => 0), aI cI q5 20 (fun _ => 0), aI cI q6 12 (fun _ => 0), aI cI q7 12 (fun _ => 0)] H := hP
  have hD : va_D A [(h0, .inr (6, [.ref q1, .ref q2, .ref q3, .int 0, .int 0, .int 0, .ref q4, .ref q5, .ref q6, .null, .null, .null])), aJ cJ q1 3420 (fun _ => 0), aI cI q2 2 (fun _ => 0), aI cZ q3 2 (fun _ => 0), aI cI q4 20 (fun _ => 0), aI cI q5 20 (fun _ => 0), aI cI q6 12 (fun _ => 0), aI cI q7 12 (fun _ => 0)] := hD
  refine va_putF (D := D) (ci := 6) (v := .ref q7) (ty := .array .int) (C := RX6) (T := TX6) (N := 12) hx hb hts hI_X6 tyX6 tyX6_ok nmX6 hown hK hP hD hS 0 rfl rfl 9 (by decide) gf30 (fun _ h9 => h9) rfl hin rfl (by decide +kernel) rfl rfl (Nat.le_of_ble_eq_true rfl) dX6_init_56 (fun H locs hP hD hS => ?_)
  have hP : va_P D vwCl [(h0, .inr (6, [.ref q1, .ref q2, .ref q3, .int 0, .int 0, .int 0, .ref q4, .ref q5, .ref q6, .ref q7, .null, .null])), aJ cJ q1 3420 (fun _ => 0), aI cI q2 2 (fun _ => 0), aI cZ q3 2 (fun _ => 0), aI cI q4 20 (fun _ => 0), aI cI q5 20 (fun _ => 0), aI cI q6 12 (fun _ => 0), aI cI q7 12 (fun _ => 0)] H := hP
  have hD : va_D A [(h0, .inr (6, [.ref q1, .ref q2, .ref q3, .int 0, .int 0, .int 0, .ref q4, .ref q5, .ref q6, .ref q7, .null, .null])), aJ cJ q1 3420 (fun _ => 0), aI cI q2 2 (fun _ => 0), aI cZ q3 2 (fun _ => 0), aI cI q4 20 (fun _ => 0), aI cI q5 20 (fun _ => 0), aI cI q6 12 (fun _ => 0), aI cI q7 12 (fun _ => 0)] := hD
  refine lv_aload_n hx hb dX6_init_59 rfl (lv_at hl 0 rfl) ?_
  refine lv_bipush (v := 12) hx hb dX6_init_60 (by decide) ?_
  refine nwJ hx hb galong hK hP hD hS hA (N := 12) (by decide) (by decide) (Nat.le_of_ble_eq_true rfl) (Nat.le_of_ble_eq_true rfl) (Nat.le_of_ble_eq_true rfl) dX6_init_62 (fun q8 H hP hD hS => ?_)
  have hP : va_P D vwCl [(h0, .inr (6, [.ref q1, .ref q2, .ref q3, .int 0, .int 0, .int 0, .ref q4, .ref q5, .ref q6, .ref q7, .null, .null])), aJ cJ q1 3420 (fun _ => 0), aI cI q2 2 (fun _ => 0), aI cZ q3 2 (fun _ => 0), aI cI q4 20 (fun _ => 0), aI cI q5 20 (fun _ => 0), aI cI q6 12 (fun _ => 0), aI cI q7 12 (fun _ => 0), aJ cJ q8 12 (fun _ => 0)] H := hP
  have hD : va_D A [(h0, .inr (6, [.ref q1, .ref q2, .ref q3, .int 0, .int 0, .int 0, .ref q4, .ref q5, .ref q6, .ref q7, .null, .null])), aJ cJ q1 3420 (fun _ => 0), aI cI q2 2 (fun _ => 0), aI cZ q3 2 (fun _ => 0), aI cI q4 20 (fun _ => 0), aI cI q5 20 (fun _ => 0), aI cI q6 12 (fun _ => 0), aI cI q7 12 (fun _ => 0), aJ cJ q8 12 (fun _ => 0)] := hD
  refine va_putF (D := D) (ci := 6) (v := .ref q8) (ty := .array .long) (C := RX6) (T := TX6) (N := 12) hx hb hts hI_X6 tyX6 tyX6_ok nmX6 hown hK hP hD hS 0 rfl rfl 10 (by decide) gf33 (fun _ h9 => h9) rfl hin rfl (by decide +kernel) rfl rfl (Nat.le_of_ble_eq_true rfl) dX6_init_64 (fun H locs hP hD hS => ?_)
  have hP : va_P D vwCl [(h0, .inr (6, [.ref q1, .ref q2, .ref q3, .int 0, .int 0, .int 0, .ref q4, .ref q5, .ref q6, .ref q7, .ref q8, .null])), aJ cJ q1 3420 (fun _ => 0), aI cI q2 2 (fun _ => 0), aI cZ q3 2 (fun _ => 0), aI cI q4 20 (fun _ => 0), aI cI q5 20 (fun _ => 0), aI cI q6 12 (fun _ => 0), aI cI q7 12 (fun _ => 0), aJ cJ q8 12 (fun _ => 0)] H := hP
  have hD : va_D A [(h0, .inr (6, [.ref q1, .ref q2, .ref q3, .int 0, .int 0, .int 0, .ref q4, .ref q5, .ref q6, .ref q7, .ref q8, .null])), aJ cJ q1 3420 (fun _ => 0), aI cI q2 2 (fun _ => 0), aI cZ q3 2 (fun _ => 0), aI cI q4 20 (fun _ => 0), aI cI q5 20 (fun _ => 0), aI cI q6 12 (fun _ => 0), aI cI q7 12 (fun _ => 0), aJ cJ q8 12 (fun _ => 0)] := hD
  refine lv_aload_n hx hb dX6_init_67 rfl (lv_at hl 0 rfl) ?_
  refine lv_bipush (v := 12) hx hb dX6_init_68 (by decide) ?_
  refine nwJ hx hb galong hK hP hD hS hA (N := 12) (by decide) (by decide) (Nat.le_of_ble_eq_true rfl) (Nat.le_of_ble_eq_true rfl) (Nat.le_of_ble_eq_true rfl) dX6_init_70 (fun q9 H hP hD hS => ?_)
  have hP : va_P D vwCl [(h0, .inr (6, [.ref q1, .ref q2, .ref q3, .int 0, .int 0, .int 0, .ref q4, .ref q5, .ref q6, .ref q7, .ref q8, .null])), aJ cJ q1 3420 (fun _ => 0), aI cI q2 2 (fun _ => 0), aI cZ q3 2 (fun _ => 0), aI cI q4 20 (fun _ => 0), aI cI q5 20 (fun _ => 0), aI cI q6 12 (fun _ => 0), aI cI q7 12 (fun _ => 0), aJ cJ q8 12 (fun _ => 0), aJ cJ q9 12 (fun _ => 0)] H := hP
  have hD : va_D A [(h0, .inr (6, [.ref q1, .ref q2, .ref q3, .int 0, .int 0, .int 0, .ref q4, .ref q5, .ref q6, .ref q7, .ref q8, .null])), aJ cJ q1 3420 (fun _ => 0), aI cI q2 2 (fun _ => 0), aI cZ q3 2 (fun _ => 0), aI cI q4 20 (fun _ => 0), aI cI q5 20 (fun _ => 0), aI cI q6 12 (fun _ => 0), aI cI q7 12 (fun _ => 0), aJ cJ q8 12 (fun _ => 0), aJ cJ q9 12 (fun _ => 0)] := hD
  refine va_putF (D := D) (ci := 6) (v := .ref q9) (ty := .array .long) (C := RX6) (T := TX6) (N := 12) hx hb hts hI_X6 tyX6 tyX6_ok nmX6 hown hK hP hD hS 0 rfl rfl 11 (by decide) gf36 (fun _ h9 => h9) rfl hin rfl (by decide +kernel) rfl rfl (Nat.le_of_ble_eq_true rfl) dX6_init_72 (fun H locs hP hD hS => ?_)
  have hP : va_P D vwCl [(h0, .inr (6, [.ref q1, .ref q2, .ref q3, .int 0, .int 0, .int 0, .ref q4, .ref q5, .ref q6, .ref q7, .ref q8, .ref q9])), aJ cJ q1 3420 (fun _ => 0), aI cI q2 2 (fun _ => 0), aI cZ q3 2 (fun _ => 0), aI cI q4 20 (fun _ => 0), aI cI q5 20 (fun _ => 0), aI cI q6 12 (fun _ => 0), aI cI q7 12 (fun _ => 0), aJ cJ q8 12 (fun _ => 0), aJ cJ q9 12 (fun _ => 0)] H := hP
  have hD : va_D A [(h0, .inr (6, [.ref q1, .ref q2, .ref q3, .int 0, .int 0, .int 0, .ref q4, .ref q5, .ref q6, .ref q7, .ref q8, .ref q9])), aJ cJ q1 3420 (fun _ => 0), aI cI q2 2 (fun _ => 0), aI cZ q3 2 (fun _ => 0), aI cI q4 20 (fun _ => 0), aI cI q5 20 (fun _ => 0), aI cI q6 12 (fun _ => 0), aI cI q7 12 (fun _ => 0), aJ cJ q8 12 (fun _ => 0), aJ cJ q9 12 (fun _ => 0)] := hD
  obtain ⟨w, hb0, e1, e2, e3, e4, e5, e6, e7, e8, e9⟩ : ∃ b : Nat → Nat, b 0 = h0 ∧ b 1 = q1 ∧ b 2 = q2 ∧ b 3 = q3 ∧ b 4 = q4 ∧ b 5 = q5 ∧ b 6 = q6 ∧ b 7 = q7 ∧ b 8 = q8 ∧ b 9 = q9 := ⟨fun k => ([h0, q1, q2, q3, q4, q5, q6, q7, q8, q9] : List Nat).getD k 0, rfl, rfl, rfl, rfl, rfl, rfl, rfl, rfl, rfl, rfl⟩
  have hP : va_P D vwCl [oX6 w 0 0 0, aJ cJ (w 1) 3420 (fun _ => 0), aI cI (w 2) 2 (fun _ => 0), aI cZ (w 3) 2 (fun _ => 0), aI cI (w 4) 20 (fun _ => 0), aI cI (w 5) 20 (fun _ => 0), aI cI (w 6) 12 (fun _ => 0), aI cI (w 7) 12 (fun _ => 0), aJ cJ (w 8) 12 (fun _ => 0), aJ cJ (w 9) 12 (fun _ => 0)] H := by subst hb0 e1 e2 e3 e4 e5 e6 e7 e8 e9; exact hP
  have hD : va_D A [oX6 w 0 0 0, aJ cJ (w 1) 3420 (fun _ => 0), aI cI (w 2) 2 (fun _ => 0), aI cZ (w 3) 2 (fun _ => 0), aI cI (w 4) 20 (fun _ => 0), aI cI (w 5) 20 (fun _ => 0), aI cI (w 6) 12 (fun _ => 0), aI cI (w 7) 12 (fun _ => 0), aJ cJ (w 8) 12 (fun _ => 0), aJ cJ (w 9) 12 (fun _ => 0)] := by subst hb0 e1 e2 e3 e4 e5 e6 e7 e8 e9; exact hD
  refine W.widen (k := 9) (n := 3512) (by decide) (by decide) ?_
  have hl : lv_has ls 2 [(0, .ref (w 0))] := by rw [hb0]; exact hl
  have W77 : ∀ (n : Nat) (v1 : Int32) (w_w : Nat → Int64) (w_imageSeed : Nat → Int32) (w_isKept : Nat → Int32) (w_undos : Int32) (w_seed : Int32) (w_entries : Int32) (w_bookPlace : Nat → Int32) (w_bookPosition : Nat → Int32) (w_scratch : Nat → Int32) (w_from : Nat → Int32) (w_heldSort : Nat → Int64) (w_heldNumber : Nat → Int64) (H : Heap) (locs : List Loc) (ls : Array Slot) (z : (Nat → Int64)), va_P D vwCl [oX6 w w_undos w_seed w_entries, aJ cJ (w 1) 3420 w_w, aI cI (w 2) 2 w_imageSeed, aI cZ (w 3) 2 w_isKept, aI cI (w 4) 20 w_bookPlace, aI cI (w 5) 20 w_bookPosition, aI cI (w 6) 12 w_scratch, aI cI (w 7) 12 w_from, aJ cJ (w 8) 12 w_heldSort, aJ cJ (w 9) 12 w_heldNumber] H → va_S A s.heap H locs → lv_has ls 2 [(0, .ref (w 0)), (1, .int v1)] → L_X6_init_77 n v1 w_w = some z → (∀ (H : Heap) (locs : List Loc) (ls : Array Slot), va_P D vwCl [oX6 w w_undos w_seed w_entries, aJ cJ (w 1) 3420 z, aI cI (w 2) 2 w_imageSeed, aI cZ (w 3) 2 w_isKept, aI cI (w 4) 20 w_bookPlace, aI cI (w 5) 20 w_bookPosition, aI cI (w 6) 12 w_scratch, aI cI (w 7) 12 w_from, aJ cJ (w 8) 12 w_heldSort, aJ cJ (w 9) 12 w_heldNumber] H → va_S A s.heap H locs → lv_has ls 2 [(0, .ref (w 0))] → W p l e { frames := 1, cells := 9, slots := 3512, locals := 20 } s m args below meth c H locs 9 3512 (MQ below (QnV D h0 zr (fun w u => [oX6 w u.2.2.2.1 u.2.2.2.2.1 u.2.2.2.2.2.1, aJ cJ (w 1) 3420 u.1, aI cI (w 2) 2 u.2.1, aI cZ (w 3) 2 u.2.2.1, aI cI (w 4) 20 u.2.2.2.2.2.2.1, aI cI (w 5) 20 u.2.2.2.2.2.2.2.1, aI cI (w 6) 12 u.2.2.2.2.2.2.2.2.1, aI cI (w 7) 12 u.2.2.2.2.2.2.2.2.2.1, aJ cJ (w 8) 12 u.2.2.2.2.2.2.2.2.2.2.1, aJ cJ (w 9) 12 u.2.2.2.2.2.2.2.2.2.2.2]) A) args s 9 3512 A) (F0 m 100 ls [])) → W p l e { frames := 1, cells := 9, slots := 3512, locals := 20 } s m args below meth c H locs 9 3512 (MQ below (QnV D h0 zr (fun w u => [oX6 w u.2.2.2.1 u.2.2.2.2.1 u.2.2.2.2.2.1, aJ cJ (w 1) 3420 u.1, aI cI (w 2) 2 u.2.1, aI cZ (w 3) 2 u.2.2.1, aI cI (w 4) 20 u.2.2.2.2.2.2.1, aI cI (w 5) 20 u.2.2.2.2.2.2.2.1, aI cI (w 6) 12 u.2.2.2.2.2.2.2.2.1, aI cI (w 7) 12 u.2.2.2.2.2.2.2.2.2.1, aJ cJ (w 8) 12 u.2.2.2.2.2.2.2.2.2.2.1, aJ cJ (w 9) 12 u.2.2.2.2.2.2.2.2.2.2.2]) A) args s 9 3512 A) (F0 m 77 ls []) := by
    intro n
    induction n with
    | zero =>
      intro v1 w_w w_imageSeed w_isKept w_undos w_seed w_entries w_bookPlace w_bookPosition w_scratch w_from w_heldSort w_heldNumber H locs ls z hP hS hl hf
      exact absurd (show (none : Option ((Nat → Int64))) = some z from hf) (fun h => by cases h)
    | succ n ih =>
      intro v1 w_w w_imageSeed w_isKept w_undos w_seed w_entries w_bookPlace w_bookPosition w_scratch w_from w_heldSort w_heldNumber H locs ls z hP hS hl hf K
      rw [L_X6_init_77] at hf
      refine lv_iload_n hx hb dX6_init_77 rfl (lv_at hl 1 rfl) ?_
      refine lv_bipush (v := 6) hx hb dX6_init_78 (by decide) ?_
      refine lv_icmp_ge (tgt := 100) hx hb dX6_init_80 (by decide) (fun c1 => ?_) (fun c1 => ?_)
      · replace hf := oif c1 hf
        have hf := Option.some.inj hf
        subst hf
        exact K H locs ls hP hS (lv_sub hl [0] rfl)
      · replace hf := oel c1 hf
        refine lv_aload_n hx hb dX6_init_83 rfl (lv_at hl 0 rfl) ?_
        refine va_get (D := D) (ci := 6) (v := .ref (w 1)) (C := RX6) (T := TX6) (N := 12) hx hb hts hI_X6 hown hK hP 0 rfl rfl 0 (by decide) gf7 (fun _ h9 => h9) rfl dX6_init_84 ?_
        refine lv_iconst (v := 0) hx hb dX6_init_87 (by decide) ?_
        refine lv_iload_n hx hb dX6_init_88 rfl (lv_at hl 1 rfl) ?_
        refine lv_iadd hx hb dX6_init_89 ?_
        refine lv_ldc2 hx hb hown gk39 dX6_init_90 ?_
        obtain ⟨h2, hf⟩ := ogd hf
        refine va_last hx hb hK hP (hD.addr rfl) hS 1 1 rfl rfl (ib_in h2) dX6_init_93 (fun H locs hP _ hS => ?_)
        obtain ⟨h2a, eh2a⟩ : ∃ y : Nat → Int64, y = vp_updL w_w ((0 : Int32) + v1).toNatClampNeg 14 := ⟨_, rfl⟩
        replace hf := onm eh2a hf
        have hP : va_P D vwCl [oX6 w w_undos w_seed w_entries, aJ cJ (w 1) 3420 h2a, aI cI (w 2) 2 w_imageSeed, aI cZ (w 3) 2 w_isKept, aI cI (w 4) 20 w_bookPlace, aI cI (w 5) 20 w_bookPosition, aI cI (w 6) 12 w_scratch, aI cI (w 7) 12 w_from, aJ cJ (w 8) 12 w_heldSort, aJ cJ (w 9) 12 w_heldNumber] H := by rw [eh2a]; exact hP
        obtain ⟨y3, ey3⟩ : ∃ y : Int32, y = v1 + 1 := ⟨_, rfl⟩
        replace hf := onm ey3 hf
        refine lv_iinc (v := y3) (lv' := [(1, .int y3), (0, .ref (w 0))]) hx hb dX6_init_94 hl (k := 1) rfl (by rw [ey3]; rfl) (by decide) rfl (fun ls hl => ?_)
        refine lv_goto (tgt := 77) hx hb dX6_init_97 (by decide) ?_
        exact ih y3 h2a w_imageSeed w_isKept w_undos w_seed w_entries w_bookPlace w_bookPosition w_scratch w_from w_heldSort w_heldNumber H locs ls z hP hS (lv_sub hl [1, 0] rfl) hf K
  have W113 : ∀ (n : Nat) (v1 : Int32) (w_w : Nat → Int64) (w_imageSeed : Nat → Int32) (w_isKept : Nat → Int32) (w_undos : Int32) (w_seed : Int32) (w_entries : Int32) (w_bookPlace : Nat → Int32) (w_bookPosition : Nat → Int32) (w_scratch : Nat → Int32) (w_from : Nat → Int32) (w_heldSort : Nat → Int64) (w_heldNumber : Nat → Int64) (H : Heap) (locs : List Loc) (ls : Array Slot) (z : (Nat → Int64)), va_P D vwCl [oX6 w w_undos w_seed w_entries, aJ cJ (w 1) 3420 w_w, aI cI (w 2) 2 w_imageSeed, aI cZ (w 3) 2 w_isKept, aI cI (w 4) 20 w_bookPlace, aI cI (w 5) 20 w_bookPosition, aI cI (w 6) 12 w_scratch, aI cI (w 7) 12 w_from, aJ cJ (w 8) 12 w_heldSort, aJ cJ (w 9) 12 w_heldNumber] H → va_S A s.heap H locs → lv_has ls 2 [(0, .ref (w 0)), (1, .int v1)] → L_X6_init_113 n v1 w_w = some z → (∀ (H : Heap) (locs : List Loc) (ls : Array Slot), va_P D vwCl [oX6 w w_undos w_seed w_entries, aJ cJ (w 1) 3420 z, aI cI (w 2) 2 w_imageSeed, aI cZ (w 3) 2 w_isKept, aI cI (w 4) 20 w_bookPlace, aI cI (w 5) 20 w_bookPosition, aI cI (w 6) 12 w_scratch, aI cI (w 7) 12 w_from, aJ cJ (w 8) 12 w_heldSort, aJ cJ (w 9) 12 w_heldNumber] H → va_S A s.heap H locs → lv_has ls 2 [] → W p l e { frames := 1, cells := 9, slots := 3512, locals := 20 } s m args below meth c H locs 9 3512 (MQ below (QnV D h0 zr (fun w u => [oX6 w u.2.2.2.1 u.2.2.2.2.1 u.2.2.2.2.2.1, aJ cJ (w 1) 3420 u.1, aI cI (w 2) 2 u.2.1, aI cZ (w 3) 2 u.2.2.1, aI cI (w 4) 20 u.2.2.2.2.2.2.1, aI cI (w 5) 20 u.2.2.2.2.2.2.2.1, aI cI (w 6) 12 u.2.2.2.2.2.2.2.2.1, aI cI (w 7) 12 u.2.2.2.2.2.2.2.2.2.1, aJ cJ (w 8) 12 u.2.2.2.2.2.2.2.2.2.2.1, aJ cJ (w 9) 12 u.2.2.2.2.2.2.2.2.2.2.2]) A) args s 9 3512 A) (F0 m 139 ls [])) → W p l e { frames := 1, cells := 9, slots := 3512, locals := 20 } s m args below meth c H locs 9 3512 (MQ below (QnV D h0 zr (fun w u => [oX6 w u.2.2.2.1 u.2.2.2.2.1 u.2.2.2.2.2.1, aJ cJ (w 1) 3420 u.1, aI cI (w 2) 2 u.2.1, aI cZ (w 3) 2 u.2.2.1, aI cI (w 4) 20 u.2.2.2.2.2.2.1, aI cI (w 5) 20 u.2.2.2.2.2.2.2.1, aI cI (w 6) 12 u.2.2.2.2.2.2.2.2.1, aI cI (w 7) 12 u.2.2.2.2.2.2.2.2.2.1, aJ cJ (w 8) 12 u.2.2.2.2.2.2.2.2.2.2.1, aJ cJ (w 9) 12 u.2.2.2.2.2.2.2.2.2.2.2]) A) args s 9 3512 A) (F0 m 113 ls []) := by
    intro n
    induction n with
    | zero =>
      intro v1 w_w w_imageSeed w_isKept w_undos w_seed w_entries w_bookPlace w_bookPosition w_scratch w_from w_heldSort w_heldNumber H locs ls z hP hS hl hf
      exact absurd (show (none : Option ((Nat → Int64))) = some z from hf) (fun h => by cases h)
    | succ n ih =>
      intro v1 w_w w_imageSeed w_isKept w_undos w_seed w_entries w_bookPlace w_bookPosition w_scratch w_from w_heldSort w_heldNumber H locs ls z hP hS hl hf K
      rw [L_X6_init_113] at hf
      refine lv_iload_n hx hb dX6_init_113 rfl (lv_at hl 1 rfl) ?_
      refine lv_bipush (v := 8) hx hb dX6_init_114 (by decide) ?_
      refine lv_icmp_ge (tgt := 139) hx hb dX6_init_116 (by decide) (fun c6 => ?_) (fun c6 => ?_)
      · replace hf := oif c6 hf
        have hf := Option.some.inj hf
        subst hf
        exact K H locs ls hP hS (lv_sub hl [] rfl)
      · replace hf := oel c6 hf
        refine lv_aload_n hx hb dX6_init_119 rfl (lv_at hl 0 rfl) ?_
        refine va_get (D := D) (ci := 6) (v := .ref (w 1)) (C := RX6) (T := TX6) (N := 12) hx hb hts hI_X6 hown hK hP 0 rfl rfl 0 (by decide) gf7 (fun _ h9 => h9) rfl dX6_init_120 ?_
        refine lv_sipush (v := 172) hx hb dX6_init_123 (by decide) ?_
        refine lv_iload_n hx hb dX6_init_126 rfl (lv_at hl 1 rfl) ?_
        refine lv_iadd hx hb dX6_init_127 ?_
        refine lv_iload_n hx hb dX6_init_128 rfl (lv_at hl 1 rfl) ?_
        refine lv_iconst (v := 2) hx hb dX6_init_129 (by decide) ?_
        refine lv_idiv hx hb dX6_init_130 (by decide) ?_
        refine lv_i2l (v := (Int32.toInt64 (v1 / (2 : Int32)))) hx hb dX6_init_131 rfl ?_
        obtain ⟨h8, hf⟩ := ogd hf
        refine va_last hx hb hK hP (hD.addr rfl) hS 1 1 rfl rfl (ib_in h8) dX6_init_132 (fun H locs hP _ hS => ?_)
        obtain ⟨h8a, eh8a⟩ : ∃ y : Nat → Int64, y = vp_updL w_w ((172 : Int32) + v1).toNatClampNeg (Int32.toInt64 (v1 / (2 : Int32))) := ⟨_, rfl⟩
        replace hf := onm eh8a hf
        have hP : va_P D vwCl [oX6 w w_undos w_seed w_entries, aJ cJ (w 1) 3420 h8a, aI cI (w 2) 2 w_imageSeed, aI cZ (w 3) 2 w_isKept, aI cI (w 4) 20 w_bookPlace, aI cI (w 5) 20 w_bookPosition, aI cI (w 6) 12 w_scratch, aI cI (w 7) 12 w_from, aJ cJ (w 8) 12 w_heldSort, aJ cJ (w 9) 12 w_heldNumber] H := by rw [eh8a]; exact hP
        obtain ⟨y9, ey9⟩ : ∃ y : Int32, y = v1 + 1 := ⟨_, rfl⟩
        replace hf := onm ey9 hf
        refine lv_iinc (v := y9) (lv' := [(1, .int y9), (0, .ref (w 0))]) hx hb dX6_init_133 hl (k := 1) rfl (by rw [ey9]; rfl) (by decide) rfl (fun ls hl => ?_)
        refine lv_goto (tgt := 113) hx hb dX6_init_136 (by decide) ?_
        exact ih y9 h8a w_imageSeed w_isKept w_undos w_seed w_entries w_bookPlace w_bookPosition w_scratch w_from w_heldSort w_heldNumber H locs ls z hP hS (lv_sub hl [1, 0] rfl) hf K
  refine lv_iconst (v := 0) hx hb dX6_init_75 (by decide) ?_
  refine lv_istore_n (lv' := [(1, .int 0), (0, .ref (w 0))]) hx hb dX6_init_76 rfl hl (by decide) rfl (fun ls hl => ?_)
  obtain ⟨z4, hz4, hf⟩ := obd hf
  refine W77 4000 0 (fun _ => 0) (fun _ => 0) (fun _ => 0) 0 0 0 (fun _ => 0) (fun _ => 0) (fun _ => 0) (fun _ => 0) (fun _ => 0) (fun _ => 0) H locs ls z4 hP hS (lv_sub hl [1, 0] rfl) hz4 (fun H locs ls hP hS hl => ?_)
  refine lv_aload_n hx hb dX6_init_100 rfl (lv_at hl 0 rfl) ?_
  refine va_get (D := D) (ci := 6) (v := .ref (w 1)) (C := RX6) (T := TX6) (N := 12) hx hb hts hI_X6 hown hK hP 0 rfl rfl 0 (by decide) gf7 (fun _ h9 => h9) rfl dX6_init_101 ?_
  refine lv_sipush (v := 170) hx hb dX6_init_104 (by decide) ?_
  refine lv_ldc2 hx hb hown gk41 dX6_init_107 ?_
  refine va_last hx hb hK hP (hD.addr rfl) hS 1 1 rfl rfl (ib_in (by decide)) dX6_init_110 (fun H locs hP _ hS => ?_)
  obtain ⟨h5a, eh5a⟩ : ∃ y : Nat → Int64, y = vp_updL z4 (Int32.toNatClampNeg 170) 9 := ⟨_, rfl⟩
  replace hf := onm eh5a hf
  have hP : va_P D vwCl [oX6 w 0 0 0, aJ cJ (w 1) 3420 h5a, aI cI (w 2) 2 (fun _ => 0), aI cZ (w 3) 2 (fun _ => 0), aI cI (w 4) 20 (fun _ => 0), aI cI (w 5) 20 (fun _ => 0), aI cI (w 6) 12 (fun _ => 0), aI cI (w 7) 12 (fun _ => 0), aJ cJ (w 8) 12 (fun _ => 0), aJ cJ (w 9) 12 (fun _ => 0)] H := by rw [eh5a]; exact hP
  refine lv_iconst (v := 0) hx hb dX6_init_111 (by decide) ?_
  refine lv_istore_n (lv' := [(1, .int 0), (0, .ref (w 0))]) hx hb dX6_init_112 rfl hl (by decide) rfl (fun ls hl => ?_)
  obtain ⟨z10, hz10, hf⟩ := obd hf
  refine W113 4000 0 h5a (fun _ => 0) (fun _ => 0) 0 0 0 (fun _ => 0) (fun _ => 0) (fun _ => 0) (fun _ => 0) (fun _ => 0) (fun _ => 0) H locs ls z10 hP hS (lv_sub hl [1, 0] rfl) hz10 (fun H locs ls hP hS hl => ?_)
  have er := Option.some.inj hf
  exact rInit (b := w) (wm := (fun w u => [oX6 w u.2.2.2.1 u.2.2.2.2.1 u.2.2.2.2.2.1, aJ cJ (w 1) 3420 u.1, aI cI (w 2) 2 u.2.1, aI cZ (w 3) 2 u.2.2.1, aI cI (w 4) 20 u.2.2.2.2.2.2.1, aI cI (w 5) 20 u.2.2.2.2.2.2.2.1, aI cI (w 6) 12 u.2.2.2.2.2.2.2.2.1, aI cI (w 7) 12 u.2.2.2.2.2.2.2.2.2.1, aJ cJ (w 8) 12 u.2.2.2.2.2.2.2.2.2.2.1, aJ cJ (w 9) 12 u.2.2.2.2.2.2.2.2.2.2.2])) hx hb hr hS dX6_init_139 hP (hD.addr rfl) er hb0 hlocks
