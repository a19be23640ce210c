noncomputable def L_X6_figure_88 (w_w : Nat → Int64) (v1 : Int32) (v2 : Int32) (v3 : Int32) (v5 : Int32) : Nat → Int32 → Int32 → (Nat → Int32) → Option (Int32 × (Nat → Int32))
  | 0, _, _, _ => none
  | n + 1, v4, v6, w_from => if v3 ≤ v6 then (some ((v4, w_from))) else ((f_X6_at v1 v6).bind (fun z15 => if ib ((84 : Int32) + z15) 3420 = true then (if (lg_cmp (((w_w ((84 : Int32) + z15).toNatClampNeg) >>> (Int32.toInt64 ((3 : Int32) * v2) &&& 63)) &&& (7 : Int64)) (Int32.toInt64 v5)) = 0 then (if ib v4 12 = true then ((some (upd w_from v4.toNatClampNeg v6 : Nat → Int32)).bind (fun h19a => (some (v4 + 1 : Int32)).bind (fun y20 => (some (v6 + 1 : Int32)).bind (fun y21 => L_X6_figure_88 w_w v1 v2 v3 v5 n y20 y21 h19a)))) else none) else ((some (v6 + 1 : Int32)).bind (fun y18 => L_X6_figure_88 w_w v1 v2 v3 v5 n v4 y18 w_from))) else none))
noncomputable def L_X6_figure_78 (w_w : Nat → Int64) (v1 : Int32) (v2 : Int32) (v3 : Int32) : Nat → Int32 → Int32 → (Nat → Int32) → Option ((Nat → Int32))
  | 0, _, _, _ => none
  | n + 1, v4, v5, w_from => if 8 ≤ v5 then (some (w_from)) else ((L_X6_figure_88 w_w v1 v2 v3 v5 4000 v4 0 w_from).bind (fun z22 => (some (v5 + 1 : Int32)).bind (fun y23 => L_X6_figure_78 w_w v1 v2 v3 n z22.1 y23 z22.2)))
noncomputable def f_X6_figure (w_w : Nat → Int64) (w_undos : Int32) (w_from : Nat → Int32) (w_heldSort : Nat → Int64) (w_heldNumber : Nat → Int64) (x1 : Int32) (x2 : Int32) : Option (Int32 × (Nat → Int64) × Int32 × (Nat → Int32) × (Nat → Int64) × (Nat → Int64)) := (f_X6_isSlot x1).bind (fun z1 => if z1 = 0 then (some (((-1000000001), w_w, w_undos, w_from, w_heldSort, w_heldNumber))) else ((f_X6_in (Int32.toInt64 x2) 0 20).bind (fun z3 => if z3 = 0 then (some (((-1000000002), w_w, w_undos, w_from, w_heldSort, w_heldNumber))) else ((f_X6_places w_w).bind (fun z5 => if z5 = (-1) then (some (((-1000000003), w_w, w_undos, w_from, w_heldSort, w_heldNumber))) else ((f_X6_isRow w_w x1).bind (fun z7 => if z7 = 0 then (some (((-1000000003), w_w, w_undos, w_from, w_heldSort, w_heldNumber))) else ((f_X6_many w_w x1).bind (fun z9 => if z9 = z5 then (if z5 ≤ 0 then ((f_X6_minds w_w w_undos).bind (fun z12 => (L_X6_figure_78 z12.1 x1 x2 z5 4000 0 0 w_from).bind (fun z24 => (f_X6_moves z12.1 z24 w_heldSort w_heldNumber z5).bind (fun z25 => some ((z25.1, z25.2.1, z12.2, z24, z25.2.2.1, z25.2.2.2)))))) else ((f_X6_reads w_w x1 5).bind (fun z26 => if z26 = 0 then (some (((-1000000003), w_w, w_undos, w_from, w_heldSort, w_heldNumber))) else ((f_X6_minds w_w w_undos).bind (fun z28 => (L_X6_figure_78 z28.1 x1 x2 z5 4000 0 0 w_from).bind (fun z29 => (f_X6_moves z28.1 z29 w_heldSort w_heldNumber z5).bind (fun z30 => some ((z30.1, z30.2.1, z28.2, z29, z30.2.2.1, z30.2.2.2))))))))) else (some (((-1000000003), w_w, w_undos, w_from, w_heldSort, w_heldNumber))))))))))))
set_option maxHeartbeats 4000000 in
set_option maxRecDepth 100000 in
theorem c_X6_figure (l : Launch) (D : va_G) (cI cJ cZ cQ : ClassId) (bs sz : Nat) (w : Nat → Nat) (w_undos : Int32) (w_seed : Int32) (w_entries : Int32) (w_w : Nat → Int64) (w_from : Nat → Int32) (w_heldSort : Nat → Int64) (w_heldNumber : Nat → Int64) (x1 : Int32) (x2 : Int32) (zr : Int32 × (Nat → Int64) × Int32 × (Nat → Int32) × (Nat → Int64) × (Nat → Int64)) (hf : f_X6_figure w_w w_undos w_from w_heldSort w_heldNumber x1 x2 = some zr) : Met l yX6_figure wsX6_figure { frames := 3, cells := 0, slots := 0, locals := 66 } (va_Pc [.ref (w 0), .int x1, .int x2] (Pr D cI cJ cZ cQ bs sz [oX6 w w_undos w_seed w_entries, aJ cJ (w 1) 3420 w_w, aI cI (w 7) 12 w_from, aJ cJ (w 8) 12 w_heldSort, aJ cJ (w 9) 12 w_heldNumber])) (QwI D zr (fun u => [oX6 w u.2.1 w_seed w_entries, aJ cJ (w 1) 3420 u.1, aI cI (w 7) 12 u.2.2.1, aJ cJ (w 8) 12 u.2.2.2.1, aJ cJ (w 9) 12 u.2.2.2.2]) (va_A [oX6 w w_undos w_seed w_entries, aJ cJ (w 1) 3420 w_w, aI cI (w 7) 12 w_from, aJ cJ (w 8) 12 w_heldSort, aJ cJ (w 9) 12 w_heldNumber] sz)) 0 0 (va_A [oX6 w w_undos w_seed w_entries, aJ cJ (w 1) 3420 w_w, aI cI (w 7) 12 w_from, aJ cJ (w 8) 12 w_heldSort, aJ cJ (w 9) 12 w_heldNumber] sz) := by
  refine stW (cc := cX6_figure) (maxL := 7) (ret := (some .int)) (Qf := fun A => (QwI D zr (fun u => [oX6 w u.2.1 w_seed w_entries, aJ cJ (w 1) 3420 u.1, aI cI (w 7) 12 u.2.2.1, aJ cJ (w 8) 12 u.2.2.2.1, aJ cJ (w 9) 12 u.2.2.2.2]) A)) (by decide +kernel) rfl (Nat.le_of_ble_eq_true rfl) ?_
  intro p e s m args below meth c A C0 hr hlocks hname hsz hP hD hA hAb hE ls hl
  obtain ⟨hx, hb, hml, hown, hts⟩ := id C0
  have hown : s.vm.findClass RX6 = some m.cls := hown
  obtain ⟨hK, hNW, -, tw, hZ, hT⟩ := id hE
  have hl : lv_has ls 7 [(0, .ref (w 0)), (1, .int x1), (2, .int x2)] := hl
  have hS : va_S A s.heap s.heap [] := va_S.rf
  have gk261 := hts (.constantLong RX6 261 (20)) (by decide +kernel)
  have gk246 := hts (.constant RX6 246 (-1000000003)) (by decide +kernel)
  have hI_X6 := (show ∀ w ∈ wsX60, w ∈ wsX6_figure by decide +kernel)
  have gf7 := hts (.fieldLink RX6 7 "RowRanksModel" "w" "[J") (by decide +kernel)
  have gk207 := hts (.constantLong RX6 207 (7)) (by decide +kernel)
  have gf30 := hts (.fieldLink RX6 30 "RowRanksModel" "from" "[I") (by decide +kernel)
  have gk192 := hts (.constant RX6 192 (-1000000002)) (by decide +kernel)
  have gk198 := hts (.constant RX6 198 (-1000000001)) (by decide +kernel)
  have W88 : ∀ (n : Nat) (v1 : Int32) (v2 : Int32) (v3 : Int32) (v4 : Int32) (v5 : Int32) (v6 : Int32) (w_w : Nat → Int64) (w_undos : Int32) (w_from : Nat → Int32) (w_heldSort : Nat → Int64) (w_heldNumber : Nat → Int64) (H : Heap) (locs : List Loc) (ls : Array Slot) (z : Int32 × (Nat → Int32)), va_P D vwCl [oX6 w w_undos w_seed w_entries, aJ cJ (w 1) 3420 w_w, aI cI (w 7) 12 w_from, aJ cJ (w 8) 12 w_heldSort, aJ cJ (w 9) 12 w_heldNumber] H → va_S A s.heap H locs → lv_has ls 7 [(0, .ref (w 0)), (1, .int v1), (2, .int v2), (3, .int v3), (4, .int v4), (5, .int v5), (6, .int v6)] → L_X6_figure_88 w_w v1 v2 v3 v5 n v4 v6 w_from = some z → (∀ (H : Heap) (locs : List Loc) (ls : Array Slot), va_P D vwCl [oX6 w w_undos w_seed w_entries, aJ cJ (w 1) 3420 w_w, aI cI (w 7) 12 z.2, aJ cJ (w 8) 12 w_heldSort, aJ cJ (w 9) 12 w_heldNumber] H → va_S A s.heap H locs → lv_has ls 7 [(0, .ref (w 0)), (1, .int v1), (2, .int v2), (3, .int v3), (4, .int z.1), (5, .int v5)] → W p l e { frames := 3, cells := 0, slots := 0, locals := 66 } s m args below meth c H locs 0 0 (MQ below (QwI D zr (fun u => [oX6 w u.2.1 w_seed w_entries, aJ cJ (w 1) 3420 u.1, aI cI (w 7) 12 u.2.2.1, aJ cJ (w 8) 12 u.2.2.2.1, aJ cJ (w 9) 12 u.2.2.2.2]) A) args s 0 0 A) (F0 m 141 ls [])) → W p l e { frames := 3, cells := 0, slots := 0, locals := 66 } s m args below meth c H locs 0 0 (MQ below (QwI D zr (fun u => [oX6 w u.2.1 w_seed w_entries, aJ cJ (w 1) 3420 u.1, aI cI (w 7) 12 u.2.2.1, aJ cJ (w 8) 12 u.2.2.2.1, aJ cJ (w 9) 12 u.2.2.2.2]) A) args s 0 0 A) (F0 m 88 ls []) := by
    intro n
    induction n with
    | zero =>
      intro v1 v2 v3 v4 v5 v6 w_w w_undos w_from w_heldSort w_heldNumber H locs ls z hP hS hl hf
      exact absurd (show (none : Option (Int32 × (Nat → Int32))) = some z from hf) (fun h => by cases h)
    | succ n ih =>
      intro v1 v2 v3 v4 v5 v6 w_w w_undos w_from w_heldSort w_heldNumber H locs ls z hP hS hl hf K
      rw [L_X6_figure_88] at hf
      refine lv_iload hx hb dX6_figure_88 (lv_at hl 6 rfl) ?_
      refine lv_iload_n hx hb dX6_figure_90 rfl (lv_at hl 3 rfl) ?_
      refine lv_icmp_ge (tgt := 141) hx hb dX6_figure_91 (by decide) (fun c14 => ?_) (fun c14 => ?_)
      · replace hf := oif c14 hf
        have hf := Option.some.inj hf
        subst hf
        exact K H locs ls hP hS (lv_sub hl [0, 1, 2, 3, 4, 5] rfl)
      · replace hf := oel c14 hf
        refine lv_aload_n hx hb dX6_figure_94 rfl (lv_at hl 0 rfl) ?_
        refine va_get (D := D) (ci := 6) (v := .ref (w 1)) (C := RX6) (T := TX6) (N := 12) hx hb hts hI_X6 hown hK hP 0 rfl rfl 0 (by decide) gf7 (fun _ h9 => h9) rfl dX6_figure_95 ?_
        refine lv_bipush (v := 84) hx hb dX6_figure_98 (by decide) ?_
        refine lv_iload_n hx hb dX6_figure_100 rfl (lv_at hl 1 rfl) ?_
        refine lv_iload hx hb dX6_figure_101 (lv_at hl 6 rfl) ?_
        obtain ⟨z15, hz15, hf⟩ := obd hf
        refine kI (runS (As := [.int v1, .int v6]) (rest := [.int 84, .ref (w 1)]) C0 hE hAb hP ((hD.weaken (fun _ _ _ h9 => hAb _ h9)).addr rfl) hS [] (wc := []) (by decide) rfl (c_X6_at l D cI cJ cZ cQ bs H.size v1 v6 z15 hz15) (va_cwS 2 hts gX6_figure_X6_at rfl rfl rfl (by decide +kernel) ⟨Nat.le_of_ble_eq_true rfl, Nat.le_of_ble_eq_true rfl⟩) rfl hl.1 rfl (Nat.le_of_ble_eq_true rfl) dX6_figure_103 ⟨Nat.le_of_ble_eq_true rfl, Nat.le_of_ble_eq_true rfl⟩) hS hP (fun H locs hP hS => ?_)
        refine lv_iadd hx hb dX6_figure_106 ?_
        obtain ⟨h16, hf⟩ := ogd hf
        refine va_lald hx hb hK hP 1 1 rfl rfl (ib_in h16) dX6_figure_107 ?_
        refine lv_iconst (v := 3) hx hb dX6_figure_108 (by decide) ?_
        refine lv_iload_n hx hb dX6_figure_109 rfl (lv_at hl 2 rfl) ?_
        refine lv_imul hx hb dX6_figure_110 ?_
        refine lv_lshr (v := ((w_w ((84 : Int32) + z15).toNatClampNeg) >>> (Int32.toInt64 ((3 : Int32) * v2) &&& 63))) hx hb dX6_figure_111 rfl ?_
        refine lv_ldc2 hx hb hown gk207 dX6_figure_112 ?_
        refine lv_land hx hb dX6_figure_115 ?_
        refine lv_iload hx hb dX6_figure_116 (lv_at hl 5 rfl) ?_
        refine lv_i2l (v := (Int32.toInt64 v5)) hx hb dX6_figure_118 rfl ?_
        refine W.lcmp hx hb dX6_figure_119 ?_
        refine lv_if_ne (tgt := 135) hx hb dX6_figure_120 (by decide) (fun c17 => ?_) (fun c17 => ?_)
        · replace hf := oel c17 hf
          obtain ⟨y18, ey18⟩ : ∃ y : Int32, y = v6 + 1 := ⟨_, rfl⟩
          replace hf := onm ey18 hf
          refine lv_iinc (v := y18) (lv' := [(6, .int y18), (0, .ref (w 0)), (1, .int v1), (2, .int v2), (3, .int v3), (4, .int v4), (5, .int v5)]) hx hb dX6_figure_135 hl (k := 6) rfl (by rw [ey18]; rfl) (by decide) rfl (fun ls hl => ?_)
          refine lv_goto (tgt := 88) hx hb dX6_figure_138 (by decide) ?_
          exact ih v1 v2 v3 v4 v5 y18 w_w w_undos w_from w_heldSort w_heldNumber H locs ls z hP hS (lv_sub hl [1, 2, 3, 4, 5, 6, 0] rfl) hf K
        · replace hf := oif c17 hf
          refine lv_aload_n hx hb dX6_figure_123 rfl (lv_at hl 0 rfl) ?_
          refine va_get (D := D) (ci := 6) (v := .ref (w 7)) (C := RX6) (T := TX6) (N := 12) hx hb hts hI_X6 hown hK hP 0 rfl rfl 9 (by decide) gf30 (fun _ h9 => h9) rfl dX6_figure_124 ?_
          refine lv_iload hx hb dX6_figure_127 (lv_at hl 4 rfl) ?_
          refine lv_iload hx hb dX6_figure_129 (lv_at hl 6 rfl) ?_
          obtain ⟨h19, hf⟩ := ogd hf
          refine va_iast hx hb hK hP (hD.addr rfl) hS 2 0 rfl rfl (ib_in h19) dX6_figure_131 (fun H locs hP _ hS => ?_)
          obtain ⟨h19a, eh19a⟩ : ∃ y : Nat → Int32, y = upd w_from v4.toNatClampNeg v6 := ⟨_, rfl⟩
          replace hf := onm eh19a hf
          have hP : va_P D vwCl [oX6 w w_undos w_seed w_entries, aJ cJ (w 1) 3420 w_w, aI cI (w 7) 12 h19a, aJ cJ (w 8) 12 w_heldSort, aJ cJ (w 9) 12 w_heldNumber] H := by rw [eh19a]; exact hP
          obtain ⟨y20, ey20⟩ : ∃ y : Int32, y = v4 + 1 := ⟨_, rfl⟩
          replace hf := onm ey20 hf
          refine lv_iinc (v := y20) (lv' := [(4, .int y20), (0, .ref (w 0)), (1, .int v1), (2, .int v2), (3, .int v3), (5, .int v5), (6, .int v6)]) hx hb dX6_figure_132 hl (k := 4) rfl (by rw [ey20]; rfl) (by decide) rfl (fun ls hl => ?_)
          obtain ⟨y21, ey21⟩ : ∃ y : Int32, y = v6 + 1 := ⟨_, rfl⟩
          replace hf := onm ey21 hf
          refine lv_iinc (v := y21) (lv' := [(6, .int y21), (4, .int y20), (0, .ref (w 0)), (1, .int v1), (2, .int v2), (3, .int v3), (5, .int v5)]) hx hb dX6_figure_135 hl (k := 6) rfl (by rw [ey21]; rfl) (by decide) rfl (fun ls hl => ?_)
          refine lv_goto (tgt := 88) hx hb dX6_figure_138 (by decide) ?_
          exact ih v1 v2 v3 y20 v5 y21 w_w w_undos h19a w_heldSort w_heldNumber H locs ls z hP hS (lv_sub hl [2, 3, 4, 5, 1, 6, 0] rfl) hf K
  have W78 : ∀ (n : Nat) (v1 : Int32) (v2 : Int32) (v3 : Int32) (v4 : Int32) (v5 : Int32) (w_w : Nat → Int64) (w_undos : Int32) (w_from : Nat → Int32) (w_heldSort : Nat → Int64) (w_heldNumber : Nat → Int64) (H : Heap) (locs : List Loc) (ls : Array Slot) (z : (Nat → Int32)), va_P D vwCl [oX6 w w_undos w_seed w_entries, aJ cJ (w 1) 3420 w_w, aI cI (w 7) 12 w_from, aJ cJ (w 8) 12 w_heldSort, aJ cJ (w 9) 12 w_heldNumber] H → va_S A s.heap H locs → lv_has ls 7 [(0, .ref (w 0)), (1, .int v1), (2, .int v2), (3, .int v3), (4, .int v4), (5, .int v5)] → L_X6_figure_78 w_w v1 v2 v3 n v4 v5 w_from = some z → (∀ (H : Heap) (locs : List Loc) (ls : Array Slot), va_P D vwCl [oX6 w w_undos w_seed w_entries, aJ cJ (w 1) 3420 w_w, aI cI (w 7) 12 z, aJ cJ (w 8) 12 w_heldSort, aJ cJ (w 9) 12 w_heldNumber] H → va_S A s.heap H locs → lv_has ls 7 [(0, .ref (w 0)), (3, .int v3)] → W p l e { frames := 3, cells := 0, slots := 0, locals := 66 } s m args below meth c H locs 0 0 (MQ below (QwI D zr (fun u => [oX6 w u.2.1 w_seed w_entries, aJ cJ (w 1) 3420 u.1, aI cI (w 7) 12 u.2.2.1, aJ cJ (w 8) 12 u.2.2.2.1, aJ cJ (w 9) 12 u.2.2.2.2]) A) args s 0 0 A) (F0 m 147 ls [])) → W p l e { frames := 3, cells := 0, slots := 0, locals := 66 } s m args below meth c H locs 0 0 (MQ below (QwI D zr (fun u => [oX6 w u.2.1 w_seed w_entries, aJ cJ (w 1) 3420 u.1, aI cI (w 7) 12 u.2.2.1, aJ cJ (w 8) 12 u.2.2.2.1, aJ cJ (w 9) 12 u.2.2.2.2]) A) args s 0 0 A) (F0 m 78 ls []) := by
    intro n
    induction n with
    | zero =>
      intro v1 v2 v3 v4 v5 w_w w_undos w_from w_heldSort w_heldNumber H locs ls z hP hS hl hf
      exact absurd (show (none : Option ((Nat → Int32))) = some z from hf) (fun h => by cases h)
    | succ n ih =>
      intro v1 v2 v3 v4 v5 w_w w_undos w_from w_heldSort w_heldNumber H locs ls z hP hS hl hf K
      rw [L_X6_figure_78] at hf
      refine lv_iload hx hb dX6_figure_78 (lv_at hl 5 rfl) ?_
      refine lv_bipush (v := 8) hx hb dX6_figure_80 (by decide) ?_
      refine lv_icmp_ge (tgt := 147) hx hb dX6_figure_82 (by decide) (fun c13 => ?_) (fun c13 => ?_)
      · replace hf := oif c13 hf
        have hf := Option.some.inj hf
        subst hf
        exact K H locs ls hP hS (lv_sub hl [0, 3] rfl)
      · replace hf := oel c13 hf
        refine lv_iconst (v := 0) hx hb dX6_figure_85 (by decide) ?_
        refine lv_istore (lv' := [(6, .int 0), (0, .ref (w 0)), (1, .int v1), (2, .int v2), (3, .int v3), (4, .int v4), (5, .int v5)]) hx hb dX6_figure_86 hl (by decide) rfl (fun ls hl => ?_)
        obtain ⟨z22, hz22, hf⟩ := obd hf
        refine W88 4000 v1 v2 v3 v4 v5 0 w_w w_undos w_from w_heldSort w_heldNumber H locs ls z22 hP hS (lv_sub hl [1, 2, 3, 4, 5, 6, 0] rfl) hz22 (fun H locs ls hP hS hl => ?_)
        obtain ⟨y23, ey23⟩ : ∃ y : Int32, y = v5 + 1 := ⟨_, rfl⟩
        replace hf := onm ey23 hf
        refine lv_iinc (v := y23) (lv' := [(5, .int y23), (0, .ref (w 0)), (1, .int v1), (2, .int v2), (3, .int v3), (4, .int z22.1)]) hx hb dX6_figure_141 hl (k := 5) rfl (by rw [ey23]; rfl) (by decide) rfl (fun ls hl => ?_)
        refine lv_goto (tgt := 78) hx hb dX6_figure_144 (by decide) ?_
        exact ih v1 v2 v3 z22.1 y23 w_w w_undos z22.2 w_heldSort w_heldNumber H locs ls z hP hS (lv_sub hl [1, 2, 3, 4, 5, 0] rfl) hf K
  unfold f_X6_figure at hf
  have go : ∀ (H : Heap) (locs : List Loc), va_P D vwCl [oX6 w w_undos w_seed w_entries, aJ cJ (w 1) 3420 w_w, aI cI (w 7) 12 w_from, aJ cJ (w 8) 12 w_heldSort, aJ cJ (w 9) 12 w_heldNumber] H → va_S A s.heap H locs → W p l e { frames := 3, cells := 0, slots := 0, locals := 66 } s m args below meth c H locs 0 0 (MQ below (QwI D zr (fun u => [oX6 w u.2.1 w_seed w_entries, aJ cJ (w 1) 3420 u.1, aI cI (w 7) 12 u.2.2.1, aJ cJ (w 8) 12 u.2.2.2.1, aJ cJ (w 9) 12 u.2.2.2.2]) A) args s 0 0 A) (F0 m 0 ls []) := by
    intro H locs hP hS
    refine lv_iload_n hx hb dX6_figure_0 rfl (lv_at hl 1 rfl) ?_
    obtain ⟨z1, hz1, hf⟩ := obd hf
    refine kZ (runS (As := [.int x1]) (rest := []) C0 hE hAb hP ((hD.weaken (fun _ _ _ h9 => hAb _ h9)).addr rfl) hS [] (wc := []) (by decide) rfl (c_X6_isSlot l D cI cJ cZ cQ bs H.size x1 z1 hz1) (va_cwS 1 hts gX6_figure_X6_isSlot rfl rfl rfl (by decide +kernel) ⟨Nat.le_of_ble_eq_true rfl, Nat.le_of_ble_eq_true rfl⟩) rfl hl.1 rfl (Nat.le_of_ble_eq_true rfl) dX6_figure_1 ⟨Nat.le_of_ble_eq_true rfl, Nat.le_of_ble_eq_true rfl⟩) hS hP (fun bz1 H locs hP hS => ?_)
    refine lv_if_ne (tgt := 10) hx hb dX6_figure_4 (by decide) (fun c2 => ?_) (fun c2 => ?_)
    · replace hf := oel c2 hf
      refine lv_iload_n hx hb dX6_figure_10 rfl (lv_at hl 2 rfl) ?_
      refine lv_i2l (v := (Int32.toInt64 x2)) hx hb dX6_figure_11 rfl ?_
      refine lv_lconst (v := 0) hx hb dX6_figure_12 (by decide) ?_
      refine lv_ldc2 hx hb hown gk261 dX6_figure_13 ?_
      obtain ⟨z3, hz3, hf⟩ := obd hf
      refine kZ (runS (As := [.long (Int32.toInt64 x2), .long 0, .long 20]) (rest := []) C0 hE hAb hP ((hD.weaken (fun _ _ _ h9 => hAb _ h9)).addr rfl) hS [] (wc := []) (by decide) rfl (c_X6_in l D cI cJ cZ cQ bs H.size (Int32.toInt64 x2) 0 20 z3 hz3) (va_cwS 3 hts gX6_figure_X6_in rfl rfl rfl (by decide +kernel) ⟨Nat.le_of_ble_eq_true rfl, Nat.le_of_ble_eq_true rfl⟩) rfl hl.1 rfl (Nat.le_of_ble_eq_true rfl) dX6_figure_16 ⟨Nat.le_of_ble_eq_true rfl, Nat.le_of_ble_eq_true rfl⟩) hS hP (fun bz3 H locs hP hS => ?_)
      refine lv_if_ne (tgt := 25) hx hb dX6_figure_19 (by decide) (fun c4 => ?_) (fun c4 => ?_)
      · replace hf := oel c4 hf
        refine lv_aload_n hx hb dX6_figure_25 rfl (lv_at hl 0 rfl) ?_
        obtain ⟨z5, hz5, hf⟩ := obd hf
        refine kI (runV (As := []) (rest := []) C0 hE hAb hP ((hD.weaken (fun _ _ _ h9 => hAb _ h9)).addr rfl) hS [0, 1] (wc := [oX6 w w_undos w_seed w_entries, aJ cJ (w 1) 3420 w_w]) (by decide) rfl 0 rfl rfl (c_X6_places l D cI cJ cZ cQ bs H.size w w_undos w_seed w_entries w_w z5 hz5) (cwV 0 hts gX6_figure_X6_places rfl rfl rfl (by decide +kernel) ⟨Nat.le_of_ble_eq_true rfl, Nat.le_of_ble_eq_true rfl⟩) rfl hl.1 rfl (Nat.le_of_ble_eq_true rfl) dX6_figure_26 ⟨Nat.le_of_ble_eq_true rfl, Nat.le_of_ble_eq_true rfl⟩) hS hP (fun H locs hP hS => ?_)
        refine lv_istore_n (lv' := [(3, .int z5), (0, .ref (w 0)), (1, .int x1), (2, .int x2)]) hx hb dX6_figure_29 rfl hl (by decide) rfl (fun ls hl => ?_)
        refine lv_iload_n hx hb dX6_figure_30 rfl (lv_at hl 0 rfl) ?_
        refine lv_iconst (v := (-1)) hx hb dX6_figure_31 (by decide) ?_
        refine lv_icmp_eq (tgt := 65) hx hb dX6_figure_32 (by decide) (fun c6 => ?_) (fun c6 => ?_)
        · replace hf := oif c6 hf
          refine lv_ldc hx hb hown gk246 dX6_figure_65 ?_
          have er := Option.some.inj hf
          exact rwI (wm := (fun u => [oX6 w u.2.1 w_seed w_entries, aJ cJ (w 1) 3420 u.1, aI cI (w 7) 12 u.2.2.1, aJ cJ (w 8) 12 u.2.2.2.1, aJ cJ (w 9) 12 u.2.2.2.2])) hx hb hr hS dX6_figure_67 hP er hlocks
        · replace hf := oel c6 hf
          refine lv_aload_n hx hb dX6_figure_35 rfl (lv_at hl 1 rfl) ?_
          refine lv_iload_n hx hb dX6_figure_36 rfl (lv_at hl 2 rfl) ?_
          obtain ⟨z7, hz7, hf⟩ := obd hf
          refine kZ (runV (As := [.int x1]) (rest := []) C0 hE hAb hP ((hD.weaken (fun _ _ _ h9 => hAb _ h9)).addr rfl) hS [0, 1] (wc := [oX6 w w_undos w_seed w_entries, aJ cJ (w 1) 3420 w_w]) (by decide) rfl 0 rfl rfl (c_X6_isRow l D cI cJ cZ cQ bs H.size w w_undos w_seed w_entries w_w x1 z7 hz7) (cwV 1 hts gX6_figure_X6_isRow rfl rfl rfl (by decide +kernel) ⟨Nat.le_of_ble_eq_true rfl, Nat.le_of_ble_eq_true rfl⟩) rfl hl.1 rfl (Nat.le_of_ble_eq_true rfl) dX6_figure_37 ⟨Nat.le_of_ble_eq_true rfl, Nat.le_of_ble_eq_true rfl⟩) hS hP (fun bz7 H locs hP hS => ?_)
          refine lv_if_eq (tgt := 65) hx hb dX6_figure_40 (by decide) (fun c8 => ?_) (fun c8 => ?_)
          · replace hf := oif c8 hf
            refine lv_ldc hx hb hown gk246 dX6_figure_65 ?_
            have er := Option.some.inj hf
            exact rwI (wm := (fun u => [oX6 w u.2.1 w_seed w_entries, aJ cJ (w 1) 3420 u.1, aI cI (w 7) 12 u.2.2.1, aJ cJ (w 8) 12 u.2.2.2.1, aJ cJ (w 9) 12 u.2.2.2.2])) hx hb hr hS dX6_figure_67 hP er hlocks
          · replace hf := oel c8 hf
            refine lv_aload_n hx hb dX6_figure_43 rfl (lv_at hl 1 rfl) ?_
            refine lv_iload_n hx hb dX6_figure_44 rfl (lv_at hl 2 rfl) ?_
            obtain ⟨z9, hz9, hf⟩ := obd hf
            refine kI (runV (As := [.int x1]) (rest := []) C0 hE hAb hP ((hD.weaken (fun _ _ _ h9 => hAb _ h9)).addr rfl) hS [0, 1] (wc := [oX6 w w_undos w_seed w_entries, aJ cJ (w 1) 3420 w_w]) (by decide) rfl 0 rfl rfl (c_X6_many l D cI cJ cZ cQ bs H.size w w_undos w_seed w_entries w_w x1 z9 hz9) (cwV 1 hts gX6_figure_X6_many rfl rfl rfl (by decide +kernel) ⟨Nat.le_of_ble_eq_true rfl, Nat.le_of_ble_eq_true rfl⟩) rfl hl.1 rfl (Nat.le_of_ble_eq_true rfl) dX6_figure_45 ⟨Nat.le_of_ble_eq_true rfl, Nat.le_of_ble_eq_true rfl⟩) hS hP (fun H locs hP hS => ?_)
            refine lv_iload_n hx hb dX6_figure_48 rfl (lv_at hl 0 rfl) ?_
            refine lv_icmp_ne (tgt := 65) hx hb dX6_figure_49 (by decide) (fun c10 => ?_) (fun c10 => ?_)
            · replace hf := oel c10 hf
              refine lv_ldc hx hb hown gk246 dX6_figure_65 ?_
              have er := Option.some.inj hf
              exact rwI (wm := (fun u => [oX6 w u.2.1 w_seed w_entries, aJ cJ (w 1) 3420 u.1, aI cI (w 7) 12 u.2.2.1, aJ cJ (w 8) 12 u.2.2.2.1, aJ cJ (w 9) 12 u.2.2.2.2])) hx hb hr hS dX6_figure_67 hP er hlocks
            · replace hf := oif c10 hf
              refine lv_iload_n hx hb dX6_figure_52 rfl (lv_at hl 0 rfl) ?_
              refine lv_if_le (tgt := 68) hx hb dX6_figure_53 (by decide) (fun c11 => ?_) (fun c11 => ?_)
              · replace hf := oif c11 hf
                refine lv_aload_n hx hb dX6_figure_68 rfl (lv_at hl 1 rfl) ?_
                obtain ⟨z12, hz12, hf⟩ := obd hf
                refine kwV (runV (As := []) (rest := []) C0 hE hAb hP ((hD.weaken (fun _ _ _ h9 => hAb _ h9)).addr rfl) hS [0, 1] (wc := [oX6 w w_undos w_seed w_entries, aJ cJ (w 1) 3420 w_w]) (by decide) rfl 0 rfl rfl (c_X6_minds l D cI cJ cZ cQ bs H.size w w_undos w_seed w_entries w_w z12 hz12) (cwV 0 hts gX6_figure_X6_minds rfl rfl rfl (by decide +kernel) ⟨Nat.le_of_ble_eq_true rfl, Nat.le_of_ble_eq_true rfl⟩) rfl hl.1 rfl (Nat.le_of_ble_eq_true rfl) dX6_figure_69 ⟨Nat.le_of_ble_eq_true rfl, Nat.le_of_ble_eq_true rfl⟩) hS hP (hD.addr rfl) hA [0, 1] rfl rfl (ws' := [oX6 w z12.2 w_seed w_entries, aJ cJ (w 1) 3420 z12.1, aI cI (w 7) 12 w_from, aJ cJ (w 8) 12 w_heldSort, aJ cJ (w 9) 12 w_heldNumber]) rfl rfl (fun H locs hP hS => ?_)
                refine lv_iconst (v := 0) hx hb dX6_figure_72 (by decide) ?_
                refine lv_istore (lv' := [(4, .int 0), (3, .int z5), (0, .ref (w 0)), (1, .int x1), (2, .int x2)]) hx hb dX6_figure_73 hl (by decide) rfl (fun ls hl => ?_)
                refine lv_iconst (v := 0) hx hb dX6_figure_75 (by decide) ?_
                refine lv_istore (lv' := [(5, .int 0), (4, .int 0), (3, .int z5), (0, .ref (w 0)), (1, .int x1), (2, .int x2)]) hx hb dX6_figure_76 hl (by decide) rfl (fun ls hl => ?_)
                obtain ⟨z24, hz24, hf⟩ := obd hf
                refine W78 4000 x1 x2 z5 0 0 z12.1 z12.2 w_from w_heldSort w_heldNumber H locs ls z24 hP hS (lv_sub hl [3, 4, 5, 2, 1, 0] rfl) hz24 (fun H locs ls hP hS hl => ?_)
                refine lv_aload_n hx hb dX6_figure_147 rfl (lv_at hl 0 rfl) ?_
                refine lv_iload_n hx hb dX6_figure_148 rfl (lv_at hl 1 rfl) ?_
                obtain ⟨z25, hz25, hf⟩ := obd hf
                refine kwI (runV (As := [.int z5]) (rest := []) C0 hE hAb hP ((hD.weaken (fun _ _ _ h9 => hAb _ h9)).addr rfl) hS [0, 1, 2, 3, 4] (wc := [oX6 w z12.2 w_seed w_entries, aJ cJ (w 1) 3420 z12.1, aI cI (w 7) 12 z24, aJ cJ (w 8) 12 w_heldSort, aJ cJ (w 9) 12 w_heldNumber]) (by decide) rfl 0 rfl rfl (c_X6_moves l D cI cJ cZ cQ bs H.size w z12.2 w_seed w_entries z12.1 z24 w_heldSort w_heldNumber z5 z25 hz25) (cwV 1 hts gX6_figure_X6_moves rfl rfl rfl (by decide +kernel) ⟨Nat.le_of_ble_eq_true rfl, Nat.le_of_ble_eq_true rfl⟩) rfl hl.1 rfl (Nat.le_of_ble_eq_true rfl) dX6_figure_149 ⟨Nat.le_of_ble_eq_true rfl, Nat.le_of_ble_eq_true rfl⟩) hS hP (hD.addr rfl) hA [0, 1, 2, 3, 4] rfl rfl (ws' := [oX6 w z12.2 w_seed w_entries, aJ cJ (w 1) 3420 z25.2.1, aI cI (w 7) 12 z24, aJ cJ (w 8) 12 z25.2.2.1, aJ cJ (w 9) 12 z25.2.2.2]) rfl rfl (fun H locs hP hS => ?_)
                have er := Option.some.inj hf
                exact rwI (wm := (fun u => [oX6 w u.2.1 w_seed w_entries, aJ cJ (w 1) 3420 u.1, aI cI (w 7) 12 u.2.2.1, aJ cJ (w 8) 12 u.2.2.2.1, aJ cJ (w 9) 12 u.2.2.2.2])) hx hb hr hS dX6_figure_152 hP er hlocks
              · replace hf := oel c11 hf
                refine lv_aload_n hx hb dX6_figure_56 rfl (lv_at hl 1 rfl) ?_
                refine lv_iload_n hx hb dX6_figure_57 rfl (lv_at hl 2 rfl) ?_
                refine lv_iconst (v := 5) hx hb dX6_figure_58 (by decide) ?_
                obtain ⟨z26, hz26, hf⟩ := obd hf
                refine kZ (runV (As := [.int x1, .int 5]) (rest := []) C0 hE hAb hP ((hD.weaken (fun _ _ _ h9 => hAb _ h9)).addr rfl) hS [0, 1] (wc := [oX6 w w_undos w_seed w_entries, aJ cJ (w 1) 3420 w_w]) (by decide) rfl 0 rfl rfl (c_X6_reads l D cI cJ cZ cQ bs H.size w w_undos w_seed w_entries w_w x1 5 z26 hz26) (cwV 2 hts gX6_figure_X6_reads rfl rfl rfl (by decide +kernel) ⟨Nat.le_of_ble_eq_true rfl, Nat.le_of_ble_eq_true rfl⟩) rfl hl.1 rfl (Nat.le_of_ble_eq_true rfl) dX6_figure_59 ⟨Nat.le_of_ble_eq_true rfl, Nat.le_of_ble_eq_true rfl⟩) hS hP (fun bz26 H locs hP hS => ?_)
                refine lv_if_ne (tgt := 68) hx hb dX6_figure_62 (by decide) (fun c27 => ?_) (fun c27 => ?_)
                · replace hf := oel c27 hf
                  refine lv_aload_n hx hb dX6_figure_68 rfl (lv_at hl 1 rfl) ?_
                  obtain ⟨z28, hz28, hf⟩ := obd hf
                  refine kwV (runV (As := []) (rest := []) C0 hE hAb hP ((hD.weaken (fun _ _ _ h9 => hAb _ h9)).addr rfl) hS [0, 1] (wc := [oX6 w w_undos w_seed w_entries, aJ cJ (w 1) 3420 w_w]) (by decide) rfl 0 rfl rfl (c_X6_minds l D cI cJ cZ cQ bs H.size w w_undos w_seed w_entries w_w z28 hz28) (cwV 0 hts gX6_figure_X6_minds rfl rfl rfl (by decide +kernel) ⟨Nat.le_of_ble_eq_true rfl, Nat.le_of_ble_eq_true rfl⟩) rfl hl.1 rfl (Nat.le_of_ble_eq_true rfl) dX6_figure_69 ⟨Nat.le_of_ble_eq_true rfl, Nat.le_of_ble_eq_true rfl⟩) hS hP (hD.addr rfl) hA [0, 1] rfl rfl (ws' := [oX6 w z28.2 w_seed w_entries, aJ cJ (w 1) 3420 z28.1, aI cI (w 7) 12 w_from, aJ cJ (w 8) 12 w_heldSort, aJ cJ (w 9) 12 w_heldNumber]) rfl rfl (fun H locs hP hS => ?_)
                  refine lv_iconst (v := 0) hx hb dX6_figure_72 (by decide) ?_
                  refine lv_istore (lv' := [(4, .int 0), (3, .int z5), (0, .ref (w 0)), (1, .int x1), (2, .int x2)]) hx hb dX6_figure_73 hl (by decide) rfl (fun ls hl => ?_)
                  refine lv_iconst (v := 0) hx hb dX6_figure_75 (by decide) ?_
                  refine lv_istore (lv' := [(5, .int 0), (4, .int 0), (3, .int z5), (0, .ref (w 0)), (1, .int x1), (2, .int x2)]) hx hb dX6_figure_76 hl (by decide) rfl (fun ls hl => ?_)
                  obtain ⟨z29, hz29, hf⟩ := obd hf
                  refine W78 4000 x1 x2 z5 0 0 z28.1 z28.2 w_from w_heldSort w_heldNumber H locs ls z29 hP hS (lv_sub hl [3, 4, 5, 2, 1, 0] rfl) hz29 (fun H locs ls hP hS hl => ?_)
                  refine lv_aload_n hx hb dX6_figure_147 rfl (lv_at hl 0 rfl) ?_
                  refine lv_iload_n hx hb dX6_figure_148 rfl (lv_at hl 1 rfl) ?_
                  obtain ⟨z30, hz30, hf⟩ := obd hf
                  refine kwI (runV (As := [.int z5]) (rest := []) C0 hE hAb hP ((hD.weaken (fun _ _ _ h9 => hAb _ h9)).addr rfl) hS [0, 1, 2, 3, 4] (wc := [oX6 w z28.2 w_seed w_entries, aJ cJ (w 1) 3420 z28.1, aI cI (w 7) 12 z29, aJ cJ (w 8) 12 w_heldSort, aJ cJ (w 9) 12 w_heldNumber]) (by decide) rfl 0 rfl rfl (c_X6_moves l D cI cJ cZ cQ bs H.size w z28.2 w_seed w_entries z28.1 z29 w_heldSort w_heldNumber z5 z30 hz30) (cwV 1 hts gX6_figure_X6_moves rfl rfl rfl (by decide +kernel) ⟨Nat.le_of_ble_eq_true rfl, Nat.le_of_ble_eq_true rfl⟩) rfl hl.1 rfl (Nat.le_of_ble_eq_true rfl) dX6_figure_149 ⟨Nat.le_of_ble_eq_true rfl, Nat.le_of_ble_eq_true rfl⟩) hS hP (hD.addr rfl) hA [0, 1, 2, 3, 4] rfl rfl (ws' := [oX6 w z28.2 w_seed w_entries, aJ cJ (w 1) 3420 z30.2.1, aI cI (w 7) 12 z29, aJ cJ (w 8) 12 z30.2.2.1, aJ cJ (w 9) 12 z30.2.2.2]) rfl rfl (fun H locs hP hS => ?_)
                  have er := Option.some.inj hf
                  exact rwI (wm := (fun u => [oX6 w u.2.1 w_seed w_entries, aJ cJ (w 1) 3420 u.1, aI cI (w 7) 12 u.2.2.1, aJ cJ (w 8) 12 u.2.2.2.1, aJ cJ (w 9) 12 u.2.2.2.2])) hx hb hr hS dX6_figure_152 hP er hlocks
                · replace hf := oif c27 hf
                  refine lv_ldc hx hb hown gk246 dX6_figure_65 ?_
                  have er := Option.some.inj hf
                  exact rwI (wm := (fun u => [oX6 w u.2.1 w_seed w_entries, aJ cJ (w 1) 3420 u.1, aI cI (w 7) 12 u.2.2.1, aJ cJ (w 8) 12 u.2.2.2.1, aJ cJ (w 9) 12 u.2.2.2.2])) hx hb hr hS dX6_figure_67 hP er hlocks
      · replace hf := oif c4 hf
        refine lv_ldc hx hb hown gk192 dX6_figure_22 ?_
        have er := Option.some.inj hf
        exact rwI (wm := (fun u => [oX6 w u.2.1 w_seed w_entries, aJ cJ (w 1) 3420 u.1, aI cI (w 7) 12 u.2.2.1, aJ cJ (w 8) 12 u.2.2.2.1, aJ cJ (w 9) 12 u.2.2.2.2])) hx hb hr hS dX6_figure_24 hP er hlocks
    · replace hf := oif c2 hf
      refine lv_ldc hx hb hown gk198 dX6_figure_7 ?_
      have er := Option.some.inj hf
      exact rwI (wm := (fun u => [oX6 w u.2.1 w_seed w_entries, aJ cJ (w 1) 3420 u.1, aI cI (w 7) 12 u.2.2.1, aJ cJ (w 8) 12 u.2.2.2.1, aJ cJ (w 9) 12 u.2.2.2.2])) hx hb hr hS dX6_figure_9 hP er hlocks
  exact go s.heap [] hP hS
noncomputable def L_X6_deal_47 (v1 : Int32) (v2 : Int32) : Nat → Int32 → Int32 → (Nat → Int32) → Option (Int32 × (Nat → Int32))
  | 0, _, _, _ => none
  | n + 1, v3, v5, w_from => if v2 ≤ v5 then (some ((v3, w_from))) else (if ib v3 12 = true then ((some (upd w_from v3.toNatClampNeg v5 : Nat → Int32)).bind (fun h8a => (some (v3 + 1 : Int32)).bind (fun y9 => L_X6_deal_47 v1 v2 n y9 (v5 + v1) h8a))) else none)
noncomputable def L_X6_deal_37 (v1 : Int32) (v2 : Int32) : Nat → Int32 → Int32 → (Nat → Int32) → Option ((Nat → Int32))
  | 0, _, _, _ => none
  | n + 1, v3, v4, w_from => if v1 ≤ v4 then (some (w_from)) else ((L_X6_deal_47 v1 v2 4000 v3 v4 w_from).bind (fun z10 => (some (v4 + 1 : Int32)).bind (fun y11 => L_X6_deal_37 v1 v2 n z10.1 y11 z10.2)))
noncomputable def f_X6_deal (w_w : Nat → Int64) (w_undos : Int32) (w_from : Nat → Int32) (w_heldSort : Nat → Int64) (w_heldNumber : Nat → Int64) (x1 : Int32) : Option (Int32 × (Nat → Int64) × Int32 × (Nat → Int32) × (Nat → Int64) × (Nat → Int64)) := (f_X6_in (Int32.toInt64 x1) 1 12).bind (fun z1 => if z1 = 0 then (some (((-1000000002), w_w, w_undos, w_from, w_heldSort, w_heldNumber))) else ((f_X6_places w_w).bind (fun z3 => if z3 = (-1) then (some (((-1000000003), w_w, w_undos, w_from, w_heldSort, w_heldNumber))) else ((f_X6_minds w_w w_undos).bind (fun z5 => (L_X6_deal_37 x1 z3 4000 0 0 w_from).bind (fun z12 => (f_X6_moves z5.1 z12 w_heldSort w_heldNumber z3).bind (fun z13 => some ((z13.1, z13.2.1, z5.2, z12, z13.2.2.1, z13.2.2.2)))))))))
set_option maxHeartbeats 4000000 in
set_option maxRecDepth 100000 in
theorem c_X6_deal (l : Launch) (D : va_G) (cI cJ cZ cQ : ClassId) (bs sz : Nat) (w : Nat → Nat) (w_undos : Int32) (w_seed : Int32) (w_entries : Int32) (w_w : Nat → Int64) (w_from : Nat → Int32) (w_heldSort : Nat → Int64) (w_heldNumber : Nat → Int64) (x1 : Int32) (zr : Int32 × (Nat → Int64) × Int32 × (Nat → Int32) × (Nat → Int64) × (Nat → Int64)) (hf : f_X6_deal w_w w_undos w_from w_heldSort w_heldNumber x1 = some zr) : Met l yX6_deal wsX6_deal { frames := 3, cells := 0, slots := 0, locals := 66 } (va_Pc [.ref (w 0), .int x1] (Pr D cI cJ cZ cQ bs sz [oX6 w w_undos w_seed w_entries, aJ cJ (w 1) 3420 w_w, aI cI (w 7) 12 w_from, aJ cJ (w 8) 12 w_heldSort, aJ cJ (w 9) 12 w_heldNumber])) (QwI D zr (fun u => [oX6 w u.2.1 w_seed w_entries, aJ cJ (w 1) 3420 u.1, aI cI (w 7) 12 u.2.2.1, aJ cJ (w 8) 12 u.2.2.2.1, aJ cJ (w 9) 12 u.2.2.2.2]) (va_A [oX6 w w_undos w_seed w_entries, aJ cJ (w 1) 3420 w_w, aI cI (w 7) 12 w_from, aJ cJ (w 8) 12 w_heldSort, aJ cJ (w 9) 12 w_heldNumber] sz)) 0 0 (va_A [oX6 w w_undos w_seed w_entries, aJ cJ (w 1) 3420 w_w, aI cI (w 7) 12 w_from, aJ cJ (w 8) 12 w_heldSort, aJ cJ (w 9) 12 w_heldNumber] sz) := by
  refine stW (cc := cX6_deal) (maxL := 6) (ret := (some .int)) (Qf := fun A => (QwI D zr (fun u => [oX6 w u.2.1 w_seed w_entries, aJ cJ (w 1) 3420 u.1, aI cI (w 7) 12 u.2.2.1, aJ cJ (w 8) 12 u.2.2.2.1, aJ cJ (w 9) 12 u.2.2.2.2]) A)) (by decide +kernel) rfl (Nat.le_of_ble_eq_true rfl) ?_
  intro p e s m args below meth c A C0 hr hlocks hname hsz hP hD hA hAb hE ls hl
  obtain ⟨hx, hb, hml, hown, hts⟩ := id C0
  have hown : s.vm.findClass RX6 = some m.cls := hown
  obtain ⟨hK, hNW, -, tw, hZ, hT⟩ := id hE
  have hl : lv_has ls 6 [(0, .ref (w 0)), (1, .int x1)] := hl
  have hS : va_S A s.heap s.heap [] := va_S.rf
  have gk237 := hts (.constantLong RX6 237 (12)) (by decide +kernel)
  have hI_X6 := (show ∀ w ∈ wsX60, w ∈ wsX6_deal by decide +kernel)
  have gf30 := hts (.fieldLink RX6 30 "RowRanksModel" "from" "[I") (by decide +kernel)
  have gk246 := hts (.constant RX6 246 (-1000000003)) (by decide +kernel)
  have gk192 := hts (.constant RX6 192 (-1000000002)) (by decide +kernel)
  have W47 : ∀ (n : Nat) (v1 : Int32) (v2 : Int32) (v3 : Int32) (v4 : Int32) (v5 : Int32) (w_w : Nat → Int64) (w_undos : Int32) (w_from : Nat → Int32) (w_heldSort : Nat → Int64) (w_heldNumber : Nat → Int64) (H : Heap) (locs : List Loc) (ls : Array Slot) (z : Int32 × (Nat → Int32)), va_P D vwCl [oX6 w w_undos w_seed w_entries, aJ cJ (w 1) 3420 w_w, aI cI (w 7) 12 w_from, aJ cJ (w 8) 12 w_heldSort, aJ cJ (w 9) 12 w_heldNumber] H → va_S A s.heap H locs → lv_has ls 6 [(0, .ref (w 0)), (1, .int v1), (2, .int v2), (3, .int v3), (4, .int v4), (5, .int v5)] → L_X6_deal_47 v1 v2 n v3 v5 w_from = some z → (∀ (H : Heap) (locs : List Loc) (ls : Array Slot), va_P D vwCl [oX6 w w_undos w_seed w_entries, aJ cJ (w 1) 3420 w_w, aI cI (w 7) 12 z.2, aJ cJ (w 8) 12 w_heldSort, aJ cJ (w 9) 12 w_heldNumber] H → va_S A s.heap H locs → lv_has ls 6 [(0, .ref (w 0)), (1, .int v1), (2, .int v2), (3, .int z.1), (4, .int v4)] → W p l e { frames := 3, cells := 0, slots := 0, locals := 66 } s m args below meth c H locs 0 0 (MQ below (QwI D zr (fun u => [oX6 w u.2.1 w_seed w_entries, aJ cJ (w 1) 3420 u.1, aI cI (w 7) 12 u.2.2.1, aJ cJ (w 8) 12 u.2.2.2.1, aJ cJ (w 9) 12 u.2.2.2.2]) A) args s 0 0 A) (F0 m 73 ls [])) → W p l e { frames := 3, cells := 0, slots := 0, locals := 66 } s m args below meth c H locs 0 0 (MQ below (QwI D zr (fun u => [oX6 w u.2.1 w_seed w_entries, aJ cJ (w 1) 3420 u.1, aI cI (w 7) 12 u.2.2.1, aJ cJ (w 8) 12 u.2.2.2.1, aJ cJ (w 9) 12 u.2.2.2.2]) A) args s 0 0 A) (F0 m 47 ls []) := by
    intro n
    induction n with
    | zero =>
      intro v1 v2 v3 v4 v5 w_w w_undos w_from w_heldSort w_heldNumber H locs ls z hP hS hl hf
      exact absurd (show (none : Option (Int32 × (Nat → Int32))) = some z from hf) (fun h => by cases h)
    | succ n ih =>
      intro v1 v2 v3 v4 v5 w_w w_undos w_from w_heldSort w_heldNumber H locs ls z hP hS hl hf K
      rw [L_X6_deal_47] at hf
      refine lv_iload hx hb dX6_deal_47 (lv_at hl 5 rfl) ?_
      refine lv_iload_n hx hb dX6_deal_49 rfl (lv_at hl 2 rfl) ?_
      refine lv_icmp_ge (tgt := 73) hx hb dX6_deal_50 (by decide) (fun c7 => ?_) (fun c7 => ?_)
      · replace hf := oif c7 hf
        have hf := Option.some.inj hf
        subst hf
        exact K H locs ls hP hS (lv_sub hl [0, 1, 2, 3, 4] rfl)
      · replace hf := oel c7 hf
        refine lv_aload_n hx hb dX6_deal_53 rfl (lv_at hl 0 rfl) ?_
        refine va_get (D := D) (ci := 6) (v := .ref (w 7)) (C := RX6) (T := TX6) (N := 12) hx hb hts hI_X6 hown hK hP 0 rfl rfl 9 (by decide) gf30 (fun _ h9 => h9) rfl dX6_deal_54 ?_
        refine lv_iload_n hx hb dX6_deal_57 rfl (lv_at hl 3 rfl) ?_
        refine lv_iload hx hb dX6_deal_58 (lv_at hl 5 rfl) ?_
        obtain ⟨h8, hf⟩ := ogd hf
        refine va_iast hx hb hK hP (hD.addr rfl) hS 2 0 rfl rfl (ib_in h8) dX6_deal_60 (fun H locs hP _ hS => ?_)
        obtain ⟨h8a, eh8a⟩ : ∃ y : Nat → Int32, y = upd w_from v3.toNatClampNeg v5 := ⟨_, rfl⟩
        replace hf := onm eh8a hf
        have hP : va_P D vwCl [oX6 w w_undos w_seed w_entries, aJ cJ (w 1) 3420 w_w, aI cI (w 7) 12 h8a, aJ cJ (w 8) 12 w_heldSort, aJ cJ (w 9) 12 w_heldNumber] H := by rw [eh8a]; exact hP
        obtain ⟨y9, ey9⟩ : ∃ y : Int32, y = v3 + 1 := ⟨_, rfl⟩
        replace hf := onm ey9 hf
        refine lv_iinc (v := y9) (lv' := [(3, .int y9), (0, .ref (w 0)), (1, .int v1), (2, .int v2), (4, .int v4), (5, .int v5)]) hx hb dX6_deal_61 hl (k := 3) rfl (by rw [ey9]; rfl) (by decide) rfl (fun ls hl => ?_)
        refine lv_iload hx hb dX6_deal_64 (lv_at hl 5 rfl) ?_
        refine lv_iload_n hx hb dX6_deal_66 rfl (lv_at hl 2 rfl) ?_
        refine lv_iadd hx hb dX6_deal_67 ?_
        refine lv_istore (lv' := [(5, .int (v5 + v1)), (3, .int y9), (0, .ref (w 0)), (1, .int v1), (2, .int v2), (4, .int v4)]) hx hb dX6_deal_68 hl (by decide) rfl (fun ls hl => ?_)
        refine lv_goto (tgt := 47) hx hb dX6_deal_70 (by decide) ?_
        exact ih v1 v2 y9 v4 (v5 + v1) w_w w_undos h8a w_heldSort w_heldNumber H locs ls z hP hS (lv_sub hl [2, 3, 4, 1, 5, 0] rfl) hf K
  have W37 : ∀ (n : Nat) (v1 : Int32) (v2 : Int32) (v3 : Int32) (v4 : Int32) (w_w : Nat → Int64) (w_undos : Int32) (w_from : Nat → Int32) (w_heldSort : Nat → Int64) (w_heldNumber : Nat → Int64) (H : Heap) (locs : List Loc) (ls : Array Slot) (z : (Nat → Int32)), va_P D vwCl [oX6 w w_undos w_seed w_entries, aJ cJ (w 1) 3420 w_w, aI cI (w 7) 12 w_from, aJ cJ (w 8) 12 w_heldSort, aJ cJ (w 9) 12 w_heldNumber] H → va_S A s.heap H locs → lv_has ls 6 [(0, .ref (w 0)), (1, .int v1), (2, .int v2), (3, .int v3), (4, .int v4)] → L_X6_deal_37 v1 v2 n v3 v4 w_from = some z → (∀ (H : Heap) (locs : List Loc) (ls : Array Slot), va_P D vwCl [oX6 w w_undos w_seed w_entries, aJ cJ (w 1) 3420 w_w, aI cI (w 7) 12 z, aJ cJ (w 8) 12 w_heldSort, aJ cJ (w 9) 12 w_heldNumber] H → va_S A s.heap H locs → lv_has ls 6 [(0, .ref (w 0)), (2, .int v2)] → W p l e { frames := 3, cells := 0, slots := 0, locals := 66 } s m args below meth c H locs 0 0 (MQ below (QwI D zr (fun u => [oX6 w u.2.1 w_seed w_entries, aJ cJ (w 1) 3420 u.1, aI cI (w 7) 12 u.2.2.1, aJ cJ (w 8) 12 u.2.2.2.1, aJ cJ (w 9) 12 u.2.2.2.2]) A) args s 0 0 A) (F0 m 79 ls [])) → W p l e { frames := 3, cells := 0, slots := 0, locals := 66 } s m args below meth c H locs 0 0 (MQ below (QwI D zr (fun u => [oX6 w u.2.1 w_seed w_entries, aJ cJ (w 1) 3420 u.1, aI cI (w 7) 12 u.2.2.1, aJ cJ (w 8) 12 u.2.2.2.1, aJ cJ (w 9) 12 u.2.2.2.2]) A) args s 0 0 A) (F0 m 37 ls []) := by
    intro n
    induction n with
    | zero =>
      intro v1 v2 v3 v4 w_w w_undos w_from w_heldSort w_heldNumber H locs ls z hP hS hl hf
      exact absurd (show (none : Option ((Nat → Int32))) = some z from hf) (fun h => by cases h)
    | succ n ih =>
      intro v1 v2 v3 v4 w_w w_undos w_from w_heldSort w_heldNumber H locs ls z hP hS hl hf K
      rw [L_X6_deal_37] at hf
      refine lv_iload hx hb dX6_deal_37 (lv_at hl 4 rfl) ?_
      refine lv_iload_n hx hb dX6_deal_39 rfl (lv_at hl 1 rfl) ?_
      refine lv_icmp_ge (tgt := 79) hx hb dX6_deal_40 (by decide) (fun c6 => ?_) (fun c6 => ?_)
      · replace hf := oif c6 hf
        have hf := Option.some.inj hf
        subst hf
        exact K H locs ls hP hS (lv_sub hl [0, 2] rfl)
      · replace hf := oel c6 hf
        refine lv_iload hx hb dX6_deal_43 (lv_at hl 4 rfl) ?_
        refine lv_istore (lv' := [(5, .int v4), (0, .ref (w 0)), (1, .int v1), (2, .int v2), (3, .int v3), (4, .int v4)]) hx hb dX6_deal_45 hl (by decide) rfl (fun ls hl => ?_)
        obtain ⟨z10, hz10, hf⟩ := obd hf
        refine W47 4000 v1 v2 v3 v4 v4 w_w w_undos w_from w_heldSort w_heldNumber H locs ls z10 hP hS (lv_sub hl [1, 2, 3, 4, 5, 0] rfl) hz10 (fun H locs ls hP hS hl => ?_)
        obtain ⟨y11, ey11⟩ : ∃ y : Int32, y = v4 + 1 := ⟨_, rfl⟩
        replace hf := onm ey11 hf
        refine lv_iinc (v := y11) (lv' := [(4, .int y11), (0, .ref (w 0)), (1, .int v1), (2, .int v2), (3, .int z10.1)]) hx hb dX6_deal_73 hl (k := 4) rfl (by rw [ey11]; rfl) (by decide) rfl (fun ls hl => ?_)
        refine lv_goto (tgt := 37) hx hb dX6_deal_76 (by decide) ?_
        exact ih v1 v2 z10.1 y11 w_w w_undos z10.2 w_heldSort w_heldNumber H locs ls z hP hS (lv_sub hl [1, 2, 3, 4, 0] rfl) hf K
  unfold f_X6_deal at hf
  have go : ∀ (H : Heap) (locs : List Loc), va_P D vwCl [oX6 w w_undos w_seed w_entries, aJ cJ (w 1) 3420 w_w, aI cI (w 7) 12 w_from, aJ cJ (w 8) 12 w_heldSort, aJ cJ (w 9) 12 w_heldNumber] H → va_S A s.heap H locs → W p l e { frames := 3, cells := 0, slots := 0, locals := 66 } s m args below meth c H locs 0 0 (MQ below (QwI D zr (fun u => [oX6 w u.2.1 w_seed w_entries, aJ cJ (w 1) 3420 u.1, aI cI (w 7) 12 u.2.2.1, aJ cJ (w 8) 12 u.2.2.2.1, aJ cJ (w 9) 12 u.2.2.2.2]) A) args s 0 0 A) (F0 m 0 ls []) := by
    intro H locs hP hS
    refine lv_iload_n hx hb dX6_deal_0 rfl (lv_at hl 1 rfl) ?_
    refine lv_i2l (v := (Int32.toInt64 x1)) hx hb dX6_deal_1 rfl ?_
    refine lv_lconst (v := 1) hx hb dX6_deal_2 (by decide) ?_
    refine lv_ldc2 hx hb hown gk237 dX6_deal_3 ?_
    obtain ⟨z1, hz1, hf⟩ := obd hf
    refine kZ (runS (As := [.long (Int32.toInt64 x1), .long 1, .long 12]) (rest := []) C0 hE hAb hP ((hD.weaken (fun _ _ _ h9 => hAb _ h9)).addr rfl) hS [] (wc := []) (by decide) rfl (c_X6_in l D cI cJ cZ cQ bs H.size (Int32.toInt64 x1) 1 12 z1 hz1) (va_cwS 3 hts gX6_deal_X6_in rfl rfl rfl (by decide +kernel) ⟨Nat.le_of_ble_eq_true rfl, Nat.le_of_ble_eq_true rfl⟩) rfl hl.1 rfl (Nat.le_of_ble_eq_true rfl) dX6_deal_6 ⟨Nat.le_of_ble_eq_true rfl, Nat.le_of_ble_eq_true rfl⟩) hS hP (fun bz1 H locs hP hS => ?_)
    refine lv_if_ne (tgt := 15) hx hb dX6_deal_9 (by decide) (fun c2 => ?_) (fun c2 => ?_)
    · replace hf := oel c2 hf
      refine lv_aload_n hx hb dX6_deal_15 rfl (lv_at hl 0 rfl) ?_
      obtain ⟨z3, hz3, hf⟩ := obd hf
      refine kI (runV (As := []) (rest := []) C0 hE hAb hP ((hD.weaken (fun _ _ _ h9 => hAb _ h9)).addr rfl) hS [0, 1] (wc := [oX6 w w_undos w_seed w_entries, aJ cJ (w 1) 3420 w_w]) (by decide) rfl 0 rfl rfl (c_X6_places l D cI cJ cZ cQ bs H.size w w_undos w_seed w_entries w_w z3 hz3) (cwV 0 hts gX6_deal_X6_places rfl rfl rfl (by decide +kernel) ⟨Nat.le_of_ble_eq_true rfl, Nat.le_of_ble_eq_true rfl⟩) rfl hl.1 rfl (Nat.le_of_ble_eq_true rfl) dX6_deal_16 ⟨Nat.le_of_ble_eq_true rfl, Nat.le_of_ble_eq_true rfl⟩) hS hP (fun H locs hP hS => ?_)
      refine lv_istore_n (lv' := [(2, .int z3), (0, .ref (w 0)), (1, .int x1)]) hx hb dX6_deal_19 rfl hl (by decide) rfl (fun ls hl => ?_)
      refine lv_iload_n hx hb dX6_deal_20 rfl (lv_at hl 0 rfl) ?_
      refine lv_iconst (v := (-1)) hx hb dX6_deal_21 (by decide) ?_
      refine lv_icmp_ne (tgt := 28) hx hb dX6_deal_22 (by decide) (fun c4 => ?_) (fun c4 => ?_)
      · replace hf := oel c4 hf
        refine lv_aload_n hx hb dX6_deal_28 rfl (lv_at hl 1 rfl) ?_
        obtain ⟨z5, hz5, hf⟩ := obd hf
        refine kwV (runV (As := []) (rest := []) C0 hE hAb hP ((hD.weaken (fun _ _ _ h9 => hAb _ h9)).addr rfl) hS [0, 1] (wc := [oX6 w w_undos w_seed w_entries, aJ cJ (w 1) 3420 w_w]) (by decide) rfl 0 rfl rfl (c_X6_minds l D cI cJ cZ cQ bs H.size w w_undos w_seed w_entries w_w z5 hz5) (cwV 0 hts gX6_deal_X6_minds rfl rfl rfl (by decide +kernel) ⟨Nat.le_of_ble_eq_true rfl, Nat.le_of_ble_eq_true rfl⟩) rfl hl.1 rfl (Nat.le_of_ble_eq_true rfl) dX6_deal_29 ⟨Nat.le_of_ble_eq_true rfl, Nat.le_of_ble_eq_true rfl⟩) hS hP (hD.addr rfl) hA [0, 1] rfl rfl (ws' := [oX6 w z5.2 w_seed w_entries, aJ cJ (w 1) 3420 z5.1, aI cI (w 7) 12 w_from, aJ cJ (w 8) 12 w_heldSort, aJ cJ (w 9) 12 w_heldNumber]) rfl rfl (fun H locs hP hS => ?_)
        refine lv_iconst (v := 0) hx hb dX6_deal_32 (by decide) ?_
        refine lv_istore_n (lv' := [(3, .int 0), (2, .int z3), (0, .ref (w 0)), (1, .int x1)]) hx hb dX6_deal_33 rfl hl (by decide) rfl (fun ls hl => ?_)
        refine lv_iconst (v := 0) hx hb dX6_deal_34 (by decide) ?_
        refine lv_istore (lv' := [(4, .int 0), (3, .int 0), (2, .int z3), (0, .ref (w 0)), (1, .int x1)]) hx hb dX6_deal_35 hl (by decide) rfl (fun ls hl => ?_)
        obtain ⟨z12, hz12, hf⟩ := obd hf
        refine W37 4000 x1 z3 0 0 z5.1 z5.2 w_from w_heldSort w_heldNumber H locs ls z12 hP hS (lv_sub hl [3, 4, 2, 1, 0] rfl) hz12 (fun H locs ls hP hS hl => ?_)
        refine lv_aload_n hx hb dX6_deal_79 rfl (lv_at hl 0 rfl) ?_
        refine lv_iload_n hx hb dX6_deal_80 rfl (lv_at hl 1 rfl) ?_
        obtain ⟨z13, hz13, hf⟩ := obd hf
        refine kwI (runV (As := [.int z3]) (rest := []) C0 hE hAb hP ((hD.weaken (fun _ _ _ h9 => hAb _ h9)).addr rfl) hS [0, 1, 2, 3, 4] (wc := [oX6 w z5.2 w_seed w_entries, aJ cJ (w 1) 3420 z5.1, aI cI (w 7) 12 z12, aJ cJ (w 8) 12 w_heldSort, aJ cJ (w 9) 12 w_heldNumber]) (by decide) rfl 0 rfl rfl (c_X6_moves l D cI cJ cZ cQ bs H.size w z5.2 w_seed w_entries z5.1 z12 w_heldSort w_heldNumber z3 z13 hz13) (cwV 1 hts gX6_deal_X6_moves rfl rfl rfl (by decide +kernel) ⟨Nat.le_of_ble_eq_true rfl, Nat.le_of_ble_eq_true rfl⟩) rfl hl.1 rfl (Nat.le_of_ble_eq_true rfl) dX6_deal_81 ⟨Nat.le_of_ble_eq_true rfl, Nat.le_of_ble_eq_true rfl⟩) hS hP (hD.addr rfl) hA [0, 1, 2, 3, 4] rfl rfl (ws' := [oX6 w z5.2 w_seed w_entries, aJ cJ (w 1) 3420 z13.2.1, aI cI (w 7) 12 z12, aJ cJ (w 8) 12 z13.2.2.1, aJ cJ (w 9) 12 z13.2.2.2]) rfl rfl (fun H locs hP hS => ?_)
        have er := Option.some.inj hf
        exact rwI (wm := (fun u => [oX6 w u.2.1 w_seed w_entries, aJ cJ (w 1) 3420 u.1, aI cI (w 7) 12 u.2.2.1, aJ cJ (w 8) 12 u.2.2.2.1, aJ cJ (w 9) 12 u.2.2.2.2])) hx hb hr hS dX6_deal_84 hP er hlocks
      · replace hf := oif c4 hf
        refine lv_ldc hx hb hown gk246 dX6_deal_25 ?_
        have er := Option.some.inj hf
        exact rwI (wm := (fun u => [oX6 w u.2.1 w_seed w_entries, aJ cJ (w 1) 3420 u.1, aI cI (w 7) 12 u.2.2.1, aJ cJ (w 8) 12 u.2.2.2.1, aJ cJ (w 9) 12 u.2.2.2.2])) hx hb hr hS dX6_deal_27 hP er hlocks
    · replace hf := oif c2 hf
      refine lv_ldc hx hb hown gk192 dX6_deal_12 ?_
      have er := Option.some.inj hf
      exact rwI (wm := (fun u => [oX6 w u.2.1 w_seed w_entries, aJ cJ (w 1) 3420 u.1, aI cI (w 7) 12 u.2.2.1, aJ cJ (w 8) 12 u.2.2.2.1, aJ cJ (w 9) 12 u.2.2.2.2])) hx hb hr hS dX6_deal_14 hP er hlocks
  exact go s.heap [] hP hS
noncomputable def f_X6_draw (w_seed : Int32) (x1 : Int32) : Option (Int32 × Int32) := (some ((Int64.toInt32 ((((Int32.toInt64 w_seed) * (1103515245 : Int64)) + (12345 : Int64)) - (((Int32.toInt64 w_seed) * (1103515245 : Int64)) + (12345 : Int64)) / (2147483648 : Int64) * (2147483648 : Int64))) : Int32)).bind (fun y2 => if ¬ x1 = 0 then (some ((((y2 / (65536 : Int32)) - (y2 / (65536 : Int32)) / x1 * x1), y2))) else none)
set_option maxHeartbeats 4000000 in
set_option maxRecDepth 100000 in
theorem c_X6_draw (l : Launch) (D : va_G) (cI cJ cZ cQ : ClassId) (bs sz : Nat) (w : Nat → Nat) (w_undos : Int32) (w_seed : Int32) (w_entries : Int32) (x1 : Int32) (zr : Int32 × Int32) (hf : f_X6_draw w_seed x1 = some zr) : Met l yX6_draw wsX6_draw { frames := 0, cells := 0, slots := 0, locals := 0 } (va_Pc [.ref (w 0), .int x1] (Pr D cI cJ cZ cQ bs sz [oX6 w w_undos w_seed w_entries])) (QwI D zr (fun u => [oX6 w w_undos u w_entries]) (va_A [oX6 w w_undos w_seed w_entries] sz)) 0 0 (va_A [oX6 w w_undos w_seed w_entries] sz) := by
  refine stW (cc := cX6_draw) (maxL := 2) (ret := (some .int)) (Qf := fun A => (QwI D zr (fun u => [oX6 w w_undos u w_entries]) A)) (by decide +kernel) rfl (Nat.le_of_ble_eq_true rfl) ?_
  intro p e s m args below meth c A C0 hr hlocks hname hsz hP hD hA hAb hE ls hl
  obtain ⟨hx, hb, hml, hown, hts⟩ := id C0
  have hown : s.vm.findClass RX6 = some m.cls := hown
  obtain ⟨hK, hNW, -, tw, hZ, hT⟩ := id hE
  have hl : lv_has ls 2 [(0, .ref (w 0)), (1, .int x1)] := hl
  have hS : va_S A s.heap s.heap [] := va_S.rf
  have hI_X6 := (show ∀ w ∈ wsX60, w ∈ wsX6_draw by decide +kernel)
  have gf189 := hts (.fieldLink RX6 189 "RowRanksModel" "seed" "I") (by decide +kernel)
  have gk263 := hts (.constantLong RX6 263 (1103515245)) (by decide +kernel)
  have gk265 := hts (.constantLong RX6 265 (12345)) (by decide +kernel)
  have gk267 := hts (.constantLong RX6 267 (2147483648)) (by decide +kernel)
  have gk269 := hts (.constant RX6 269 (65536)) (by decide +kernel)
  unfold f_X6_draw at hf
  have go : ∀ (H : Heap) (locs : List Loc), va_P D vwCl [oX6 w w_undos w_seed w_entries] H → va_S A s.heap H locs → W p l e { frames := 0, cells := 0, slots := 0, locals := 0 } s m args below meth c H locs 0 0 (MQ below (QwI D zr (fun u => [oX6 w w_undos u w_entries]) A) args s 0 0 A) (F0 m 0 ls []) := by
    intro H locs hP hS
    refine lv_aload_n hx hb dX6_draw_0 rfl (lv_at hl 0 rfl) ?_
    refine lv_aload_n hx hb dX6_draw_1 rfl (lv_at hl 0 rfl) ?_
    refine va_get (D := D) (ci := 6) (v := .int w_seed) (C := RX6) (T := TX6) (N := 12) hx hb hts hI_X6 hown hK hP 0 rfl rfl 4 (by decide) gf189 (fun _ h9 => h9) rfl dX6_draw_2 ?_
    refine lv_i2l (v := (Int32.toInt64 w_seed)) hx hb dX6_draw_5 rfl ?_
    refine lv_ldc2 hx hb hown gk263 dX6_draw_6 ?_
    refine lv_lmul hx hb dX6_draw_9 ?_
    refine lv_ldc2 hx hb hown gk265 dX6_draw_10 ?_
    refine lv_ladd hx hb dX6_draw_13 ?_
    refine lv_ldc2 hx hb hown gk267 dX6_draw_14 ?_
    refine lv_lrem hx hb dX6_draw_17 (by decide) ?_
    refine lv_l2i (v := (Int64.toInt32 ((((Int32.toInt64 w_seed) * (1103515245 : Int64)) + (12345 : Int64)) - (((Int32.toInt64 w_seed) * (1103515245 : Int64)) + (12345 : Int64)) / (2147483648 : Int64) * (2147483648 : Int64)))) hx hb dX6_draw_18 rfl ?_
    refine lv_topi (fun y2 ey2 => ?_)
    replace hf := onm ey2 hf
    refine va_put (D := D) (ci := 6) (v := .int y2) (ty := .int) (C := RX6) (T := TX6) (N := 12) hx hb hts hI_X6 tyX6 tyX6_ok nmX6 hown hK hP (hD.addr rfl) hS 0 rfl rfl 4 (by decide) gf189 (fun _ h9 => h9) rfl (by decide +kernel) rfl rfl (Nat.le_of_ble_eq_true rfl) dX6_draw_19 (fun H locs hP _ hS => ?_)
    have hP : va_P D vwCl [oX6 w w_undos y2 w_entries] H := hP
    refine lv_aload_n hx hb dX6_draw_22 rfl (lv_at hl 0 rfl) ?_
    refine va_get (D := D) (ci := 6) (v := .int y2) (C := RX6) (T := TX6) (N := 12) hx hb hts hI_X6 hown hK hP 0 rfl rfl 4 (by decide) gf189 (fun _ h9 => h9) rfl dX6_draw_23 ?_
    refine lv_ldcw hx hb hown gk269 dX6_draw_26 ?_
    refine lv_idiv hx hb dX6_draw_29 (by decide) ?_
    refine lv_iload_n hx hb dX6_draw_30 rfl (lv_at hl 1 rfl) ?_
    obtain ⟨h4, hf⟩ := ogd hf
    refine lv_irem hx hb dX6_draw_31 h4 ?_
    have er := Option.some.inj hf
    exact rwI (wm := (fun u => [oX6 w w_undos u w_entries])) hx hb hr hS dX6_draw_32 hP er hlocks
  exact go s.heap [] hP hS
noncomputable def L_X6_drift_19 (v1 : Int32) : Nat → Int32 → Int32 → (Nat → Int64) → Int32 → Int32 → Option (Int32 × (Nat → Int64) × Int32 × Int32)
  | 0, _, _, _, _, _ => none
  | n + 1, v2, v3, w_w, w_undos, w_seed => if v1 ≤ v3 then (some ((v2, w_w, w_undos, w_seed))) else ((f_X6_minds w_w w_undos).bind (fun z4 => (f_X6_draw w_seed 6).bind (fun z5 => (f_X6_draw z5.2 12).bind (fun z6 => (f_X6_draw z6.2 10).bind (fun z7 => (f_X6_draw z7.2 256).bind (fun z8 => if z7.1 = 8 then ((some ((Int32.toInt64 (z8.1 - z8.1 / (8 : Int32) * (8 : Int32))) : Int64)).bind (fun y31 => (f_X6_lacks z4.1 z5.1 (Int32.toInt64 z6.1)).bind (fun z32 => if z32 = 0 then ((f_X6_takes z4.1 z5.1 z7.1 y31).bind (fun z35 => if z35 = 0 then ((some (v3 + 1 : Int32)).bind (fun y37 => L_X6_drift_19 v1 n v2 y37 z4.1 z4.2 z8.2)) else ((f_X6_sets z4.1 z5.1 z6.1 z7.1 y31).bind (fun z38 => (some (v2 + 1 : Int32)).bind (fun y39 => (some (v3 + 1 : Int32)).bind (fun y40 => L_X6_drift_19 v1 n y39 y40 z38 z4.2 z8.2)))))) else ((some (v3 + 1 : Int32)).bind (fun y34 => L_X6_drift_19 v1 n v2 y34 z4.1 z4.2 z8.2))))) else (if z7.1 = 9 then ((f_X6_lacks z4.1 z5.1 (Int32.toInt64 z6.1)).bind (fun z21 => if z21 = 0 then ((f_X6_takes z4.1 z5.1 z7.1 0).bind (fun z24 => if z24 = 0 then ((some (v3 + 1 : Int32)).bind (fun y26 => L_X6_drift_19 v1 n v2 y26 z4.1 z4.2 z8.2)) else ((f_X6_sets z4.1 z5.1 z6.1 z7.1 0).bind (fun z27 => (some (v2 + 1 : Int32)).bind (fun y28 => (some (v3 + 1 : Int32)).bind (fun y29 => L_X6_drift_19 v1 n y28 y29 z27 z4.2 z8.2)))))) else ((some (v3 + 1 : Int32)).bind (fun y23 => L_X6_drift_19 v1 n v2 y23 z4.1 z4.2 z8.2)))) else ((f_X6_madeOf z7.1 ((Int32.toInt64 z8.1) - (128 : Int64))).bind (fun z11 => (f_X6_lacks z4.1 z5.1 (Int32.toInt64 z6.1)).bind (fun z12 => if z12 = 0 then ((f_X6_takes z4.1 z5.1 z7.1 z11).bind (fun z15 => if z15 = 0 then ((some (v3 + 1 : Int32)).bind (fun y17 => L_X6_drift_19 v1 n v2 y17 z4.1 z4.2 z8.2)) else ((f_X6_sets z4.1 z5.1 z6.1 z7.1 z11).bind (fun z18 => (some (v2 + 1 : Int32)).bind (fun y19 => (some (v3 + 1 : Int32)).bind (fun y20 => L_X6_drift_19 v1 n y19 y20 z18 z4.2 z8.2)))))) else ((some (v3 + 1 : Int32)).bind (fun y14 => L_X6_drift_19 v1 n v2 y14 z4.1 z4.2 z8.2))))))))))))
noncomputable def f_X6_drift (w_w : Nat → Int64) (w_undos : Int32) (w_seed : Int32) (x1 : Int32) : Option (Int32 × (Nat → Int64) × Int32 × Int32) := (f_X6_in (Int32.toInt64 x1) 1 12).bind (fun z1 => if z1 = 0 then (some (((-1000000002), w_w, w_undos, w_seed))) else ((L_X6_drift_19 x1 4000 0 0 w_w w_undos w_seed).bind (fun z41 => some ((z41.1, z41.2.1, z41.2.2.1, z41.2.2.2)))))
set_option maxHeartbeats 4000000 in
set_option maxRecDepth 100000 in
theorem c_X6_drift (l : Launch) (D : va_G) (cI cJ cZ cQ : ClassId) (bs sz : Nat) (w : Nat → Nat) (w_undos : Int32) (w_seed : Int32) (w_entries : Int32) (w_w : Nat → Int64) (x1 : Int32) (zr : Int32 × (Nat → Int64) × Int32 × Int32) (hf : f_X6_drift w_w w_undos w_seed x1 = some zr) : Met l yX6_drift wsX6_drift { frames := 3, cells := 0, slots := 0, locals := 82 } (va_Pc [.ref (w 0), .int x1] (Pr D cI cJ cZ cQ bs sz [oX6 w w_undos w_seed w_entries, aJ cJ (w 1) 3420 w_w])) (QwI D zr (fun u => [oX6 w u.2.1 u.2.2 w_entries, aJ cJ (w 1) 3420 u.1]) (va_A [oX6 w w_undos w_seed w_entries, aJ cJ (w 1) 3420 w_w] sz)) 0 0 (va_A [oX6 w w_undos w_seed w_entries, aJ cJ (w 1) 3420 w_w] sz) := by
  refine stW (cc := cX6_drift) (maxL := 10) (ret := (some .int)) (Qf := fun A => (QwI D zr (fun u => [oX6 w u.2.1 u.2.2 w_entries, aJ cJ (w 1) 3420 u.1]) A)) (by decide +kernel) rfl (Nat.le_of_ble_eq_true rfl) ?_
  intro p e s m args below meth c A C0 hr hlocks hname hsz hP hD hA hAb hE ls hl
  obtain ⟨hx, hb, hml, hown, hts⟩ := id C0
  have hown : s.vm.findClass RX6 = some m.cls := hown
  obtain ⟨hK, hNW, -, tw, hZ, hT⟩ := id hE
  have hl : lv_has ls 10 [(0, .ref (w 0)), (1, .int x1)] := hl
  have hS : va_S A s.heap s.heap [] := va_S.rf
  have gk237 := hts (.constantLong RX6 237 (12)) (by decide +kernel)
  have gk273 := hts (.constantLong RX6 273 (128)) (by decide +kernel)
  have gk192 := hts (.constant RX6 192 (-1000000002)) (by decide +kernel)
  have W19 : ∀ (n : Nat) (v1 : Int32) (v2 : Int32) (v3 : Int32) (w_w : Nat → Int64) (w_undos : Int32) (w_seed : Int32) (H : Heap) (locs : List Loc) (ls : Array Slot) (z : Int32 × (Nat → Int64) × Int32 × Int32), va_P D vwCl [oX6 w w_undos w_seed w_entries, aJ cJ (w 1) 3420 w_w] H → va_S A s.heap H locs → lv_has ls 10 [(0, .ref (w 0)), (1, .int v1), (2, .int v2), (3, .int v3)] → L_X6_drift_19 v1 n v2 v3 w_w w_undos w_seed = some z → (∀ (H : Heap) (locs : List Loc) (ls : Array Slot), va_P D vwCl [oX6 w z.2.2.1 z.2.2.2 w_entries, aJ cJ (w 1) 3420 z.2.1] H → va_S A s.heap H locs → lv_has ls 10 [(2, .int z.1)] → W p l e { frames := 3, cells := 0, slots := 0, locals := 82 } s m args below meth c H locs 0 0 (MQ below (QwI D zr (fun u => [oX6 w u.2.1 u.2.2 w_entries, aJ cJ (w 1) 3420 u.1]) A) args s 0 0 A) (F0 m 148 ls [])) → W p l e { frames := 3, cells := 0, slots := 0, locals := 82 } s m args below meth c H locs 0 0 (MQ below (QwI D zr (fun u => [oX6 w u.2.1 u.2.2 w_entries, aJ cJ (w 1) 3420 u.1]) A) args s 0 0 A) (F0 m 19 ls []) := by
    intro n
    induction n with
    | zero =>
      intro v1 v2 v3 w_w w_undos w_seed H locs ls z hP hS hl hf
      exact absurd (show (none : Option (Int32 × (Nat → Int64) × Int32 × Int32)) = some z from hf) (fun h => by cases h)
    | succ n ih =>
      intro v1 v2 v3 w_w w_undos w_seed H locs ls z hP hS hl hf K
      rw [L_X6_drift_19] at hf
      refine lv_iload_n hx hb dX6_drift_19 rfl (lv_at hl 3 rfl) ?_
      refine lv_iload_n hx hb dX6_drift_20 rfl (lv_at hl 1 rfl) ?_
      refine lv_icmp_ge (tgt := 148) hx hb dX6_drift_21 (by decide) (fun c3 => ?_) (fun c3 => ?_)
      · replace hf := oif c3 hf
        have hf := Option.some.inj hf
        subst hf
        exact K H locs ls hP hS (lv_sub hl [2] rfl)
      · replace hf := oel c3 hf
        refine lv_aload_n hx hb dX6_drift_24 rfl (lv_at hl 0 rfl) ?_
        obtain ⟨z4, hz4, hf⟩ := obd hf
        refine kwV (runV (As := []) (rest := []) C0 hE hAb hP ((hD.weaken (fun _ _ _ h9 => hAb _ h9)).addr rfl) hS [0, 1] (wc := [oX6 w w_undos w_seed w_entries, aJ cJ (w 1) 3420 w_w]) (by decide) rfl 0 rfl rfl (c_X6_minds l D cI cJ cZ cQ bs H.size w w_undos w_seed w_entries w_w z4 hz4) (cwV 0 hts gX6_drift_X6_minds rfl rfl rfl (by decide +kernel) ⟨Nat.le_of_ble_eq_true rfl, Nat.le_of_ble_eq_true rfl⟩) rfl hl.1 rfl (Nat.le_of_ble_eq_true rfl) dX6_drift_25 ⟨Nat.le_of_ble_eq_true rfl, Nat.le_of_ble_eq_true rfl⟩) hS hP (hD.addr rfl) hA [0, 1] rfl rfl (ws' := [oX6 w z4.2 w_seed w_entries, aJ cJ (w 1) 3420 z4.1]) rfl rfl (fun H locs hP hS => ?_)
        refine lv_aload_n hx hb dX6_drift_28 rfl (lv_at hl 0 rfl) ?_
        refine lv_bipush (v := 6) hx hb dX6_drift_29 (by decide) ?_
        obtain ⟨z5, hz5, hf⟩ := obd hf
        refine kwI (runV (As := [.int 6]) (rest := []) C0 hE hAb hP ((hD.weaken (fun _ _ _ h9 => hAb _ h9)).addr rfl) hS [0] (wc := [oX6 w z4.2 w_seed w_entries]) (by decide) rfl 0 rfl rfl (c_X6_draw l D cI cJ cZ cQ bs H.size w z4.2 w_seed w_entries 6 z5 hz5) (cwV 1 hts gX6_drift_X6_draw rfl rfl rfl (by decide +kernel) ⟨Nat.le_of_ble_eq_true rfl, Nat.le_of_ble_eq_true rfl⟩) rfl hl.1 rfl (Nat.le_of_ble_eq_true rfl) dX6_drift_31 ⟨Nat.le_of_ble_eq_true rfl, Nat.le_of_ble_eq_true rfl⟩) hS hP (hD.addr rfl) hA [0] rfl rfl (ws' := [oX6 w z4.2 z5.2 w_entries, aJ cJ (w 1) 3420 z4.1]) rfl rfl (fun H locs hP hS => ?_)
        refine lv_istore (lv' := [(4, .int z5.1), (0, .ref (w 0)), (1, .int v1), (2, .int v2), (3, .int v3)]) hx hb dX6_drift_34 hl (by decide) rfl (fun ls hl => ?_)
        refine lv_aload_n hx hb dX6_drift_36 rfl (lv_at hl 1 rfl) ?_
        refine lv_bipush (v := 12) hx hb dX6_drift_37 (by decide) ?_
        obtain ⟨z6, hz6, hf⟩ := obd hf
        refine kwI (runV (As := [.int 12]) (rest := []) C0 hE hAb hP ((hD.weaken (fun _ _ _ h9 => hAb _ h9)).addr rfl) hS [0] (wc := [oX6 w z4.2 z5.2 w_entries]) (by decide) rfl 0 rfl rfl (c_X6_draw l D cI cJ cZ cQ bs H.size w z4.2 z5.2 w_entries 12 z6 hz6) (cwV 1 hts gX6_drift_X6_draw rfl rfl rfl (by decide +kernel) ⟨Nat.le_of_ble_eq_true rfl, Nat.le_of_ble_eq_true rfl⟩) rfl hl.1 rfl (Nat.le_of_ble_eq_true rfl) dX6_drift_39 ⟨Nat.le_of_ble_eq_true rfl, Nat.le_of_ble_eq_true rfl⟩) hS hP (hD.addr rfl) hA [0] rfl rfl (ws' := [oX6 w z4.2 z6.2 w_entries, aJ cJ (w 1) 3420 z4.1]) rfl rfl (fun H locs hP hS => ?_)
        refine lv_istore (lv' := [(5, .int z6.1), (4, .int z5.1), (0, .ref (w 0)), (1, .int v1), (2, .int v2), (3, .int v3)]) hx hb dX6_drift_42 hl (by decide) rfl (fun ls hl => ?_)
        refine lv_aload_n hx hb dX6_drift_44 rfl (lv_at hl 2 rfl) ?_
        refine lv_bipush (v := 10) hx hb dX6_drift_45 (by decide) ?_
        obtain ⟨z7, hz7, hf⟩ := obd hf
        refine kwI (runV (As := [.int 10]) (rest := []) C0 hE hAb hP ((hD.weaken (fun _ _ _ h9 => hAb _ h9)).addr rfl) hS [0] (wc := [oX6 w z4.2 z6.2 w_entries]) (by decide) rfl 0 rfl rfl (c_X6_draw l D cI cJ cZ cQ bs H.size w z4.2 z6.2 w_entries 10 z7 hz7) (cwV 1 hts gX6_drift_X6_draw rfl rfl rfl (by decide +kernel) ⟨Nat.le_of_ble_eq_true rfl, Nat.le_of_ble_eq_true rfl⟩) rfl hl.1 rfl (Nat.le_of_ble_eq_true rfl) dX6_drift_47 ⟨Nat.le_of_ble_eq_true rfl, Nat.le_of_ble_eq_true rfl⟩) hS hP (hD.addr rfl) hA [0] rfl rfl (ws' := [oX6 w z4.2 z7.2 w_entries, aJ cJ (w 1) 3420 z4.1]) rfl rfl (fun H locs hP hS => ?_)
        refine lv_istore (lv' := [(6, .int z7.1), (5, .int z6.1), (4, .int z5.1), (0, .ref (w 0)), (1, .int v1), (2, .int v2), (3, .int v3)]) hx hb dX6_drift_50 hl (by decide) rfl (fun ls hl => ?_)
        refine lv_aload_n hx hb dX6_drift_52 rfl (lv_at hl 3 rfl) ?_
        refine lv_sipush (v := 256) hx hb dX6_drift_53 (by decide) ?_
        obtain ⟨z8, hz8, hf⟩ := obd hf
        refine kwI (runV (As := [.int 256]) (rest := []) C0 hE hAb hP ((hD.weaken (fun _ _ _ h9 => hAb _ h9)).addr rfl) hS [0] (wc := [oX6 w z4.2 z7.2 w_entries]) (by decide) rfl 0 rfl rfl (c_X6_draw l D cI cJ cZ cQ bs H.size w z4.2 z7.2 w_entries 256 z8 hz8) (cwV 1 hts gX6_drift_X6_draw rfl rfl rfl (by decide +kernel) ⟨Nat.le_of_ble_eq_true rfl, Nat.le_of_ble_eq_true rfl⟩) rfl hl.1 rfl (Nat.le_of_ble_eq_true rfl) dX6_drift_56 ⟨Nat.le_of_ble_eq_true rfl, Nat.le_of_ble_eq_true rfl⟩) hS hP (hD.addr rfl) hA [0] rfl rfl (ws' := [oX6 w z4.2 z8.2 w_entries, aJ cJ (w 1) 3420 z4.1]) rfl rfl (fun H locs hP hS => ?_)
        refine lv_istore (lv' := [(7, .int z8.1), (6, .int z7.1), (5, .int z6.1), (4, .int z5.1), (0, .ref (w 0)), (1, .int v1), (2, .int v2), (3, .int v3)]) hx hb dX6_drift_59 hl (by decide) rfl (fun ls hl => ?_)
        refine lv_iload hx hb dX6_drift_61 (lv_at hl 1 rfl) ?_
        refine lv_bipush (v := 8) hx hb dX6_drift_63 (by decide) ?_
        refine lv_icmp_ne (tgt := 77) hx hb dX6_drift_65 (by decide) (fun c9 => ?_) (fun c9 => ?_)
        · replace hf := oel c9 hf
          refine lv_iload hx hb dX6_drift_77 (lv_at hl 1 rfl) ?_
          refine lv_bipush (v := 9) hx hb dX6_drift_79 (by decide) ?_
          refine lv_icmp_ne (tgt := 88) hx hb dX6_drift_81 (by decide) (fun c10 => ?_) (fun c10 => ?_)
          · replace hf := oel c10 hf
            refine lv_iload hx hb dX6_drift_88 (lv_at hl 1 rfl) ?_
            refine lv_iload hx hb dX6_drift_90 (lv_at hl 0 rfl) ?_
            refine lv_i2l (v := (Int32.toInt64 z8.1)) hx hb dX6_drift_92 rfl ?_
            refine lv_ldc2 hx hb hown gk273 dX6_drift_93 ?_
            refine lv_lsub hx hb dX6_drift_96 ?_
            obtain ⟨z11, hz11, hf⟩ := obd hf
            refine kJ (runS (As := [.int z7.1, .long ((Int32.toInt64 z8.1) - (128 : Int64))]) (rest := []) C0 hE hAb hP ((hD.weaken (fun _ _ _ h9 => hAb _ h9)).addr rfl) hS [] (wc := []) (by decide) rfl (c_X6_madeOf l D cI cJ cZ cQ bs H.size z7.1 ((Int32.toInt64 z8.1) - (128 : Int64)) z11 hz11) (va_cwS 2 hts gX6_drift_X6_madeOf rfl rfl rfl (by decide +kernel) ⟨Nat.le_of_ble_eq_true rfl, Nat.le_of_ble_eq_true rfl⟩) rfl hl.1 rfl (Nat.le_of_ble_eq_true rfl) dX6_drift_97 ⟨Nat.le_of_ble_eq_true rfl, Nat.le_of_ble_eq_true rfl⟩) hS hP (fun H locs hP hS => ?_)
            refine lv_lstore (lv' := [(8, .long z11), (7, .int z8.1), (6, .int z7.1), (5, .int z6.1), (4, .int z5.1), (0, .ref (w 0)), (1, .int v1), (2, .int v2), (3, .int v3)]) hx hb dX6_drift_100 hl (by decide) rfl (fun ls hl => ?_)
            refine lv_aload_n hx hb dX6_drift_102 rfl (lv_at hl 5 rfl) ?_
            refine lv_iload hx hb dX6_drift_103 (lv_at hl 4 rfl) ?_
            refine lv_iload hx hb dX6_drift_105 (lv_at hl 3 rfl) ?_
            refine lv_i2l (v := (Int32.toInt64 z6.1)) hx hb dX6_drift_107 rfl ?_
            obtain ⟨z12, hz12, hf⟩ := obd hf
            refine kI (runV (As := [.int z5.1, .long (Int32.toInt64 z6.1)]) (rest := []) C0 hE hAb hP ((hD.weaken (fun _ _ _ h9 => hAb _ h9)).addr rfl) hS [0, 1] (wc := [oX6 w z4.2 z8.2 w_entries, aJ cJ (w 1) 3420 z4.1]) (by decide) rfl 0 rfl rfl (c_X6_lacks l D cI cJ cZ cQ bs H.size w z4.2 z8.2 w_entries z4.1 z5.1 (Int32.toInt64 z6.1) z12 hz12) (cwV 2 hts gX6_drift_X6_lacks rfl rfl rfl (by decide +kernel) ⟨Nat.le_of_ble_eq_true rfl, Nat.le_of_ble_eq_true rfl⟩) rfl hl.1 rfl (Nat.le_of_ble_eq_true rfl) dX6_drift_108 ⟨Nat.le_of_ble_eq_true rfl, Nat.le_of_ble_eq_true rfl⟩) hS hP (fun H locs hP hS => ?_)
            refine lv_if_ne (tgt := 142) hx hb dX6_drift_111 (by decide) (fun c13 => ?_) (fun c13 => ?_)
            · replace hf := oel c13 hf
              obtain ⟨y14, ey14⟩ : ∃ y : Int32, y = v3 + 1 := ⟨_, rfl⟩
              replace hf := onm ey14 hf
              refine lv_iinc (v := y14) (lv' := [(3, .int y14), (8, .long z11), (7, .int z8.1), (6, .int z7.1), (5, .int z6.1), (4, .int z5.1), (0, .ref (w 0)), (1, .int v1), (2, .int v2)]) hx hb dX6_drift_142 hl (k := 8) rfl (by rw [ey14]; rfl) (by decide) rfl (fun ls hl => ?_)
              refine lv_goto (tgt := 19) hx hb dX6_drift_145 (by decide) ?_
              exact ih v1 v2 y14 z4.1 z4.2 z8.2 H locs ls z hP hS (lv_sub hl [6, 7, 8, 0] rfl) hf K
            · replace hf := oif c13 hf
              refine lv_aload_n hx hb dX6_drift_114 rfl (lv_at hl 5 rfl) ?_
              refine lv_iload hx hb dX6_drift_115 (lv_at hl 4 rfl) ?_
              refine lv_iload hx hb dX6_drift_117 (lv_at hl 2 rfl) ?_
              refine lv_lload hx hb dX6_drift_119 (lv_at hl 0 rfl) ?_
              obtain ⟨z15, hz15, hf⟩ := obd hf
              refine kZ (runV (As := [.int z5.1, .int z7.1, .long z11]) (rest := []) C0 hE hAb hP ((hD.weaken (fun _ _ _ h9 => hAb _ h9)).addr rfl) hS [0, 1] (wc := [oX6 w z4.2 z8.2 w_entries, aJ cJ (w 1) 3420 z4.1]) (by decide) rfl 0 rfl rfl (c_X6_takes l D cI cJ cZ cQ bs H.size w z4.2 z8.2 w_entries z4.1 z5.1 z7.1 z11 z15 hz15) (cwV 3 hts gX6_drift_X6_takes rfl rfl rfl (by decide +kernel) ⟨Nat.le_of_ble_eq_true rfl, Nat.le_of_ble_eq_true rfl⟩) rfl hl.1 rfl (Nat.le_of_ble_eq_true rfl) dX6_drift_121 ⟨Nat.le_of_ble_eq_true rfl, Nat.le_of_ble_eq_true rfl⟩) hS hP (fun bz15 H locs hP hS => ?_)
              refine lv_if_eq (tgt := 142) hx hb dX6_drift_124 (by decide) (fun c16 => ?_) (fun c16 => ?_)
              · replace hf := oif c16 hf
                obtain ⟨y17, ey17⟩ : ∃ y : Int32, y = v3 + 1 := ⟨_, rfl⟩
                replace hf := onm ey17 hf
                refine lv_iinc (v := y17) (lv' := [(3, .int y17), (8, .long z11), (7, .int z8.1), (6, .int z7.1), (5, .int z6.1), (4, .int z5.1), (0, .ref (w 0)), (1, .int v1), (2, .int v2)]) hx hb dX6_drift_142 hl (k := 8) rfl (by rw [ey17]; rfl) (by decide) rfl (fun ls hl => ?_)
                refine lv_goto (tgt := 19) hx hb dX6_drift_145 (by decide) ?_
                exact ih v1 v2 y17 z4.1 z4.2 z8.2 H locs ls z hP hS (lv_sub hl [6, 7, 8, 0] rfl) hf K
              · replace hf := oel c16 hf
                refine lv_aload_n hx hb dX6_drift_127 rfl (lv_at hl 5 rfl) ?_
                refine lv_iload hx hb dX6_drift_128 (lv_at hl 4 rfl) ?_
                refine lv_iload hx hb dX6_drift_130 (lv_at hl 3 rfl) ?_
                refine lv_iload hx hb dX6_drift_132 (lv_at hl 2 rfl) ?_
                refine lv_lload hx hb dX6_drift_134 (lv_at hl 0 rfl) ?_
                obtain ⟨z18, hz18, hf⟩ := obd hf
                refine kwV (runV (As := [.int z5.1, .int z6.1, .int z7.1, .long z11]) (rest := []) C0 hE hAb hP ((hD.weaken (fun _ _ _ h9 => hAb _ h9)).addr rfl) hS [0, 1] (wc := [oX6 w z4.2 z8.2 w_entries, aJ cJ (w 1) 3420 z4.1]) (by decide) rfl 0 rfl rfl (c_X6_sets l D cI cJ cZ cQ bs H.size w z4.2 z8.2 w_entries z4.1 z5.1 z6.1 z7.1 z11 z18 hz18) (cwV 4 hts gX6_drift_X6_sets rfl rfl rfl (by decide +kernel) ⟨Nat.le_of_ble_eq_true rfl, Nat.le_of_ble_eq_true rfl⟩) rfl hl.1 rfl (Nat.le_of_ble_eq_true rfl) dX6_drift_136 ⟨Nat.le_of_ble_eq_true rfl, Nat.le_of_ble_eq_true rfl⟩) hS hP (hD.addr rfl) hA [0, 1] rfl rfl (ws' := [oX6 w z4.2 z8.2 w_entries, aJ cJ (w 1) 3420 z18]) rfl rfl (fun H locs hP hS => ?_)
                obtain ⟨y19, ey19⟩ : ∃ y : Int32, y = v2 + 1 := ⟨_, rfl⟩
                replace hf := onm ey19 hf
                refine lv_iinc (v := y19) (lv' := [(2, .int y19), (8, .long z11), (7, .int z8.1), (6, .int z7.1), (5, .int z6.1), (4, .int z5.1), (0, .ref (w 0)), (1, .int v1), (3, .int v3)]) hx hb dX6_drift_139 hl (k := 7) rfl (by rw [ey19]; rfl) (by decide) rfl (fun ls hl => ?_)
                obtain ⟨y20, ey20⟩ : ∃ y : Int32, y = v3 + 1 := ⟨_, rfl⟩
                replace hf := onm ey20 hf
                refine lv_iinc (v := y20) (lv' := [(3, .int y20), (2, .int y19), (8, .long z11), (7, .int z8.1), (6, .int z7.1), (5, .int z6.1), (4, .int z5.1), (0, .ref (w 0)), (1, .int v1)]) hx hb dX6_drift_142 hl (k := 8) rfl (by rw [ey20]; rfl) (by decide) rfl (fun ls hl => ?_)
                refine lv_goto (tgt := 19) hx hb dX6_drift_145 (by decide) ?_
                exact ih v1 y19 y20 z18 z4.2 z8.2 H locs ls z hP hS (lv_sub hl [7, 8, 1, 0] rfl) hf K
          · replace hf := oif c10 hf
            refine lv_lconst (v := 0) hx hb dX6_drift_84 (by decide) ?_
            refine lv_goto (tgt := 100) hx hb dX6_drift_85 (by decide) ?_
            refine lv_lstore (lv' := [(8, .long 0), (7, .int z8.1), (6, .int z7.1), (5, .int z6.1), (4, .int z5.1), (0, .ref (w 0)), (1, .int v1), (2, .int v2), (3, .int v3)]) hx hb dX6_drift_100 hl (by decide) rfl (fun ls hl => ?_)
            refine lv_aload_n hx hb dX6_drift_102 rfl (lv_at hl 5 rfl) ?_
            refine lv_iload hx hb dX6_drift_103 (lv_at hl 4 rfl) ?_
            refine lv_iload hx hb dX6_drift_105 (lv_at hl 3 rfl) ?_
            refine lv_i2l (v := (Int32.toInt64 z6.1)) hx hb dX6_drift_107 rfl ?_
            obtain ⟨z21, hz21, hf⟩ := obd hf
            refine kI (runV (As := [.int z5.1, .long (Int32.toInt64 z6.1)]) (rest := []) C0 hE hAb hP ((hD.weaken (fun _ _ _ h9 => hAb _ h9)).addr rfl) hS [0, 1] (wc := [oX6 w z4.2 z8.2 w_entries, aJ cJ (w 1) 3420 z4.1]) (by decide) rfl 0 rfl rfl (c_X6_lacks l D cI cJ cZ cQ bs H.size w z4.2 z8.2 w_entries z4.1 z5.1 (Int32.toInt64 z6.1) z21 hz21) (cwV 2 hts gX6_drift_X6_lacks rfl rfl rfl (by decide +kernel) ⟨Nat.le_of_ble_eq_true rfl, Nat.le_of_ble_eq_true rfl⟩) rfl hl.1 rfl (Nat.le_of_ble_eq_true rfl) dX6_drift_108 ⟨Nat.le_of_ble_eq_true rfl, Nat.le_of_ble_eq_true rfl⟩) hS hP (fun H locs hP hS => ?_)
            refine lv_if_ne (tgt := 142) hx hb dX6_drift_111 (by decide) (fun c22 => ?_) (fun c22 => ?_)
            · replace hf := oel c22 hf
              obtain ⟨y23, ey23⟩ : ∃ y : Int32, y = v3 + 1 := ⟨_, rfl⟩
              replace hf := onm ey23 hf
              refine lv_iinc (v := y23) (lv' := [(3, .int y23), (8, .long 0), (7, .int z8.1), (6, .int z7.1), (5, .int z6.1), (4, .int z5.1), (0, .ref (w 0)), (1, .int v1), (2, .int v2)]) hx hb dX6_drift_142 hl (k := 8) rfl (by rw [ey23]; rfl) (by decide) rfl (fun ls hl => ?_)
              refine lv_goto (tgt := 19) hx hb dX6_drift_145 (by decide) ?_
              exact ih v1 v2 y23 z4.1 z4.2 z8.2 H locs ls z hP hS (lv_sub hl [6, 7, 8, 0] rfl) hf K
            · replace hf := oif c22 hf
              refine lv_aload_n hx hb dX6_drift_114 rfl (lv_at hl 5 rfl) ?_
              refine lv_iload hx hb dX6_drift_115 (lv_at hl 4 rfl) ?_
              refine lv_iload hx hb dX6_drift_117 (lv_at hl 2 rfl) ?_
              refine lv_lload hx hb dX6_drift_119 (lv_at hl 0 rfl) ?_
              obtain ⟨z24, hz24, hf⟩ := obd hf
              refine kZ (runV (As := [.int z5.1, .int z7.1, .long 0]) (rest := []) C0 hE hAb hP ((hD.weaken (fun _ _ _ h9 => hAb _ h9)).addr rfl) hS [0, 1] (wc := [oX6 w z4.2 z8.2 w_entries, aJ cJ (w 1) 3420 z4.1]) (by decide) rfl 0 rfl rfl (c_X6_takes l D cI cJ cZ cQ bs H.size w z4.2 z8.2 w_entries z4.1 z5.1 z7.1 0 z24 hz24) (cwV 3 hts gX6_drift_X6_takes rfl rfl rfl (by decide +kernel) ⟨Nat.le_of_ble_eq_true rfl, Nat.le_of_ble_eq_true rfl⟩) rfl hl.1 rfl (Nat.le_of_ble_eq_true rfl) dX6_drift_121 ⟨Nat.le_of_ble_eq_true rfl, Nat.le_of_ble_eq_true rfl⟩) hS hP (fun bz24 H locs hP hS => ?_)
              refine lv_if_eq (tgt := 142) hx hb dX6_drift_124 (by decide) (fun c25 => ?_) (fun c25 => ?_)
              · replace hf := oif c25 hf
                obtain ⟨y26, ey26⟩ : ∃ y : Int32, y = v3 + 1 := ⟨_, rfl⟩
                replace hf := onm ey26 hf
                refine lv_iinc (v := y26) (lv' := [(3, .int y26), (8, .long 0), (7, .int z8.1), (6, .int z7.1), (5, .int z6.1), (4, .int z5.1), (0, .ref (w 0)), (1, .int v1), (2, .int v2)]) hx hb dX6_drift_142 hl (k := 8) rfl (by rw [ey26]; rfl) (by decide) rfl (fun ls hl => ?_)
                refine lv_goto (tgt := 19) hx hb dX6_drift_145 (by decide) ?_
                exact ih v1 v2 y26 z4.1 z4.2 z8.2 H locs ls z hP hS (lv_sub hl [6, 7, 8, 0] rfl) hf K
              · replace hf := oel c25 hf
                refine lv_aload_n hx hb dX6_drift_127 rfl (lv_at hl 5 rfl) ?_
                refine lv_iload hx hb dX6_drift_128 (lv_at hl 4 rfl) ?_
                refine lv_iload hx hb dX6_drift_130 (lv_at hl 3 rfl) ?_
                refine lv_iload hx hb dX6_drift_132 (lv_at hl 2 rfl) ?_
                refine lv_lload hx hb dX6_drift_134 (lv_at hl 0 rfl) ?_
                obtain ⟨z27, hz27, hf⟩ := obd hf
                refine kwV (runV (As := [.int z5.1, .int z6.1, .int z7.1, .long 0]) (rest := []) C0 hE hAb hP ((hD.weaken (fun _ _ _ h9 => hAb _ h9)).addr rfl) hS [0, 1] (wc := [oX6 w z4.2 z8.2 w_entries, aJ cJ (w 1) 3420 z4.1]) (by decide) rfl 0 rfl rfl (c_X6_sets l D cI cJ cZ cQ bs H.size w z4.2 z8.2 w_entries z4.1 z5.1 z6.1 z7.1 0 z27 hz27) (cwV 4 hts gX6_drift_X6_sets rfl rfl rfl (by decide +kernel) ⟨Nat.le_of_ble_eq_true rfl, Nat.le_of_ble_eq_true rfl⟩) rfl hl.1 rfl (Nat.le_of_ble_eq_true rfl) dX6_drift_136 ⟨Nat.le_of_ble_eq_true rfl, Nat.le_of_ble_eq_true rfl⟩) hS hP (hD.addr rfl) hA [0, 1] rfl rfl (ws' := [oX6 w z4.2 z8.2 w_entries, aJ cJ (w 1) 3420 z27]) rfl rfl (fun H locs hP hS => ?_)
                obtain ⟨y28, ey28⟩ : ∃ y : Int32, y = v2 + 1 := ⟨_, rfl⟩
                replace hf := onm ey28 hf
                refine lv_iinc (v := y28) (lv' := [(2, .int y28), (8, .long 0), (7, .int z8.1), (6, .int z7.1), (5, .int z6.1), (4, .int z5.1), (0, .ref (w 0)), (1, .int v1), (3, .int v3)]) hx hb dX6_drift_139 hl (k := 7) rfl (by rw [ey28]; rfl) (by decide) rfl (fun ls hl => ?_)
                obtain ⟨y29, ey29⟩ : ∃ y : Int32, y = v3 + 1 := ⟨_, rfl⟩
                replace hf := onm ey29 hf
                refine lv_iinc (v := y29) (lv' := [(3, .int y29), (2, .int y28), (8, .long 0), (7, .int z8.1), (6, .int z7.1), (5, .int z6.1), (4, .int z5.1), (0, .ref (w 0)), (1, .int v1)]) hx hb dX6_drift_142 hl (k := 8) rfl (by rw [ey29]; rfl) (by decide) rfl (fun ls hl => ?_)
                refine lv_goto (tgt := 19) hx hb dX6_drift_145 (by decide) ?_
                exact ih v1 y28 y29 z27 z4.2 z8.2 H locs ls z hP hS (lv_sub hl [7, 8, 1, 0] rfl) hf K
        · replace hf := oif c9 hf
          refine lv_iload hx hb dX6_drift_68 (lv_at hl 0 rfl) ?_
          refine lv_bipush (v := 8) hx hb dX6_drift_70 (by decide) ?_
          refine lv_irem hx hb dX6_drift_72 (by decide) ?_
          refine lv_i2l (v := (Int32.toInt64 (z8.1 - z8.1 / (8 : Int32) * (8 : Int32)))) hx hb dX6_drift_73 rfl ?_
          refine lv_goto (tgt := 100) hx hb dX6_drift_74 (by decide) ?_
          refine lv_topl (fun y31 ey31 => ?_)
          replace hf := onm ey31 hf
          refine lv_lstore (lv' := [(8, .long y31), (7, .int z8.1), (6, .int z7.1), (5, .int z6.1), (4, .int z5.1), (0, .ref (w 0)), (1, .int v1), (2, .int v2), (3, .int v3)]) hx hb dX6_drift_100 hl (by decide) rfl (fun ls hl => ?_)
          refine lv_aload_n hx hb dX6_drift_102 rfl (lv_at hl 5 rfl) ?_
          refine lv_iload hx hb dX6_drift_103 (lv_at hl 4 rfl) ?_
          refine lv_iload hx hb dX6_drift_105 (lv_at hl 3 rfl) ?_
          refine lv_i2l (v := (Int32.toInt64 z6.1)) hx hb dX6_drift_107 rfl ?_
          obtain ⟨z32, hz32, hf⟩ := obd hf
          refine kI (runV (As := [.int z5.1, .long (Int32.toInt64 z6.1)]) (rest := []) C0 hE hAb hP ((hD.weaken (fun _ _ _ h9 => hAb _ h9)).addr rfl) hS [0, 1] (wc := [oX6 w z4.2 z8.2 w_entries, aJ cJ (w 1) 3420 z4.1]) (by decide) rfl 0 rfl rfl (c_X6_lacks l D cI cJ cZ cQ bs H.size w z4.2 z8.2 w_entries z4.1 z5.1 (Int32.toInt64 z6.1) z32 hz32) (cwV 2 hts gX6_drift_X6_lacks rfl rfl rfl (by decide +kernel) ⟨Nat.le_of_ble_eq_true rfl, Nat.le_of_ble_eq_true rfl⟩) rfl hl.1 rfl (Nat.le_of_ble_eq_true rfl) dX6_drift_108 ⟨Nat.le_of_ble_eq_true rfl, Nat.le_of_ble_eq_true rfl⟩) hS hP (fun H locs hP hS => ?_)
          refine lv_if_ne (tgt := 142) hx hb dX6_drift_111 (by decide) (fun c33 => ?_) (fun c33 => ?_)
          · replace hf := oel c33 hf
            obtain ⟨y34, ey34⟩ : ∃ y : Int32, y = v3 + 1 := ⟨_, rfl⟩
            replace hf := onm ey34 hf
            refine lv_iinc (v := y34) (lv' := [(3, .int y34), (8, .long y31), (7, .int z8.1), (6, .int z7.1), (5, .int z6.1), (4, .int z5.1), (0, .ref (w 0)), (1, .int v1), (2, .int v2)]) hx hb dX6_drift_142 hl (k := 8) rfl (by rw [ey34]; rfl) (by decide) rfl (fun ls hl => ?_)
            refine lv_goto (tgt := 19) hx hb dX6_drift_145 (by decide) ?_
            exact ih v1 v2 y34 z4.1 z4.2 z8.2 H locs ls z hP hS (lv_sub hl [6, 7, 8, 0] rfl) hf K
          · replace hf := oif c33 hf
            refine lv_aload_n hx hb dX6_drift_114 rfl (lv_at hl 5 rfl) ?_
            refine lv_iload hx hb dX6_drift_115 (lv_at hl 4 rfl) ?_
            refine lv_iload hx hb dX6_drift_117 (lv_at hl 2 rfl) ?_
            refine lv_lload hx hb dX6_drift_119 (lv_at hl 0 rfl) ?_
            obtain ⟨z35, hz35, hf⟩ := obd hf
            refine kZ (runV (As := [.int z5.1, .int z7.1, .long y31]) (rest := []) C0 hE hAb hP ((hD.weaken (fun _ _ _ h9 => hAb _ h9)).addr rfl) hS [0, 1] (wc := [oX6 w z4.2 z8.2 w_entries, aJ cJ (w 1) 3420 z4.1]) (by decide) rfl 0 rfl rfl (c_X6_takes l D cI cJ cZ cQ bs H.size w z4.2 z8.2 w_entries z4.1 z5.1 z7.1 y31 z35 hz35) (cwV 3 hts gX6_drift_X6_takes rfl rfl rfl (by decide +kernel) ⟨Nat.le_of_ble_eq_true rfl, Nat.le_of_ble_eq_true rfl⟩) rfl hl.1 rfl (Nat.le_of_ble_eq_true rfl) dX6_drift_121 ⟨Nat.le_of_ble_eq_true rfl, Nat.le_of_ble_eq_true rfl⟩) hS hP (fun bz35 H locs hP hS => ?_)
            refine lv_if_eq (tgt := 142) hx hb dX6_drift_124 (by decide) (fun c36 => ?_) (fun c36 => ?_)
            · replace hf := oif c36 hf
              obtain ⟨y37, ey37⟩ : ∃ y : Int32, y = v3 + 1 := ⟨_, rfl⟩
              replace hf := onm ey37 hf
              refine lv_iinc (v := y37) (lv' := [(3, .int y37), (8, .long y31), (7, .int z8.1), (6, .int z7.1), (5, .int z6.1), (4, .int z5.1), (0, .ref (w 0)), (1, .int v1), (2, .int v2)]) hx hb dX6_drift_142 hl (k := 8) rfl (by rw [ey37]; rfl) (by decide) rfl (fun ls hl => ?_)
              refine lv_goto (tgt := 19) hx hb dX6_drift_145 (by decide) ?_
              exact ih v1 v2 y37 z4.1 z4.2 z8.2 H locs ls z hP hS (lv_sub hl [6, 7, 8, 0] rfl) hf K
            · replace hf := oel c36 hf
              refine lv_aload_n hx hb dX6_drift_127 rfl (lv_at hl 5 rfl) ?_
              refine lv_iload hx hb dX6_drift_128 (lv_at hl 4 rfl) ?_
              refine lv_iload hx hb dX6_drift_130 (lv_at hl 3 rfl) ?_
              refine lv_iload hx hb dX6_drift_132 (lv_at hl 2 rfl) ?_
              refine lv_lload hx hb dX6_drift_134 (lv_at hl 0 rfl) ?_
              obtain ⟨z38, hz38, hf⟩ := obd hf
              refine kwV (runV (As := [.int z5.1, .int z6.1, .int z7.1, .long y31]) (rest := []) C0 hE hAb hP ((hD.weaken (fun _ _ _ h9 => hAb _ h9)).addr rfl) hS [0, 1] (wc := [oX6 w z4.2 z8.2 w_entries, aJ cJ (w 1) 3420 z4.1]) (by decide) rfl 0 rfl rfl (c_X6_sets l D cI cJ cZ cQ bs H.size w z4.2 z8.2 w_entries z4.1 z5.1 z6.1 z7.1 y31 z38 hz38) (cwV 4 hts gX6_drift_X6_sets rfl rfl rfl (by decide +kernel) ⟨Nat.le_of_ble_eq_true rfl, Nat.le_of_ble_eq_true rfl⟩) rfl hl.1 rfl (Nat.le_of_ble_eq_true rfl) dX6_drift_136 ⟨Nat.le_of_ble_eq_true rfl, Nat.le_of_ble_eq_true rfl⟩) hS hP (hD.addr rfl) hA [0, 1] rfl rfl (ws' := [oX6 w z4.2 z8.2 w_entries, aJ cJ (w 1) 3420 z38]) rfl rfl (fun H locs hP hS => ?_)
              obtain ⟨y39, ey39⟩ : ∃ y : Int32, y = v2 + 1 := ⟨_, rfl⟩
              replace hf := onm ey39 hf
              refine lv_iinc (v := y39) (lv' := [(2, .int y39), (8, .long y31), (7, .int z8.1), (6, .int z7.1), (5, .int z6.1), (4, .int z5.1), (0, .ref (w 0)), (1, .int v1), (3, .int v3)]) hx hb dX6_drift_139 hl (k := 7) rfl (by rw [ey39]; rfl) (by decide) rfl (fun ls hl => ?_)
              obtain ⟨y40, ey40⟩ : ∃ y : Int32, y = v3 + 1 := ⟨_, rfl⟩
              replace hf := onm ey40 hf
              refine lv_iinc (v := y40) (lv' := [(3, .int y40), (2, .int y39), (8, .long y31), (7, .int z8.1), (6, .int z7.1), (5, .int z6.1), (4, .int z5.1), (0, .ref (w 0)), (1, .int v1)]) hx hb dX6_drift_142 hl (k := 8) rfl (by rw [ey40]; rfl) (by decide) rfl (fun ls hl => ?_)
              refine lv_goto (tgt := 19) hx hb dX6_drift_145 (by decide) ?_
              exact ih v1 y39 y40 z38 z4.2 z8.2 H locs ls z hP hS (lv_sub hl [7, 8, 1, 0] rfl) hf K
  unfold f_X6_drift at hf
  have go : ∀ (H : Heap) (locs : List Loc), va_P D vwCl [oX6 w w_undos w_seed w_entries, aJ cJ (w 1) 3420 w_w] H → va_S A s.heap H locs → W p l e { frames := 3, cells := 0, slots := 0, locals := 82 } s m args below meth c H locs 0 0 (MQ below (QwI D zr (fun u => [oX6 w u.2.1 u.2.2 w_entries, aJ cJ (w 1) 3420 u.1]) A) args s 0 0 A) (F0 m 0 ls []) := by
    intro H locs hP hS
    refine lv_iload_n hx hb dX6_drift_0 rfl (lv_at hl 1 rfl) ?_
    refine lv_i2l (v := (Int32.toInt64 x1)) hx hb dX6_drift_1 rfl ?_
    refine lv_lconst (v := 1) hx hb dX6_drift_2 (by decide) ?_
    refine lv_ldc2 hx hb hown gk237 dX6_drift_3 ?_
    obtain ⟨z1, hz1, hf⟩ := obd hf
    refine kZ (runS (As := [.long (Int32.toInt64 x1), .long 1, .long 12]) (rest := []) C0 hE hAb hP ((hD.weaken (fun _ _ _ h9 => hAb _ h9)).addr rfl) hS [] (wc := []) (by decide) rfl (c_X6_in l D cI cJ cZ cQ bs H.size (Int32.toInt64 x1) 1 12 z1 hz1) (va_cwS 3 hts gX6_drift_X6_in rfl rfl rfl (by decide +kernel) ⟨Nat.le_of_ble_eq_true rfl, Nat.le_of_ble_eq_true rfl⟩) rfl hl.1 rfl (Nat.le_of_ble_eq_true rfl) dX6_drift_6 ⟨Nat.le_of_ble_eq_true rfl, Nat.le_of_ble_eq_true rfl⟩) hS hP (fun bz1 H locs hP hS => ?_)
    refine lv_if_ne (tgt := 15) hx hb dX6_drift_9 (by decide) (fun c2 => ?_) (fun c2 => ?_)
    · replace hf := oel c2 hf
      refine lv_iconst (v := 0) hx hb dX6_drift_15 (by decide) ?_
      refine lv_istore_n (lv' := [(2, .int 0), (0, .ref (w 0)), (1, .int x1)]) hx hb dX6_drift_16 rfl hl (by decide) rfl (fun ls hl => ?_)
      refine lv_iconst (v := 0) hx hb dX6_drift_17 (by decide) ?_
      refine lv_istore_n (lv' := [(3, .int 0), (2, .int 0), (0, .ref (w 0)), (1, .int x1)]) hx hb dX6_drift_18 rfl hl (by decide) rfl (fun ls hl => ?_)
      obtain ⟨z41, hz41, hf⟩ := obd hf
      refine W19 4000 x1 0 0 w_w w_undos w_seed H locs ls z41 hP hS (lv_sub hl [2, 3, 1, 0] rfl) hz41 (fun H locs ls hP hS hl => ?_)
      refine lv_iload_n hx hb dX6_drift_148 rfl (lv_at hl 0 rfl) ?_
      have er := Option.some.inj hf
      exact rwI (wm := (fun u => [oX6 w u.2.1 u.2.2 w_entries, aJ cJ (w 1) 3420 u.1])) hx hb hr hS dX6_drift_149 hP er hlocks
    · replace hf := oif c2 hf
      refine lv_ldc hx hb hown gk192 dX6_drift_12 ?_
      have er := Option.some.inj hf
      exact rwI (wm := (fun u => [oX6 w u.2.1 u.2.2 w_entries, aJ cJ (w 1) 3420 u.1])) hx hb hr hS dX6_drift_14 hP er hlocks
  exact go s.heap [] hP hS
noncomputable def f_X6_undo (w_w : Nat → Int64) (w_undos : Int32) (x1 : Int32) : Option (Int32 × (Nat → Int64) × Int32) := (f_X6_in (Int32.toInt64 x1) 1 16).bind (fun z1 => if z1 = 0 then (some (((-1000000002), w_w, w_undos))) else (if x1 ≤ w_undos then ((f_X6_copy w_w ((540 : Int32) + ((180 : Int32) * (w_undos - x1))) 0).bind (fun z4 => some (((w_undos - x1), z4, (w_undos - x1))))) else (some (((-1000000003), w_w, w_undos)))))
set_option maxHeartbeats 4000000 in
set_option maxRecDepth 100000 in
theorem c_X6_undo (l : Launch) (D : va_G) (cI cJ cZ cQ : ClassId) (bs sz : Nat) (w : Nat → Nat) (w_undos : Int32) (w_seed : Int32) (w_entries : Int32) (w_w : Nat → Int64) (x1 : Int32) (zr : Int32 × (Nat → Int64) × Int32) (hf : f_X6_undo w_w w_undos x1 = some zr) : Met l yX6_undo wsX6_undo { frames := 1, cells := 0, slots := 0, locals := 25 } (va_Pc [.ref (w 0), .int x1] (Pr D cI cJ cZ cQ bs sz [oX6 w w_undos w_seed w_entries, aJ cJ (w 1) 3420 w_w])) (QwI D zr (fun u => [oX6 w u.2 w_seed w_entries, aJ cJ (w 1) 3420 u.1]) (va_A [oX6 w w_undos w_seed w_entries, aJ cJ (w 1) 3420 w_w] sz)) 0 0 (va_A [oX6 w w_undos w_seed w_entries, aJ cJ (w 1) 3420 w_w] sz) := by
  refine stW (cc := cX6_undo) (maxL := 2) (ret := (some .int)) (Qf := fun A => (QwI D zr (fun u => [oX6 w u.2 w_seed w_entries, aJ cJ (w 1) 3420 u.1]) A)) (by decide +kernel) rfl (Nat.le_of_ble_eq_true rfl) ?_
  intro p e s m args below meth c A C0 hr hlocks hname hsz hP hD hA hAb hE ls hl
  obtain ⟨hx, hb, hml, hown, hts⟩ := id C0
  have hown : s.vm.findClass RX6 = some m.cls := hown
  obtain ⟨hK, hNW, -, tw, hZ, hT⟩ := id hE
  have hl : lv_has ls 2 [(0, .ref (w 0)), (1, .int x1)] := hl
  have hS : va_S A s.heap s.heap [] := va_S.rf
  have gk275 := hts (.constantLong RX6 275 (16)) (by decide +kernel)
  have hI_X6 := (show ∀ w ∈ wsX60, w ∈ wsX6_undo by decide +kernel)
  have gf43 := hts (.fieldLink RX6 43 "RowRanksModel" "undos" "I") (by decide +kernel)
  have gk246 := hts (.constant RX6 246 (-1000000003)) (by decide +kernel)
  have gk192 := hts (.constant RX6 192 (-1000000002)) (by decide +kernel)
  unfold f_X6_undo at hf
  have go : ∀ (H : Heap) (locs : List Loc), va_P D vwCl [oX6 w w_undos w_seed w_entries, aJ cJ (w 1) 3420 w_w] H → va_S A s.heap H locs → W p l e { frames := 1, cells := 0, slots := 0, locals := 25 } s m args below meth c H locs 0 0 (MQ below (QwI D zr (fun u => [oX6 w u.2 w_seed w_entries, aJ cJ (w 1) 3420 u.1]) A) args s 0 0 A) (F0 m 0 ls []) := by
    intro H locs hP hS
    refine lv_iload_n hx hb dX6_undo_0 rfl (lv_at hl 1 rfl) ?_
    refine lv_i2l (v := (Int32.toInt64 x1)) hx hb dX6_undo_1 rfl ?_
    refine lv_lconst (v := 1) hx hb dX6_undo_2 (by decide) ?_
    refine lv_ldc2 hx hb hown gk275 dX6_undo_3 ?_
    obtain ⟨z1, hz1, hf⟩ := obd hf
    refine kZ (runS (As := [.long (Int32.toInt64 x1), .long 1, .long 16]) (rest := []) C0 hE hAb hP ((hD.weaken (fun _ _ _ h9 => hAb _ h9)).addr rfl) hS [] (wc := []) (by decide) rfl (c_X6_in l D cI cJ cZ cQ bs H.size (Int32.toInt64 x1) 1 16 z1 hz1) (va_cwS 3 hts gX6_undo_X6_in rfl rfl rfl (by decide +kernel) ⟨Nat.le_of_ble_eq_true rfl, Nat.le_of_ble_eq_true rfl⟩) rfl hl.1 rfl (Nat.le_of_ble_eq_true rfl) dX6_undo_6 ⟨Nat.le_of_ble_eq_true rfl, Nat.le_of_ble_eq_true rfl⟩) hS hP (fun bz1 H locs hP hS => ?_)
    refine lv_if_ne (tgt := 15) hx hb dX6_undo_9 (by decide) (fun c2 => ?_) (fun c2 => ?_)
    · replace hf := oel c2 hf
      refine lv_iload_n hx hb dX6_undo_15 rfl (lv_at hl 1 rfl) ?_
      refine lv_aload_n hx hb dX6_undo_16 rfl (lv_at hl 0 rfl) ?_
      refine va_get (D := D) (ci := 6) (v := .int w_undos) (C := RX6) (T := TX6) (N := 12) hx hb hts hI_X6 hown hK hP 0 rfl rfl 3 (by decide) gf43 (fun _ h9 => h9) rfl dX6_undo_17 ?_
      refine lv_icmp_le (tgt := 26) hx hb dX6_undo_20 (by decide) (fun c3 => ?_) (fun c3 => ?_)
      · replace hf := oif c3 hf
        refine lv_aload_n hx hb dX6_undo_26 rfl (lv_at hl 0 rfl) ?_
        refine lv_dup hx hb dX6_undo_27 rfl ?_
        refine va_get (D := D) (ci := 6) (v := .int w_undos) (C := RX6) (T := TX6) (N := 12) hx hb hts hI_X6 hown hK hP 0 rfl rfl 3 (by decide) gf43 (fun _ h9 => h9) rfl dX6_undo_28 ?_
        refine lv_iload_n hx hb dX6_undo_31 rfl (lv_at hl 1 rfl) ?_
        refine lv_isub hx hb dX6_undo_32 ?_
        refine va_put (D := D) (ci := 6) (v := .int (w_undos - x1)) (ty := .int) (C := RX6) (T := TX6) (N := 12) hx hb hts hI_X6 tyX6 tyX6_ok nmX6 hown hK hP (hD.addr rfl) hS 0 rfl rfl 3 (by decide) gf43 (fun _ h9 => h9) rfl (by decide +kernel) rfl rfl (Nat.le_of_ble_eq_true rfl) dX6_undo_33 (fun H locs hP _ hS => ?_)
        have hP : va_P D vwCl [oX6 w (w_undos - x1) w_seed w_entries, aJ cJ (w 1) 3420 w_w] H := hP
        refine lv_aload_n hx hb dX6_undo_36 rfl (lv_at hl 0 rfl) ?_
        refine lv_sipush (v := 540) hx hb dX6_undo_37 (by decide) ?_
        refine lv_sipush (v := 180) hx hb dX6_undo_40 (by decide) ?_
        refine lv_aload_n hx hb dX6_undo_43 rfl (lv_at hl 0 rfl) ?_
        refine va_get (D := D) (ci := 6) (v := .int (w_undos - x1)) (C := RX6) (T := TX6) (N := 12) hx hb hts hI_X6 hown hK hP 0 rfl rfl 3 (by decide) gf43 (fun _ h9 => h9) rfl dX6_undo_44 ?_
        refine lv_imul hx hb dX6_undo_47 ?_
        refine lv_iadd hx hb dX6_undo_48 ?_
        refine lv_iconst (v := 0) hx hb dX6_undo_49 (by decide) ?_
        obtain ⟨z4, hz4, hf⟩ := obd hf
        refine kwV (runV (As := [.int ((540 : Int32) + ((180 : Int32) * (w_undos - x1))), .int 0]) (rest := []) C0 hE hAb hP ((hD.weaken (fun _ _ _ h9 => hAb _ h9)).addr rfl) hS [0, 1] (wc := [oX6 w (w_undos - x1) w_seed w_entries, aJ cJ (w 1) 3420 w_w]) (by decide) rfl 0 rfl rfl (c_X6_copy l D cI cJ cZ cQ bs H.size w (w_undos - x1) w_seed w_entries w_w ((540 : Int32) + ((180 : Int32) * (w_undos - x1))) 0 z4 hz4) (cwV 2 hts gX6_undo_X6_copy rfl rfl rfl (by decide +kernel) ⟨Nat.le_of_ble_eq_true rfl, Nat.le_of_ble_eq_true rfl⟩) rfl hl.1 rfl (Nat.le_of_ble_eq_true rfl) dX6_undo_50 ⟨Nat.le_of_ble_eq_true rfl, Nat.le_of_ble_eq_true rfl⟩) hS hP (hD.addr rfl) hA [0, 1] rfl rfl (ws' := [oX6 w (w_undos - x1) w_seed w_entries, aJ cJ (w 1) 3420 z4]) rfl rfl (fun H locs hP hS => ?_)
        refine lv_aload_n hx hb dX6_undo_53 rfl (lv_at hl 0 rfl) ?_
        refine va_get (D := D) (ci := 6) (v := .int (w_undos - x1)) (C := RX6) (T := TX6) (N := 12) hx hb hts hI_X6 hown hK hP 0 rfl rfl 3 (by decide) gf43 (fun _ h9 => h9) rfl dX6_undo_54 ?_
        have er := Option.some.inj hf
        exact rwI (wm := (fun u => [oX6 w u.2 w_seed w_entries, aJ cJ (w 1) 3420 u.1])) hx hb hr hS dX6_undo_57 hP er hlocks
      · replace hf := oel c3 hf
        refine lv_ldc hx hb hown gk246 dX6_undo_23 ?_
        have er := Option.some.inj hf
        exact rwI (wm := (fun u => [oX6 w u.2 w_seed w_entries, aJ cJ (w 1) 3420 u.1])) hx hb hr hS dX6_undo_25 hP er hlocks
    · replace hf := oif c2 hf
      refine lv_ldc hx hb hown gk192 dX6_undo_12 ?_
      have er := Option.some.inj hf
      exact rwI (wm := (fun u => [oX6 w u.2 w_seed w_entries, aJ cJ (w 1) 3420 u.1])) hx hb hr hS dX6_undo_14 hP er hlocks
  exact go s.heap [] hP hS
noncomputable def f_X6_write (w_w : Nat → Int64) (w_entries : Int32) (w_bookPlace : Nat → Int32) (w_bookPosition : Nat → Int32) (x1 : Int32) (x2 : Int32) : Option (Int32 × Int32 × (Nat → Int32) × (Nat → Int32)) := (f_X6_isPlace w_w x1).bind (fun z1 => if z1 = 0 then (some (((-1000000001), w_entries, w_bookPlace, w_bookPosition))) else (if w_entries = 20 then (some (((-1000000004), w_entries, w_bookPlace, w_bookPosition))) else (if ib w_entries 20 = true then ((some (upd w_bookPlace w_entries.toNatClampNeg x1 : Nat → Int32)).bind (fun h4a => if ib w_entries 20 = true then ((some (upd w_bookPosition w_entries.toNatClampNeg x2 : Nat → Int32)).bind (fun h5a => some (((w_entries + (1 : Int32)), (w_entries + (1 : Int32)), h4a, h5a)))) else none)) else none)))
set_option maxHeartbeats 4000000 in
set_option maxRecDepth 100000 in
theorem c_X6_write (l : Launch) (D : va_G) (cI cJ cZ cQ : ClassId) (bs sz : Nat) (w : Nat → Nat) (w_undos : Int32) (w_seed : Int32) (w_entries : Int32) (w_w : Nat → Int64) (w_bookPlace : Nat → Int32) (w_bookPosition : Nat → Int32) (x1 : Int32) (x2 : Int32) (zr : Int32 × Int32 × (Nat → Int32) × (Nat → Int32)) (hf : f_X6_write w_w w_entries w_bookPlace w_bookPosition x1 x2 = some zr) : Met l yX6_write wsX6_write { frames := 4, cells := 0, slots := 0, locals := 87 } (va_Pc [.ref (w 0), .int x1, .int x2] (Pr D cI cJ cZ cQ bs sz [oX6 w w_undos w_seed w_entries, aJ cJ (w 1) 3420 w_w, aI cI (w 4) 20 w_bookPlace, aI cI (w 5) 20 w_bookPosition])) (QwI D zr (fun u => [oX6 w w_undos w_seed u.1, aJ cJ (w 1) 3420 w_w, aI cI (w 4) 20 u.2.1, aI cI (w 5) 20 u.2.2]) (va_A [oX6 w w_undos w_seed w_entries, aJ cJ (w 1) 3420 w_w, aI cI (w 4) 20 w_bookPlace, aI cI (w 5) 20 w_bookPosition] sz)) 0 0 (va_A [oX6 w w_undos w_seed w_entries, aJ cJ (w 1) 3420 w_w, aI cI (w 4) 20 w_bookPlace, aI cI (w 5) 20 w_bookPosition] sz) := by
  refine stW (cc := cX6_write) (maxL := 3) (ret := (some .int)) (Qf := fun A => (QwI D zr (fun u => [oX6 w w_undos w_seed u.1, aJ cJ (w 1) 3420 w_w, aI cI (w 4) 20 u.2.1, aI cI (w 5) 20 u.2.2]) A)) (by decide +kernel) rfl (Nat.le_of_ble_eq_true rfl) ?_
  intro p e s m args below meth c A C0 hr hlocks hname hsz hP hD hA hAb hE ls hl
  obtain ⟨hx, hb, hml, hown, hts⟩ := id C0
  have hown : s.vm.findClass RX6 = some m.cls := hown
  obtain ⟨hK, hNW, -, tw, hZ, hT⟩ := id hE
  have hl : lv_has ls 3 [(0, .ref (w 0)), (1, .int x1), (2, .int x2)] := hl
  have hS : va_S A s.heap s.heap [] := va_S.rf
  have hI_X6 := (show ∀ w ∈ wsX60, w ∈ wsX6_write by decide +kernel)
  have gf154 := hts (.fieldLink RX6 154 "RowRanksModel" "entries" "I") (by decide +kernel)
  have gf21 := hts (.fieldLink RX6 21 "RowRanksModel" "bookPlace" "[I") (by decide +kernel)
  have gf24 := hts (.fieldLink RX6 24 "RowRanksModel" "bookPosition" "[I") (by decide +kernel)
  have gk251 := hts (.constant RX6 251 (-1000000004)) (by decide +kernel)
  have gk198 := hts (.constant RX6 198 (-1000000001)) (by decide +kernel)
  unfold f_X6_write at hf
  have go : ∀ (H : Heap) (locs : List Loc), va_P D vwCl [oX6 w w_undos w_seed w_entries, aJ cJ (w 1) 3420 w_w, aI cI (w 4) 20 w_bookPlace, aI cI (w 5) 20 w_bookPosition] H → va_S A s.heap H locs → W p l e { frames := 4, cells := 0, slots := 0, locals := 87 } s m args below meth c H locs 0 0 (MQ below (QwI D zr (fun u => [oX6 w w_undos w_seed u.1, aJ cJ (w 1) 3420 w_w, aI cI (w 4) 20 u.2.1, aI cI (w 5) 20 u.2.2]) A) args s 0 0 A) (F0 m 0 ls []) := by
    intro H locs hP hS
    refine lv_aload_n hx hb dX6_write_0 rfl (lv_at hl 0 rfl) ?_
    refine lv_iload_n hx hb dX6_write_1 rfl (lv_at hl 1 rfl) ?_
    obtain ⟨z1, hz1, hf⟩ := obd hf
    refine kZ (runV (As := [.int x1]) (rest := []) C0 hE hAb hP ((hD.weaken (fun _ _ _ h9 => hAb _ h9)).addr rfl) hS [0, 1] (wc := [oX6 w w_undos w_seed w_entries, aJ cJ (w 1) 3420 w_w]) (by decide) rfl 0 rfl rfl (c_X6_isPlace l D cI cJ cZ cQ bs H.size w w_undos w_seed w_entries w_w x1 z1 hz1) (cwV 1 hts gX6_write_X6_isPlace rfl rfl rfl (by decide +kernel) ⟨Nat.le_of_ble_eq_true rfl, Nat.le_of_ble_eq_true rfl⟩) rfl hl.1 rfl (Nat.le_of_ble_eq_true rfl) dX6_write_2 ⟨Nat.le_of_ble_eq_true rfl, Nat.le_of_ble_eq_true rfl⟩) hS hP (fun bz1 H locs hP hS => ?_)
    refine lv_if_ne (tgt := 11) hx hb dX6_write_5 (by decide) (fun c2 => ?_) (fun c2 => ?_)
    · replace hf := oel c2 hf
      refine lv_aload_n hx hb dX6_write_11 rfl (lv_at hl 0 rfl) ?_
      refine va_get (D := D) (ci := 6) (v := .int w_entries) (C := RX6) (T := TX6) (N := 12) hx hb hts hI_X6 hown hK hP 0 rfl rfl 5 (by decide) gf154 (fun _ h9 => h9) rfl dX6_write_12 ?_
      refine lv_bipush (v := 20) hx hb dX6_write_15 (by decide) ?_
      refine lv_icmp_ne (tgt := 23) hx hb dX6_write_17 (by decide) (fun c3 => ?_) (fun c3 => ?_)
      · replace hf := oel c3 hf
        refine lv_aload_n hx hb dX6_write_23 rfl (lv_at hl 0 rfl) ?_
        refine va_get (D := D) (ci := 6) (v := .ref (w 4)) (C := RX6) (T := TX6) (N := 12) hx hb hts hI_X6 hown hK hP 0 rfl rfl 6 (by decide) gf21 (fun _ h9 => h9) rfl dX6_write_24 ?_
        refine lv_aload_n hx hb dX6_write_27 rfl (lv_at hl 0 rfl) ?_
        refine va_get (D := D) (ci := 6) (v := .int w_entries) (C := RX6) (T := TX6) (N := 12) hx hb hts hI_X6 hown hK hP 0 rfl rfl 5 (by decide) gf154 (fun _ h9 => h9) rfl dX6_write_28 ?_
        refine lv_iload_n hx hb dX6_write_31 rfl (lv_at hl 1 rfl) ?_
        obtain ⟨h4, hf⟩ := ogd hf
        refine va_iast hx hb hK hP (hD.addr rfl) hS 2 0 rfl rfl (ib_in h4) dX6_write_32 (fun H locs hP _ hS => ?_)
        obtain ⟨h4a, eh4a⟩ : ∃ y : Nat → Int32, y = upd w_bookPlace w_entries.toNatClampNeg x1 := ⟨_, rfl⟩
        replace hf := onm eh4a hf
        have hP : va_P D vwCl [oX6 w w_undos w_seed w_entries, aJ cJ (w 1) 3420 w_w, aI cI (w 4) 20 h4a, aI cI (w 5) 20 w_bookPosition] H := by rw [eh4a]; exact hP
        refine lv_aload_n hx hb dX6_write_33 rfl (lv_at hl 0 rfl) ?_
        refine va_get (D := D) (ci := 6) (v := .ref (w 5)) (C := RX6) (T := TX6) (N := 12) hx hb hts hI_X6 hown hK hP 0 rfl rfl 7 (by decide) gf24 (fun _ h9 => h9) rfl dX6_write_34 ?_
        refine lv_aload_n hx hb dX6_write_37 rfl (lv_at hl 0 rfl) ?_
        refine va_get (D := D) (ci := 6) (v := .int w_entries) (C := RX6) (T := TX6) (N := 12) hx hb hts hI_X6 hown hK hP 0 rfl rfl 5 (by decide) gf154 (fun _ h9 => h9) rfl dX6_write_38 ?_
        refine lv_iload_n hx hb dX6_write_41 rfl (lv_at hl 2 rfl) ?_
        obtain ⟨h5, hf⟩ := ogd hf
        refine va_iast hx hb hK hP (hD.addr rfl) hS 3 0 rfl rfl (ib_in h5) dX6_write_42 (fun H locs hP _ hS => ?_)
        obtain ⟨h5a, eh5a⟩ : ∃ y : Nat → Int32, y = upd w_bookPosition w_entries.toNatClampNeg x2 := ⟨_, rfl⟩
        replace hf := onm eh5a hf
        have hP : va_P D vwCl [oX6 w w_undos w_seed w_entries, aJ cJ (w 1) 3420 w_w, aI cI (w 4) 20 h4a, aI cI (w 5) 20 h5a] H := by rw [eh5a]; exact hP
        refine lv_aload_n hx hb dX6_write_43 rfl (lv_at hl 0 rfl) ?_
        refine lv_dup hx hb dX6_write_44 rfl ?_
        refine va_get (D := D) (ci := 6) (v := .int w_entries) (C := RX6) (T := TX6) (N := 12) hx hb hts hI_X6 hown hK hP 0 rfl rfl 5 (by decide) gf154 (fun _ h9 => h9) rfl dX6_write_45 ?_
        refine lv_iconst (v := 1) hx hb dX6_write_48 (by decide) ?_
        refine lv_iadd hx hb dX6_write_49 ?_
        refine va_put (D := D) (ci := 6) (v := .int (w_entries + (1 : Int32))) (ty := .int) (C := RX6) (T := TX6) (N := 12) hx hb hts hI_X6 tyX6 tyX6_ok nmX6 hown hK hP (hD.addr rfl) hS 0 rfl rfl 5 (by decide) gf154 (fun _ h9 => h9) rfl (by decide +kernel) rfl rfl (Nat.le_of_ble_eq_true rfl) dX6_write_50 (fun H locs hP _ hS => ?_)
        have hP : va_P D vwCl [oX6 w w_undos w_seed (w_entries + (1 : Int32)), aJ cJ (w 1) 3420 w_w, aI cI (w 4) 20 h4a, aI cI (w 5) 20 h5a] H := hP
        refine lv_aload_n hx hb dX6_write_53 rfl (lv_at hl 0 rfl) ?_
        refine va_get (D := D) (ci := 6) (v := .int (w_entries + (1 : Int32))) (C := RX6) (T := TX6) (N := 12) hx hb hts hI_X6 hown hK hP 0 rfl rfl 5 (by decide) gf154 (fun _ h9 => h9) rfl dX6_write_54 ?_
        have er := Option.some.inj hf
        exact rwI (wm := (fun u => [oX6 w w_undos w_seed u.1, aJ cJ (w 1) 3420 w_w, aI cI (w 4) 20 u.2.1, aI cI (w 5) 20 u.2.2])) hx hb hr hS dX6_write_57 hP er hlocks
      · replace hf := oif c3 hf
        refine lv_ldc hx hb hown gk251 dX6_write_20 ?_
        have er := Option.some.inj hf
        exact rwI (wm := (fun u => [oX6 w w_undos w_seed u.1, aJ cJ (w 1) 3420 w_w, aI cI (w 4) 20 u.2.1, aI cI (w 5) 20 u.2.2])) hx hb hr hS dX6_write_22 hP er hlocks
    · replace hf := oif c2 hf
      refine lv_ldc hx hb hown gk198 dX6_write_8 ?_
      have er := Option.some.inj hf
      exact rwI (wm := (fun u => [oX6 w w_undos w_seed u.1, aJ cJ (w 1) 3420 w_w, aI cI (w 4) 20 u.2.1, aI cI (w 5) 20 u.2.2])) hx hb hr hS dX6_write_10 hP er hlocks
  exact go s.heap [] hP hS
noncomputable def f_X6_tear (w_entries : Int32) : Option (Int32 × Int32) := some ((w_entries, 0))
set_option maxHeartbeats 4000000 in
set_option maxRecDepth 100000 in
theorem c_X6_tear (l : Launch) (D : va_G) (cI cJ cZ cQ : ClassId) (bs sz : Nat) (w : Nat → Nat) (w_undos : Int32) (w_seed : Int32) (w_entries : Int32) (zr : Int32 × Int32) (hf : f_X6_tear w_entries = some zr) : Met l yX6_tear wsX6_tear { frames := 0, cells := 0, slots := 0, locals := 0 } (va_Pc [.ref (w 0)] (Pr D cI cJ cZ cQ bs sz [oX6 w w_undos w_seed w_entries])) (QwI D zr (fun u => [oX6 w w_undos w_seed u]) (va_A [oX6 w w_undos w_seed w_entries] sz)) 0 0 (va_A [oX6 w w_undos w_seed w_entries] sz) := by
  refine stW (cc := cX6_tear) (maxL := 2) (ret := (some .int)) (Qf := fun A => (QwI D zr (fun u => [oX6 w w_undos w_seed u]) A)) (by decide +kernel) rfl (Nat.le_of_ble_eq_true rfl) ?_
  intro p e s m args below meth c A C0 hr hlocks hname hsz hP hD hA hAb hE ls hl
  obtain ⟨hx, hb, hml, hown, hts⟩ := id C0
  have hown : s.vm.findClass RX6 = some m.cls := hown
  obtain ⟨hK, hNW, -, tw, hZ, hT⟩ := id hE
  have hl : lv_has ls 2 [(0, .ref (w 0))] := hl
  have hS : va_S A s.heap s.heap [] := va_S.rf
  have hI_X6 := (show ∀ w ∈ wsX60, w ∈ wsX6_tear by decide +kernel)
  have gf154 := hts (.fieldLink RX6 154 "RowRanksModel" "entries" "I") (by decide +kernel)
  unfold f_X6_tear at hf
  have go : ∀ (H : Heap) (locs : List Loc), va_P D vwCl [oX6 w w_undos w_seed w_entries] H → va_S A s.heap H locs → W p l e { frames := 0, cells := 0, slots := 0, locals := 0 } s m args below meth c H locs 0 0 (MQ below (QwI D zr (fun u => [oX6 w w_undos w_seed u]) A) args s 0 0 A) (F0 m 0 ls []) := by
    intro H locs hP hS
    refine lv_aload_n hx hb dX6_tear_0 rfl (lv_at hl 0 rfl) ?_
    refine va_get (D := D) (ci := 6) (v := .int w_entries) (C := RX6) (T := TX6) (N := 12) hx hb hts hI_X6 hown hK hP 0 rfl rfl 5 (by decide) gf154 (fun _ h9 => h9) rfl dX6_tear_1 ?_
    refine lv_istore_n (lv' := [(1, .int w_entries), (0, .ref (w 0))]) hx hb dX6_tear_4 rfl hl (by decide) rfl (fun ls hl => ?_)
    refine lv_aload_n hx hb dX6_tear_5 rfl (lv_at hl 1 rfl) ?_
    refine lv_iconst (v := 0) hx hb dX6_tear_6 (by decide) ?_
    refine va_put (D := D) (ci := 6) (v := .int 0) (ty := .int) (C := RX6) (T := TX6) (N := 12) hx hb hts hI_X6 tyX6 tyX6_ok nmX6 hown hK hP (hD.addr rfl) hS 0 rfl rfl 5 (by decide) gf154 (fun _ h9 => h9) rfl (by decide +kernel) rfl rfl (Nat.le_of_ble_eq_true rfl) dX6_tear_7 (fun H locs hP _ hS => ?_)
    have hP : va_P D vwCl [oX6 w w_undos w_seed 0] H := hP
    refine lv_iload_n hx hb dX6_tear_10 rfl (lv_at hl 0 rfl) ?_
    have er := Option.some.inj hf
    exact rwI (wm := (fun u => [oX6 w w_undos w_seed u])) hx hb hr hS dX6_tear_11 hP er hlocks
  exact go s.heap [] hP hS
noncomputable def f_X6_seed (w_seed : Int32) (x1 : Int32) : Option (Int32 × Int32) := if 0 ≤ x1 then (some ((w_seed, x1))) else (some (((-1000000002), w_seed)))
set_option maxHeartbeats 4000000 in
set_option maxRecDepth 100000 in
theorem c_X6_seed (l : Launch) (D : va_G) (cI cJ cZ cQ : ClassId) (bs sz : Nat) (w : Nat → Nat) (w_undos : Int32) (w_seed : Int32) (w_entries : Int32) (x1 : Int32) (zr : Int32 × Int32) (hf : f_X6_seed w_seed x1 = some zr) : Met l yX6_seed wsX6_seed { frames := 0, cells := 0, slots := 0, locals := 0 } (va_Pc [.ref (w 0), .int x1] (Pr D cI cJ cZ cQ bs sz [oX6 w w_undos w_seed w_entries])) (QwI D zr (fun u => [oX6 w w_undos u w_entries]) (va_A [oX6 w w_undos w_seed w_entries] sz)) 0 0 (va_A [oX6 w w_undos w_seed w_entries] sz) := by
  refine stW (cc := cX6_seed) (maxL := 3) (ret := (some .int)) (Qf := fun A => (QwI D zr (fun u => [oX6 w w_undos u w_entries]) A)) (by decide +kernel) rfl (Nat.le_of_ble_eq_true rfl) ?_
  intro p e s m args below meth c A C0 hr hlocks hname hsz hP hD hA hAb hE ls hl
  obtain ⟨hx, hb, hml, hown, hts⟩ := id C0
  have hown : s.vm.findClass RX6 = some m.cls := hown
  obtain ⟨hK, hNW, -, tw, hZ, hT⟩ := id hE
  have hl : lv_has ls 3 [(0, .ref (w 0)), (1, .int x1)] := hl
  have hS : va_S A s.heap s.heap [] := va_S.rf
  have hI_X6 := (show ∀ w ∈ wsX60, w ∈ wsX6_seed by decide +kernel)
  have gf189 := hts (.fieldLink RX6 189 "RowRanksModel" "seed" "I") (by decide +kernel)
  have gk192 := hts (.constant RX6 192 (-1000000002)) (by decide +kernel)
  unfold f_X6_seed at hf
  have go : ∀ (H : Heap) (locs : List Loc), va_P D vwCl [oX6 w w_undos w_seed w_entries] H → va_S A s.heap H locs → W p l e { frames := 0, cells := 0, slots := 0, locals := 0 } s m args below meth c H locs 0 0 (MQ below (QwI D zr (fun u => [oX6 w w_undos u w_entries]) A) args s 0 0 A) (F0 m 0 ls []) := by
    intro H locs hP hS
    refine lv_iload_n hx hb dX6_seed_0 rfl (lv_at hl 1 rfl) ?_
    refine lv_if_ge (tgt := 7) hx hb dX6_seed_1 (by decide) (fun c1 => ?_) (fun c1 => ?_)
    · replace hf := oif c1 hf
      refine lv_aload_n hx hb dX6_seed_7 rfl (lv_at hl 0 rfl) ?_
      refine va_get (D := D) (ci := 6) (v := .int w_seed) (C := RX6) (T := TX6) (N := 12) hx hb hts hI_X6 hown hK hP 0 rfl rfl 4 (by decide) gf189 (fun _ h9 => h9) rfl dX6_seed_8 ?_
      refine lv_istore_n (lv' := [(2, .int w_seed), (0, .ref (w 0)), (1, .int x1)]) hx hb dX6_seed_11 rfl hl (by decide) rfl (fun ls hl => ?_)
      refine lv_aload_n hx hb dX6_seed_12 rfl (lv_at hl 1 rfl) ?_
      refine lv_iload_n hx hb dX6_seed_13 rfl (lv_at hl 2 rfl) ?_
      refine va_put (D := D) (ci := 6) (v := .int x1) (ty := .int) (C := RX6) (T := TX6) (N := 12) hx hb hts hI_X6 tyX6 tyX6_ok nmX6 hown hK hP (hD.addr rfl) hS 0 rfl rfl 4 (by decide) gf189 (fun _ h9 => h9) rfl (by decide +kernel) rfl rfl (Nat.le_of_ble_eq_true rfl) dX6_seed_14 (fun H locs hP _ hS => ?_)
      have hP : va_P D vwCl [oX6 w w_undos x1 w_entries] H := hP
      refine lv_iload_n hx hb dX6_seed_17 rfl (lv_at hl 0 rfl) ?_
      have er := Option.some.inj hf
      exact rwI (wm := (fun u => [oX6 w w_undos u w_entries])) hx hb hr hS dX6_seed_18 hP er hlocks
    · replace hf := oel c1 hf
      refine lv_ldc hx hb hown gk192 dX6_seed_4 ?_
      have er := Option.some.inj hf
      exact rwI (wm := (fun u => [oX6 w w_undos u w_entries])) hx hb hr hS dX6_seed_6 hP er hlocks
  exact go s.heap [] hP hS
noncomputable def f_X6_keep (w_w : Nat → Int64) (w_imageSeed : Nat → Int32) (w_isKept : Nat → Int32) (w_undos : Int32) (w_seed : Int32) (x1 : Int32) : Option (Int32 × (Nat → Int64) × (Nat → Int32) × (Nat → Int32) × Int32) := (f_X6_in (Int32.toInt64 x1) 0 1).bind (fun z1 => if z1 = 0 then (some (((-1000000001), w_w, w_imageSeed, w_isKept, w_undos))) else ((f_X6_copy w_w 0 ((180 : Int32) + ((180 : Int32) * x1))).bind (fun z3 => if ib x1 2 = true then ((some (upd w_imageSeed x1.toNatClampNeg w_seed : Nat → Int32)).bind (fun h4a => if ib x1 2 = true then ((some (upd w_isKept x1.toNatClampNeg (vp_nar .boolean 1) : Nat → Int32)).bind (fun h5a => some ((1, z3, h4a, h5a, 0)))) else none)) else none)))
set_option maxHeartbeats 4000000 in
set_option maxRecDepth 100000 in
theorem c_X6_keep (l : Launch) (D : va_G) (cI cJ cZ cQ : ClassId) (bs sz : Nat) (w : Nat → Nat) (w_undos : Int32) (w_seed : Int32) (w_entries : Int32) (w_w : Nat → Int64) (w_imageSeed : Nat → Int32) (w_isKept : Nat → Int32) (x1 : Int32) (zr : Int32 × (Nat → Int64) × (Nat → Int32) × (Nat → Int32) × Int32) (hf : f_X6_keep w_w w_imageSeed w_isKept w_undos w_seed x1 = some zr) : Met l yX6_keep wsX6_keep { frames := 1, cells := 0, slots := 0, locals := 25 } (va_Pc [.ref (w 0), .int x1] (Pr D cI cJ cZ cQ bs sz [oX6 w w_undos w_seed w_entries, aJ cJ (w 1) 3420 w_w, aI cI (w 2) 2 w_imageSeed, aI cZ (w 3) 2 w_isKept])) (QwI D zr (fun u => [oX6 w u.2.2.2 w_seed w_entries, aJ cJ (w 1) 3420 u.1, aI cI (w 2) 2 u.2.1, aI cZ (w 3) 2 u.2.2.1]) (va_A [oX6 w w_undos w_seed w_entries, aJ cJ (w 1) 3420 w_w, aI cI (w 2) 2 w_imageSeed, aI cZ (w 3) 2 w_isKept] sz)) 0 0 (va_A [oX6 w w_undos w_seed w_entries, aJ cJ (w 1) 3420 w_w, aI cI (w 2) 2 w_imageSeed, aI cZ (w 3) 2 w_isKept] sz) := by
  refine stW (cc := cX6_keep) (maxL := 2) (ret := (some .int)) (Qf := fun A => (QwI D zr (fun u => [oX6 w u.2.2.2 w_seed w_entries, aJ cJ (w 1) 3420 u.1, aI cI (w 2) 2 u.2.1, aI cZ (w 3) 2 u.2.2.1]) A)) (by decide +kernel) rfl (Nat.le_of_ble_eq_true rfl) ?_
  intro p e s m args below meth c A C0 hr hlocks hname hsz hP hD hA hAb hE ls hl
  obtain ⟨hx, hb, hml, hown, hts⟩ := id C0
  have hown : s.vm.findClass RX6 = some m.cls := hown
  obtain ⟨hK, hNW, -, tw, hZ, hT⟩ := id hE
  have hl : lv_has ls 2 [(0, .ref (w 0)), (1, .int x1)] := hl
  have hS : va_S A s.heap s.heap [] := va_S.rf
  have hI_X6 := (show ∀ w ∈ wsX60, w ∈ wsX6_keep by decide +kernel)
  have gf13 := hts (.fieldLink RX6 13 "RowRanksModel" "imageSeed" "[I") (by decide +kernel)
  have gf189 := hts (.fieldLink RX6 189 "RowRanksModel" "seed" "I") (by decide +kernel)
  have gf17 := hts (.fieldLink RX6 17 "RowRanksModel" "isKept" "[Z") (by decide +kernel)
  have gf43 := hts (.fieldLink RX6 43 "RowRanksModel" "undos" "I") (by decide +kernel)
  have gk198 := hts (.constant RX6 198 (-1000000001)) (by decide +kernel)
  unfold f_X6_keep at hf
  have go : ∀ (H : Heap) (locs : List Loc), va_P D vwCl [oX6 w w_undos w_seed w_entries, aJ cJ (w 1) 3420 w_w, aI cI (w 2) 2 w_imageSeed, aI cZ (w 3) 2 w_isKept] H → va_S A s.heap H locs → W p l e { frames := 1, cells := 0, slots := 0, locals := 25 } s m args below meth c H locs 0 0 (MQ below (QwI D zr (fun u => [oX6 w u.2.2.2 w_seed w_entries, aJ cJ (w 1) 3420 u.1, aI cI (w 2) 2 u.2.1, aI cZ (w 3) 2 u.2.2.1]) A) args s 0 0 A) (F0 m 0 ls []) := by
    intro H locs hP hS
    refine lv_iload_n hx hb dX6_keep_0 rfl (lv_at hl 1 rfl) ?_
    refine lv_i2l (v := (Int32.toInt64 x1)) hx hb dX6_keep_1 rfl ?_
    refine lv_lconst (v := 0) hx hb dX6_keep_2 (by decide) ?_
    refine lv_lconst (v := 1) hx hb dX6_keep_3 (by decide) ?_
    obtain ⟨z1, hz1, hf⟩ := obd hf
    refine kZ (runS (As := [.long (Int32.toInt64 x1), .long 0, .long 1]) (rest := []) C0 hE hAb hP ((hD.weaken (fun _ _ _ h9 => hAb _ h9)).addr rfl) hS [] (wc := []) (by decide) rfl (c_X6_in l D cI cJ cZ cQ bs H.size (Int32.toInt64 x1) 0 1 z1 hz1) (va_cwS 3 hts gX6_keep_X6_in rfl rfl rfl (by decide +kernel) ⟨Nat.le_of_ble_eq_true rfl, Nat.le_of_ble_eq_true rfl⟩) rfl hl.1 rfl (Nat.le_of_ble_eq_true rfl) dX6_keep_4 ⟨Nat.le_of_ble_eq_true rfl, Nat.le_of_ble_eq_true rfl⟩) hS hP (fun bz1 H locs hP hS => ?_)
    refine lv_if_ne (tgt := 13) hx hb dX6_keep_7 (by decide) (fun c2 => ?_) (fun c2 => ?_)
    · replace hf := oel c2 hf
      refine lv_aload_n hx hb dX6_keep_13 rfl (lv_at hl 0 rfl) ?_
      refine lv_iconst (v := 0) hx hb dX6_keep_14 (by decide) ?_
      refine lv_sipush (v := 180) hx hb dX6_keep_15 (by decide) ?_
      refine lv_sipush (v := 180) hx hb dX6_keep_18 (by decide) ?_
      refine lv_iload_n hx hb dX6_keep_21 rfl (lv_at hl 1 rfl) ?_
      refine lv_imul hx hb dX6_keep_22 ?_
      refine lv_iadd hx hb dX6_keep_23 ?_
      obtain ⟨z3, hz3, hf⟩ := obd hf
      refine kwV (runV (As := [.int 0, .int ((180 : Int32) + ((180 : Int32) * x1))]) (rest := []) C0 hE hAb hP ((hD.weaken (fun _ _ _ h9 => hAb _ h9)).addr rfl) hS [0, 1] (wc := [oX6 w w_undos w_seed w_entries, aJ cJ (w 1) 3420 w_w]) (by decide) rfl 0 rfl rfl (c_X6_copy l D cI cJ cZ cQ bs H.size w w_undos w_seed w_entries w_w 0 ((180 : Int32) + ((180 : Int32) * x1)) z3 hz3) (cwV 2 hts gX6_keep_X6_copy rfl rfl rfl (by decide +kernel) ⟨Nat.le_of_ble_eq_true rfl, Nat.le_of_ble_eq_true rfl⟩) rfl hl.1 rfl (Nat.le_of_ble_eq_true rfl) dX6_keep_24 ⟨Nat.le_of_ble_eq_true rfl, Nat.le_of_ble_eq_true rfl⟩) hS hP (hD.addr rfl) hA [0, 1] rfl rfl (ws' := [oX6 w w_undos w_seed w_entries, aJ cJ (w 1) 3420 z3, aI cI (w 2) 2 w_imageSeed, aI cZ (w 3) 2 w_isKept]) rfl rfl (fun H locs hP hS => ?_)
      refine lv_aload_n hx hb dX6_keep_27 rfl (lv_at hl 0 rfl) ?_
      refine va_get (D := D) (ci := 6) (v := .ref (w 2)) (C := RX6) (T := TX6) (N := 12) hx hb hts hI_X6 hown hK hP 0 rfl rfl 1 (by decide) gf13 (fun _ h9 => h9) rfl dX6_keep_28 ?_
      refine lv_iload_n hx hb dX6_keep_31 rfl (lv_at hl 1 rfl) ?_
      refine lv_aload_n hx hb dX6_keep_32 rfl (lv_at hl 0 rfl) ?_
      refine va_get (D := D) (ci := 6) (v := .int w_seed) (C := RX6) (T := TX6) (N := 12) hx hb hts hI_X6 hown hK hP 0 rfl rfl 4 (by decide) gf189 (fun _ h9 => h9) rfl dX6_keep_33 ?_
      obtain ⟨h4, hf⟩ := ogd hf
      refine va_iast hx hb hK hP (hD.addr rfl) hS 2 0 rfl rfl (ib_in h4) dX6_keep_36 (fun H locs hP _ hS => ?_)
      obtain ⟨h4a, eh4a⟩ : ∃ y : Nat → Int32, y = upd w_imageSeed x1.toNatClampNeg w_seed := ⟨_, rfl⟩
      replace hf := onm eh4a hf
      have hP : va_P D vwCl [oX6 w w_undos w_seed w_entries, aJ cJ (w 1) 3420 z3, aI cI (w 2) 2 h4a, aI cZ (w 3) 2 w_isKept] H := by rw [eh4a]; exact hP
      refine lv_aload_n hx hb dX6_keep_37 rfl (lv_at hl 0 rfl) ?_
      refine va_get (D := D) (ci := 6) (v := .ref (w 3)) (C := RX6) (T := TX6) (N := 12) hx hb hts hI_X6 hown hK hP 0 rfl rfl 2 (by decide) gf17 (fun _ h9 => h9) rfl dX6_keep_38 ?_
      refine lv_iload_n hx hb dX6_keep_41 rfl (lv_at hl 1 rfl) ?_
      refine lv_iconst (v := 1) hx hb dX6_keep_42 (by decide) ?_
      obtain ⟨h5, hf⟩ := ogd hf
      refine va_zast hx hb hK hP (hD.addr rfl) hS 3 2 rfl rfl (ib_in h5) dX6_keep_43 (fun H locs hP _ hS => ?_)
      obtain ⟨h5a, eh5a⟩ : ∃ y : Nat → Int32, y = upd w_isKept x1.toNatClampNeg (vp_nar .boolean 1) := ⟨_, rfl⟩
      replace hf := onm eh5a hf
      have hP : va_P D vwCl [oX6 w w_undos w_seed w_entries, aJ cJ (w 1) 3420 z3, aI cI (w 2) 2 h4a, aI cZ (w 3) 2 h5a] H := by rw [eh5a]; exact hP
      refine lv_aload_n hx hb dX6_keep_44 rfl (lv_at hl 0 rfl) ?_
      refine lv_iconst (v := 0) hx hb dX6_keep_45 (by decide) ?_
      refine va_put (D := D) (ci := 6) (v := .int 0) (ty := .int) (C := RX6) (T := TX6) (N := 12) hx hb hts hI_X6 tyX6 tyX6_ok nmX6 hown hK hP (hD.addr rfl) hS 0 rfl rfl 3 (by decide) gf43 (fun _ h9 => h9) rfl (by decide +kernel) rfl rfl (Nat.le_of_ble_eq_true rfl) dX6_keep_46 (fun H locs hP _ hS => ?_)
      have hP : va_P D vwCl [oX6 w 0 w_seed w_entries, aJ cJ (w 1) 3420 z3, aI cI (w 2) 2 h4a, aI cZ (w 3) 2 h5a] H := hP
      refine lv_iconst (v := 1) hx hb dX6_keep_49 (by decide) ?_
      have er := Option.some.inj hf
      exact rwI (wm := (fun u => [oX6 w u.2.2.2 w_seed w_entries, aJ cJ (w 1) 3420 u.1, aI cI (w 2) 2 u.2.1, aI cZ (w 3) 2 u.2.2.1])) hx hb hr hS dX6_keep_50 hP er hlocks
    · replace hf := oif c2 hf
      refine lv_ldc hx hb hown gk198 dX6_keep_10 ?_
      have er := Option.some.inj hf
      exact rwI (wm := (fun u => [oX6 w u.2.2.2 w_seed w_entries, aJ cJ (w 1) 3420 u.1, aI cI (w 2) 2 u.2.1, aI cZ (w 3) 2 u.2.2.1])) hx hb hr hS dX6_keep_12 hP er hlocks
  exact go s.heap [] hP hS
noncomputable def f_X6_goBack (w_w : Nat → Int64) (w_imageSeed : Nat → Int32) (w_isKept : Nat → Int32) (w_undos : Int32) (w_seed : Int32) (x1 : Int32) : Option (Int32 × (Nat → Int64) × Int32 × Int32) := (f_X6_in (Int32.toInt64 x1) 0 1).bind (fun z1 => if z1 = 0 then (some (((-1000000001), w_w, w_undos, w_seed))) else (if ib x1 2 = true then (if (w_isKept x1.toNatClampNeg) = 0 then (some (((-1000000003), w_w, w_undos, w_seed))) else ((f_X6_copy w_w ((180 : Int32) + ((180 : Int32) * x1)) 0).bind (fun z5 => if ib x1 2 = true then (some ((1, z5, 0, (w_imageSeed x1.toNatClampNeg)))) else none))) else none))
set_option maxHeartbeats 4000000 in
set_option maxRecDepth 100000 in
theorem c_X6_goBack (l : Launch) (D : va_G) (cI cJ cZ cQ : ClassId) (bs sz : Nat) (w : Nat → Nat) (w_undos : Int32) (w_seed : Int32) (w_entries : Int32) (w_w : Nat → Int64) (w_imageSeed : Nat → Int32) (w_isKept : Nat → Int32) (x1 : Int32) (zr : Int32 × (Nat → Int64) × Int32 × Int32) (hf : f_X6_goBack w_w w_imageSeed w_isKept w_undos w_seed x1 = some zr) : Met l yX6_goBack wsX6_goBack { frames := 1, cells := 0, slots := 0, locals := 25 } (va_Pc [.ref (w 0), .int x1] (Pr D cI cJ cZ cQ bs sz [oX6 w w_undos w_seed w_entries, aJ cJ (w 1) 3420 w_w, aI cI (w 2) 2 w_imageSeed, aI cZ (w 3) 2 w_isKept])) (QwI D zr (fun u => [oX6 w u.2.1 u.2.2 w_entries, aJ cJ (w 1) 3420 u.1, aI cI (w 2) 2 w_imageSeed, aI cZ (w 3) 2 w_isKept]) (va_A [oX6 w w_undos w_seed w_entries, aJ cJ (w 1) 3420 w_w, aI cI (w 2) 2 w_imageSeed, aI cZ (w 3) 2 w_isKept] sz)) 0 0 (va_A [oX6 w w_undos w_seed w_entries, aJ cJ (w 1) 3420 w_w, aI cI (w 2) 2 w_imageSeed, aI cZ (w 3) 2 w_isKept] sz) := by
  refine stW (cc := cX6_goBack) (maxL := 2) (ret := (some .int)) (Qf := fun A => (QwI D zr (fun u => [oX6 w u.2.1 u.2.2 w_entries, aJ cJ (w 1) 3420 u.1, aI cI (w 2) 2 w_imageSeed, aI cZ (w 3) 2 w_isKept]) A)) (by decide +kernel) rfl (Nat.le_of_ble_eq_true rfl) ?_
  intro p e s m args below meth c A C0 hr hlocks hname hsz hP hD hA hAb hE ls hl
  obtain ⟨hx, hb, hml, hown, hts⟩ := id C0
  have hown : s.vm.findClass RX6 = some m.cls := hown
  obtain ⟨hK, hNW, -, tw, hZ, hT⟩ := id hE
  have hl : lv_has ls 2 [(0, .ref (w 0)), (1, .int x1)] := hl
  have hS : va_S A s.heap s.heap [] := va_S.rf
  have hI_X6 := (show ∀ w ∈ wsX60, w ∈ wsX6_goBack by decide +kernel)
  have gf17 := hts (.fieldLink RX6 17 "RowRanksModel" "isKept" "[Z") (by decide +kernel)
  have gf13 := hts (.fieldLink RX6 13 "RowRanksModel" "imageSeed" "[I") (by decide +kernel)
  have gf189 := hts (.fieldLink RX6 189 "RowRanksModel" "seed" "I") (by decide +kernel)
  have gf43 := hts (.fieldLink RX6 43 "RowRanksModel" "undos" "I") (by decide +kernel)
  have gk246 := hts (.constant RX6 246 (-1000000003)) (by decide +kernel)
  have gk198 := hts (.constant RX6 198 (-1000000001)) (by decide +kernel)
  unfold f_X6_goBack at hf
  have go : ∀ (H : Heap) (locs : List Loc), va_P D vwCl [oX6 w w_undos w_seed w_entries, aJ cJ (w 1) 3420 w_w, aI cI (w 2) 2 w_imageSeed, aI cZ (w 3) 2 w_isKept] H → va_S A s.heap H locs → W p l e { frames := 1, cells := 0, slots := 0, locals := 25 } s m args below meth c H locs 0 0 (MQ below (QwI D zr (fun u => [oX6 w u.2.1 u.2.2 w_entries, aJ cJ (w 1) 3420 u.1, aI cI (w 2) 2 w_imageSeed, aI cZ (w 3) 2 w_isKept]) A) args s 0 0 A) (F0 m 0 ls []) := by
    intro H locs hP hS
    refine lv_iload_n hx hb dX6_goBack_0 rfl (lv_at hl 1 rfl) ?_
    refine lv_i2l (v := (Int32.toInt64 x1)) hx hb dX6_goBack_1 rfl ?_
    refine lv_lconst (v := 0) hx hb dX6_goBack_2 (by decide) ?_
    refine lv_lconst (v := 1) hx hb dX6_goBack_3 (by decide) ?_
    obtain ⟨z1, hz1, hf⟩ := obd hf
    refine kZ (runS (As := [.long (Int32.toInt64 x1), .long 0, .long 1]) (rest := []) C0 hE hAb hP ((hD.weaken (fun _ _ _ h9 => hAb _ h9)).addr rfl) hS [] (wc := []) (by decide) rfl (c_X6_in l D cI cJ cZ cQ bs H.size (Int32.toInt64 x1) 0 1 z1 hz1) (va_cwS 3 hts gX6_goBack_X6_in rfl rfl rfl (by decide +kernel) ⟨Nat.le_of_ble_eq_true rfl, Nat.le_of_ble_eq_true rfl⟩) rfl hl.1 rfl (Nat.le_of_ble_eq_true rfl) dX6_goBack_4 ⟨Nat.le_of_ble_eq_true rfl, Nat.le_of_ble_eq_true rfl⟩) hS hP (fun bz1 H locs hP hS => ?_)
    refine lv_if_ne (tgt := 13) hx hb dX6_goBack_7 (by decide) (fun c2 => ?_) (fun c2 => ?_)
    · replace hf := oel c2 hf
      refine lv_aload_n hx hb dX6_goBack_13 rfl (lv_at hl 0 rfl) ?_
      refine va_get (D := D) (ci := 6) (v := .ref (w 3)) (C := RX6) (T := TX6) (N := 12) hx hb hts hI_X6 hown hK hP 0 rfl rfl 2 (by decide) gf17 (fun _ h9 => h9) rfl dX6_goBack_14 ?_
      refine lv_iload_n hx hb dX6_goBack_17 rfl (lv_at hl 1 rfl) ?_
      obtain ⟨h3, hf⟩ := ogd hf
      refine va_zald hx hb hK hP 3 2 rfl rfl (ib_in h3) dX6_goBack_18 ?_
      refine lv_if_ne (tgt := 25) hx hb dX6_goBack_19 (by decide) (fun c4 => ?_) (fun c4 => ?_)
      · replace hf := oel c4 hf
        refine lv_aload_n hx hb dX6_goBack_25 rfl (lv_at hl 0 rfl) ?_
        refine lv_sipush (v := 180) hx hb dX6_goBack_26 (by decide) ?_
        refine lv_sipush (v := 180) hx hb dX6_goBack_29 (by decide) ?_
        refine lv_iload_n hx hb dX6_goBack_32 rfl (lv_at hl 1 rfl) ?_
        refine lv_imul hx hb dX6_goBack_33 ?_
        refine lv_iadd hx hb dX6_goBack_34 ?_
        refine lv_iconst (v := 0) hx hb dX6_goBack_35 (by decide) ?_
        obtain ⟨z5, hz5, hf⟩ := obd hf
        refine kwV (runV (As := [.int ((180 : Int32) + ((180 : Int32) * x1)), .int 0]) (rest := []) C0 hE hAb hP ((hD.weaken (fun _ _ _ h9 => hAb _ h9)).addr rfl) hS [0, 1] (wc := [oX6 w w_undos w_seed w_entries, aJ cJ (w 1) 3420 w_w]) (by decide) rfl 0 rfl rfl (c_X6_copy l D cI cJ cZ cQ bs H.size w w_undos w_seed w_entries w_w ((180 : Int32) + ((180 : Int32) * x1)) 0 z5 hz5) (cwV 2 hts gX6_goBack_X6_copy rfl rfl rfl (by decide +kernel) ⟨Nat.le_of_ble_eq_true rfl, Nat.le_of_ble_eq_true rfl⟩) rfl hl.1 rfl (Nat.le_of_ble_eq_true rfl) dX6_goBack_36 ⟨Nat.le_of_ble_eq_true rfl, Nat.le_of_ble_eq_true rfl⟩) hS hP (hD.addr rfl) hA [0, 1] rfl rfl (ws' := [oX6 w w_undos w_seed w_entries, aJ cJ (w 1) 3420 z5, aI cI (w 2) 2 w_imageSeed, aI cZ (w 3) 2 w_isKept]) rfl rfl (fun H locs hP hS => ?_)
        refine lv_aload_n hx hb dX6_goBack_39 rfl (lv_at hl 0 rfl) ?_
        refine lv_aload_n hx hb dX6_goBack_40 rfl (lv_at hl 0 rfl) ?_
        refine va_get (D := D) (ci := 6) (v := .ref (w 2)) (C := RX6) (T := TX6) (N := 12) hx hb hts hI_X6 hown hK hP 0 rfl rfl 1 (by decide) gf13 (fun _ h9 => h9) rfl dX6_goBack_41 ?_
        refine lv_iload_n hx hb dX6_goBack_44 rfl (lv_at hl 1 rfl) ?_
        obtain ⟨h6, hf⟩ := ogd hf
        refine va_iald hx hb hK hP 2 0 rfl rfl (ib_in h6) dX6_goBack_45 ?_
        refine va_put (D := D) (ci := 6) (v := .int (w_imageSeed x1.toNatClampNeg)) (ty := .int) (C := RX6) (T := TX6) (N := 12) hx hb hts hI_X6 tyX6 tyX6_ok nmX6 hown hK hP (hD.addr rfl) hS 0 rfl rfl 4 (by decide) gf189 (fun _ h9 => h9) rfl (by decide +kernel) rfl rfl (Nat.le_of_ble_eq_true rfl) dX6_goBack_46 (fun H locs hP _ hS => ?_)
        have hP : va_P D vwCl [oX6 w w_undos (w_imageSeed x1.toNatClampNeg) w_entries, aJ cJ (w 1) 3420 z5, aI cI (w 2) 2 w_imageSeed, aI cZ (w 3) 2 w_isKept] H := hP
        refine lv_aload_n hx hb dX6_goBack_49 rfl (lv_at hl 0 rfl) ?_
        refine lv_iconst (v := 0) hx hb dX6_goBack_50 (by decide) ?_
        refine va_put (D := D) (ci := 6) (v := .int 0) (ty := .int) (C := RX6) (T := TX6) (N := 12) hx hb hts hI_X6 tyX6 tyX6_ok nmX6 hown hK hP (hD.addr rfl) hS 0 rfl rfl 3 (by decide) gf43 (fun _ h9 => h9) rfl (by decide +kernel) rfl rfl (Nat.le_of_ble_eq_true rfl) dX6_goBack_51 (fun H locs hP _ hS => ?_)
        have hP : va_P D vwCl [oX6 w 0 (w_imageSeed x1.toNatClampNeg) w_entries, aJ cJ (w 1) 3420 z5, aI cI (w 2) 2 w_imageSeed, aI cZ (w 3) 2 w_isKept] H := hP
        refine lv_iconst (v := 1) hx hb dX6_goBack_54 (by decide) ?_
        have er := Option.some.inj hf
        exact rwI (wm := (fun u => [oX6 w u.2.1 u.2.2 w_entries, aJ cJ (w 1) 3420 u.1, aI cI (w 2) 2 w_imageSeed, aI cZ (w 3) 2 w_isKept])) hx hb hr hS dX6_goBack_55 hP er hlocks
      · replace hf := oif c4 hf
        refine lv_ldc hx hb hown gk246 dX6_goBack_22 ?_
        have er := Option.some.inj hf
        exact rwI (wm := (fun u => [oX6 w u.2.1 u.2.2 w_entries, aJ cJ (w 1) 3420 u.1, aI cI (w 2) 2 w_imageSeed, aI cZ (w 3) 2 w_isKept])) hx hb hr hS dX6_goBack_24 hP er hlocks
    · replace hf := oif c2 hf
      refine lv_ldc hx hb hown gk198 dX6_goBack_10 ?_
      have er := Option.some.inj hf
      exact rwI (wm := (fun u => [oX6 w u.2.1 u.2.2 w_entries, aJ cJ (w 1) 3420 u.1, aI cI (w 2) 2 w_imageSeed, aI cZ (w 3) 2 w_isKept])) hx hb hr hS dX6_goBack_12 hP er hlocks
  exact go s.heap [] hP hS
