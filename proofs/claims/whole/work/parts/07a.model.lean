noncomputable def f_X6_in (x0 : Int64) (x2 : Int64) (x4 : Int64) : Option (Int32) := if (lg_cmp x0 x2) < 0 then (some (0)) else (if 0 < (lg_cmp x0 x4) then (some (0)) else (some (1)))
set_option maxHeartbeats 4000000 in
set_option maxRecDepth 100000 in
theorem c_X6_in (l : Launch) (D : va_G) (cI cJ cZ cQ : ClassId) (bs sz : Nat) (x0 : Int64) (x2 : Int64) (x4 : Int64) (zr : Int32) (hf : f_X6_in x0 x2 x4 = some zr) : Met l yX6_in wsX6_in { frames := 0, cells := 0, slots := 0, locals := 0 } (va_Pc [.long x0, .long x2, .long x4] (Pr D cI cJ cZ cQ bs sz [])) (QrZ zr) 0 0 no := by
  refine stM (cc := cX6_in) (maxL := 6) (ret := (some .boolean)) (by decide +kernel) rfl (Nat.le_of_ble_eq_true rfl) ?_
  intro p e s m args below meth c C0 hr hlocks hname hsz hP hDb hE ls hl
  have hAb : ∀ q, no q → bs ≤ q := fun _ h => h.elim
  obtain ⟨hx, hb, hml, hown, hts⟩ := id C0
  have hown : s.vm.findClass RX6 = some m.cls := hown
  obtain ⟨hK, hNW, -, tw, hZ, hT⟩ := id hE
  have hl : lv_has ls 6 [(0, .long x0), (2, .long x2), (4, .long x4)] := hl
  have hS : va_S no s.heap s.heap [] := va_S.rf
  unfold f_X6_in at hf
  have go : ∀ (H : Heap) (locs : List Loc), va_P D vwCl [] H → va_S no s.heap H locs → W p l e { frames := 0, cells := 0, slots := 0, locals := 0 } s m args below meth c H locs 0 0 (MQ below (QrZ zr) args s 0 0 no) (F0 m 0 ls []) := by
    intro H locs hP hS
    refine lv_lload_n hx hb dX6_in_0 rfl (lv_at hl 0 rfl) ?_
    refine lv_lload_n hx hb dX6_in_1 rfl (lv_at hl 1 rfl) ?_
    refine W.lcmp hx hb dX6_in_2 ?_
    refine lv_if_lt (tgt := 17) hx hb dX6_in_3 (by decide) (fun c1 => ?_) (fun c1 => ?_)
    · replace hf := oif c1 hf
      refine lv_iconst (v := 0) hx hb dX6_in_17 (by decide) ?_
      have er := Option.some.inj hf
      exact rtZ hx hb hr hS dX6_in_18 er (by decide) hlocks
    · replace hf := oel c1 hf
      refine lv_lload_n hx hb dX6_in_6 rfl (lv_at hl 0 rfl) ?_
      refine lv_lload hx hb dX6_in_7 (lv_at hl 2 rfl) ?_
      refine W.lcmp hx hb dX6_in_9 ?_
      refine lv_if_gt (tgt := 17) hx hb dX6_in_10 (by decide) (fun c2 => ?_) (fun c2 => ?_)
      · replace hf := oif c2 hf
        refine lv_iconst (v := 0) hx hb dX6_in_17 (by decide) ?_
        have er := Option.some.inj hf
        exact rtZ hx hb hr hS dX6_in_18 er (by decide) hlocks
      · replace hf := oel c2 hf
        refine lv_iconst (v := 1) hx hb dX6_in_13 (by decide) ?_
        refine lv_goto (tgt := 18) hx hb dX6_in_14 (by decide) ?_
        have er := Option.some.inj hf
        exact rtZ hx hb hr hS dX6_in_18 er (by decide) hlocks
  exact go s.heap [] hP hS
noncomputable def f_X6_has (x0 : Int32) (x1 : Int32) : Option (Int32) := if ((x0 >>> (x1 &&& 31)) &&& (1 : Int32)) = 1 then (some (1)) else (some (0))
set_option maxHeartbeats 4000000 in
set_option maxRecDepth 100000 in
theorem c_X6_has (l : Launch) (D : va_G) (cI cJ cZ cQ : ClassId) (bs sz : Nat) (x0 : Int32) (x1 : Int32) (zr : Int32) (hf : f_X6_has x0 x1 = some zr) : Met l yX6_has wsX6_has { frames := 0, cells := 0, slots := 0, locals := 0 } (va_Pc [.int x0, .int x1] (Pr D cI cJ cZ cQ bs sz [])) (QrZ zr) 0 0 no := by
  refine stM (cc := cX6_has) (maxL := 2) (ret := (some .boolean)) (by decide +kernel) rfl (Nat.le_of_ble_eq_true rfl) ?_
  intro p e s m args below meth c C0 hr hlocks hname hsz hP hDb hE ls hl
  have hAb : ∀ q, no q → bs ≤ q := fun _ h => h.elim
  obtain ⟨hx, hb, hml, hown, hts⟩ := id C0
  have hown : s.vm.findClass RX6 = some m.cls := hown
  obtain ⟨hK, hNW, -, tw, hZ, hT⟩ := id hE
  have hl : lv_has ls 2 [(0, .int x0), (1, .int x1)] := hl
  have hS : va_S no s.heap s.heap [] := va_S.rf
  unfold f_X6_has at hf
  have go : ∀ (H : Heap) (locs : List Loc), va_P D vwCl [] H → va_S no s.heap H locs → W p l e { frames := 0, cells := 0, slots := 0, locals := 0 } s m args below meth c H locs 0 0 (MQ below (QrZ zr) args s 0 0 no) (F0 m 0 ls []) := by
    intro H locs hP hS
    refine lv_iload_n hx hb dX6_has_0 rfl (lv_at hl 0 rfl) ?_
    refine lv_iload_n hx hb dX6_has_1 rfl (lv_at hl 1 rfl) ?_
    refine lv_ishr hx hb dX6_has_2 ?_
    refine lv_iconst (v := 1) hx hb dX6_has_3 (by decide) ?_
    refine lv_iand hx hb dX6_has_4 ?_
    refine lv_iconst (v := 1) hx hb dX6_has_5 (by decide) ?_
    refine lv_icmp_ne (tgt := 13) hx hb dX6_has_6 (by decide) (fun c1 => ?_) (fun c1 => ?_)
    · replace hf := oel c1 hf
      refine lv_iconst (v := 0) hx hb dX6_has_13 (by decide) ?_
      have er := Option.some.inj hf
      exact rtZ hx hb hr hS dX6_has_14 er (by decide) hlocks
    · replace hf := oif c1 hf
      refine lv_iconst (v := 1) hx hb dX6_has_9 (by decide) ?_
      refine lv_goto (tgt := 14) hx hb dX6_has_10 (by decide) ?_
      have er := Option.some.inj hf
      exact rtZ hx hb hr hS dX6_has_14 er (by decide) hlocks
  exact go s.heap [] hP hS
noncomputable def L_X6_ones_4 (v0 : Int32) : Nat → Int32 → Int32 → Option (Int32)
  | 0, _, _ => none
  | n + 1, v1, v2 => if 12 ≤ v2 then (some (v1)) else ((some ((v1 + ((v0 >>> (v2 &&& 31)) &&& (1 : Int32))) : Int32)).bind (fun y2 => (some (v2 + 1 : Int32)).bind (fun y3 => L_X6_ones_4 v0 n y2 y3)))
noncomputable def f_X6_ones (x0 : Int32) : Option (Int32) := (L_X6_ones_4 x0 4000 0 0).bind (fun z4 => some (z4))
set_option maxHeartbeats 4000000 in
set_option maxRecDepth 100000 in
theorem c_X6_ones (l : Launch) (D : va_G) (cI cJ cZ cQ : ClassId) (bs sz : Nat) (x0 : Int32) (zr : Int32) (hf : f_X6_ones x0 = some zr) : Met l yX6_ones wsX6_ones { frames := 0, cells := 0, slots := 0, locals := 0 } (va_Pc [.int x0] (Pr D cI cJ cZ cQ bs sz [])) (QrI zr) 0 0 no := by
  refine stM (cc := cX6_ones) (maxL := 3) (ret := (some .int)) (by decide +kernel) rfl (Nat.le_of_ble_eq_true rfl) ?_
  intro p e s m args below meth c C0 hr hlocks hname hsz hP hDb hE ls hl
  have hAb : ∀ q, no q → bs ≤ q := fun _ h => h.elim
  obtain ⟨hx, hb, hml, hown, hts⟩ := id C0
  have hown : s.vm.findClass RX6 = some m.cls := hown
  obtain ⟨hK, hNW, -, tw, hZ, hT⟩ := id hE
  have hl : lv_has ls 3 [(0, .int x0)] := hl
  have hS : va_S no s.heap s.heap [] := va_S.rf
  have W4 : ∀ (n : Nat) (v0 : Int32) (v1 : Int32) (v2 : Int32) (H : Heap) (locs : List Loc) (ls : Array Slot) (z : Int32), va_P D vwCl [] H → va_S no s.heap H locs → lv_has ls 3 [(0, .int v0), (1, .int v1), (2, .int v2)] → L_X6_ones_4 v0 n v1 v2 = some z → (∀ (H : Heap) (locs : List Loc) (ls : Array Slot), va_P D vwCl [] H → va_S no s.heap H locs → lv_has ls 3 [(1, .int z)] → W p l e { frames := 0, cells := 0, slots := 0, locals := 0 } s m args below meth c H locs 0 0 (MQ below (QrI zr) args s 0 0 no) (F0 m 24 ls [])) → W p l e { frames := 0, cells := 0, slots := 0, locals := 0 } s m args below meth c H locs 0 0 (MQ below (QrI zr) args s 0 0 no) (F0 m 4 ls []) := by
    intro n
    induction n with
    | zero =>
      intro v0 v1 v2 H locs ls z hP hS hl hf
      exact absurd (show (none : Option (Int32)) = some z from hf) (fun h => by cases h)
    | succ n ih =>
      intro v0 v1 v2 H locs ls z hP hS hl hf K
      rw [L_X6_ones_4] at hf
      refine lv_iload_n hx hb dX6_ones_4 rfl (lv_at hl 2 rfl) ?_
      refine lv_bipush (v := 12) hx hb dX6_ones_5 (by decide) ?_
      refine lv_icmp_ge (tgt := 24) hx hb dX6_ones_7 (by decide) (fun c1 => ?_) (fun c1 => ?_)
      · replace hf := oif c1 hf
        have hf := Option.some.inj hf
        subst hf
        exact K H locs ls hP hS (lv_sub hl [1] rfl)
      · replace hf := oel c1 hf
        refine lv_iload_n hx hb dX6_ones_10 rfl (lv_at hl 1 rfl) ?_
        refine lv_iload_n hx hb dX6_ones_11 rfl (lv_at hl 0 rfl) ?_
        refine lv_iload_n hx hb dX6_ones_12 rfl (lv_at hl 2 rfl) ?_
        refine lv_ishr hx hb dX6_ones_13 ?_
        refine lv_iconst (v := 1) hx hb dX6_ones_14 (by decide) ?_
        refine lv_iand hx hb dX6_ones_15 ?_
        refine lv_iadd hx hb dX6_ones_16 ?_
        refine lv_topi (fun y2 ey2 => ?_)
        replace hf := onm ey2 hf
        refine lv_istore_n (lv' := [(1, .int y2), (0, .int v0), (2, .int v2)]) hx hb dX6_ones_17 rfl hl (by decide) rfl (fun ls hl => ?_)
        obtain ⟨y3, ey3⟩ : ∃ y : Int32, y = v2 + 1 := ⟨_, rfl⟩
        replace hf := onm ey3 hf
        refine lv_iinc (v := y3) (lv' := [(2, .int y3), (1, .int y2), (0, .int v0)]) hx hb dX6_ones_18 hl (k := 2) rfl (by rw [ey3]; rfl) (by decide) rfl (fun ls hl => ?_)
        refine lv_goto (tgt := 4) hx hb dX6_ones_21 (by decide) ?_
        exact ih v0 y2 y3 H locs ls z hP hS (lv_sub hl [2, 1, 0] rfl) hf K
  unfold f_X6_ones at hf
  have go : ∀ (H : Heap) (locs : List Loc), va_P D vwCl [] H → va_S no s.heap H locs → W p l e { frames := 0, cells := 0, slots := 0, locals := 0 } s m args below meth c H locs 0 0 (MQ below (QrI zr) args s 0 0 no) (F0 m 0 ls []) := by
    intro H locs hP hS
    refine lv_iconst (v := 0) hx hb dX6_ones_0 (by decide) ?_
    refine lv_istore_n (lv' := [(1, .int 0), (0, .int x0)]) hx hb dX6_ones_1 rfl hl (by decide) rfl (fun ls hl => ?_)
    refine lv_iconst (v := 0) hx hb dX6_ones_2 (by decide) ?_
    refine lv_istore_n (lv' := [(2, .int 0), (1, .int 0), (0, .int x0)]) hx hb dX6_ones_3 rfl hl (by decide) rfl (fun ls hl => ?_)
    obtain ⟨z4, hz4, hf⟩ := obd hf
    refine W4 4000 x0 0 0 H locs ls z4 hP hS (lv_sub hl [2, 1, 0] rfl) hz4 (fun H locs ls hP hS hl => ?_)
    refine lv_iload_n hx hb dX6_ones_24 rfl (lv_at hl 0 rfl) ?_
    have er := Option.some.inj hf
    exact rtI hx hb hr hS dX6_ones_25 er hlocks
  exact go s.heap [] hP hS
noncomputable def L_X6_copy_2 (v1 : Int32) (v2 : Int32) : Nat → Int32 → (Nat → Int64) → Option ((Nat → Int64))
  | 0, _, _ => none
  | n + 1, v3, w_w => if 180 ≤ v3 then (some (w_w)) else (if ib (v1 + v3) 3420 = true then (if ib (v2 + v3) 3420 = true then ((some (vp_updL w_w (v2 + v3).toNatClampNeg (w_w (v1 + v3).toNatClampNeg) : Nat → Int64)).bind (fun h3a => (some (v3 + 1 : Int32)).bind (fun y4 => L_X6_copy_2 v1 v2 n y4 h3a))) else none) else none)
noncomputable def f_X6_copy (w_w : Nat → Int64) (x1 : Int32) (x2 : Int32) : Option ((Nat → Int64)) := (L_X6_copy_2 x1 x2 4000 0 w_w).bind (fun z5 => some (z5))
set_option maxHeartbeats 4000000 in
set_option maxRecDepth 100000 in
theorem c_X6_copy (l : Launch) (D : va_G) (cI cJ cZ cQ : ClassId) (bs sz : Nat) (w : Nat → Nat) (w_undos : Int32) (w_seed : Int32) (w_entries : Int32) (w_w : Nat → Int64) (x1 : Int32) (x2 : Int32) (zr : (Nat → Int64)) (hf : f_X6_copy w_w x1 x2 = some zr) : Met l yX6_copy wsX6_copy { frames := 0, cells := 0, slots := 0, locals := 0 } (va_Pc [.ref (w 0), .int x1, .int x2] (Pr D cI cJ cZ cQ bs sz [oX6 w w_undos w_seed w_entries, aJ cJ (w 1) 3420 w_w])) (QwV D zr (fun u => [oX6 w w_undos w_seed w_entries, aJ cJ (w 1) 3420 u]) (va_A [oX6 w w_undos w_seed w_entries, aJ cJ (w 1) 3420 w_w] sz)) 0 0 (va_A [oX6 w w_undos w_seed w_entries, aJ cJ (w 1) 3420 w_w] sz) := by
  refine stW (cc := cX6_copy) (maxL := 4) (ret := none) (Qf := fun A => (QwV D zr (fun u => [oX6 w w_undos w_seed w_entries, aJ cJ (w 1) 3420 u]) A)) (by decide +kernel) rfl (Nat.le_of_ble_eq_true rfl) ?_
  intro p e s m args below meth c A C0 hr hlocks hname hsz hP hD hA hAb hE ls hl
  obtain ⟨hx, hb, hml, hown, hts⟩ := id C0
  have hown : s.vm.findClass RX6 = some m.cls := hown
  obtain ⟨hK, hNW, -, tw, hZ, hT⟩ := id hE
  have hl : lv_has ls 4 [(0, .ref (w 0)), (1, .int x1), (2, .int x2)] := hl
  have hS : va_S A s.heap s.heap [] := va_S.rf
  have hI_X6 := (show ∀ w ∈ wsX60, w ∈ wsX6_copy by decide +kernel)
  have gf7 := hts (.fieldLink RX6 7 "RowRanksModel" "w" "[J") (by decide +kernel)
  have W2 : ∀ (n : Nat) (v1 : Int32) (v2 : Int32) (v3 : Int32) (w_w : Nat → Int64) (H : Heap) (locs : List Loc) (ls : Array Slot) (z : (Nat → Int64)), va_P D vwCl [oX6 w w_undos w_seed w_entries, aJ cJ (w 1) 3420 w_w] H → va_S A s.heap H locs → lv_has ls 4 [(0, .ref (w 0)), (1, .int v1), (2, .int v2), (3, .int v3)] → L_X6_copy_2 v1 v2 n v3 w_w = some z → (∀ (H : Heap) (locs : List Loc) (ls : Array Slot), va_P D vwCl [oX6 w w_undos w_seed w_entries, aJ cJ (w 1) 3420 z] H → va_S A s.heap H locs → lv_has ls 4 [] → W p l e { frames := 0, cells := 0, slots := 0, locals := 0 } s m args below meth c H locs 0 0 (MQ below (QwV D zr (fun u => [oX6 w w_undos w_seed w_entries, aJ cJ (w 1) 3420 u]) A) args s 0 0 A) (F0 m 31 ls [])) → W p l e { frames := 0, cells := 0, slots := 0, locals := 0 } s m args below meth c H locs 0 0 (MQ below (QwV D zr (fun u => [oX6 w w_undos w_seed w_entries, aJ cJ (w 1) 3420 u]) A) args s 0 0 A) (F0 m 2 ls []) := by
    intro n
    induction n with
    | zero =>
      intro v1 v2 v3 w_w H locs ls z hP hS hl hf
      exact absurd (show (none : Option ((Nat → Int64))) = some z from hf) (fun h => by cases h)
    | succ n ih =>
      intro v1 v2 v3 w_w H locs ls z hP hS hl hf K
      rw [L_X6_copy_2] at hf
      refine lv_iload_n hx hb dX6_copy_2 rfl (lv_at hl 3 rfl) ?_
      refine lv_sipush (v := 180) hx hb dX6_copy_3 (by decide) ?_
      refine lv_icmp_ge (tgt := 31) hx hb dX6_copy_6 (by decide) (fun c1 => ?_) (fun c1 => ?_)
      · replace hf := oif c1 hf
        have hf := Option.some.inj hf
        subst hf
        exact K H locs ls hP hS (lv_sub hl [] rfl)
      · replace hf := oel c1 hf
        refine lv_aload_n hx hb dX6_copy_9 rfl (lv_at hl 0 rfl) ?_
        refine va_get (D := D) (ci := 6) (v := .ref (w 1)) (C := RX6) (T := TX6) (N := 12) hx hb hts hI_X6 hown hK hP 0 rfl rfl 0 (by decide) gf7 (fun _ h9 => h9) rfl dX6_copy_10 ?_
        refine lv_iload_n hx hb dX6_copy_13 rfl (lv_at hl 2 rfl) ?_
        refine lv_iload_n hx hb dX6_copy_14 rfl (lv_at hl 3 rfl) ?_
        refine lv_iadd hx hb dX6_copy_15 ?_
        refine lv_aload_n hx hb dX6_copy_16 rfl (lv_at hl 0 rfl) ?_
        refine va_get (D := D) (ci := 6) (v := .ref (w 1)) (C := RX6) (T := TX6) (N := 12) hx hb hts hI_X6 hown hK hP 0 rfl rfl 0 (by decide) gf7 (fun _ h9 => h9) rfl dX6_copy_17 ?_
        refine lv_iload_n hx hb dX6_copy_20 rfl (lv_at hl 1 rfl) ?_
        refine lv_iload_n hx hb dX6_copy_21 rfl (lv_at hl 3 rfl) ?_
        refine lv_iadd hx hb dX6_copy_22 ?_
        obtain ⟨h2, hf⟩ := ogd hf
        refine va_lald hx hb hK hP 1 1 rfl rfl (ib_in h2) dX6_copy_23 ?_
        obtain ⟨h3, hf⟩ := ogd hf
        refine va_last hx hb hK hP (hD.addr rfl) hS 1 1 rfl rfl (ib_in h3) dX6_copy_24 (fun H locs hP _ hS => ?_)
        obtain ⟨h3a, eh3a⟩ : ∃ y : Nat → Int64, y = vp_updL w_w (v2 + v3).toNatClampNeg (w_w (v1 + v3).toNatClampNeg) := ⟨_, rfl⟩
        replace hf := onm eh3a hf
        have hP : va_P D vwCl [oX6 w w_undos w_seed w_entries, aJ cJ (w 1) 3420 h3a] H := by rw [eh3a]; exact hP
        obtain ⟨y4, ey4⟩ : ∃ y : Int32, y = v3 + 1 := ⟨_, rfl⟩
        replace hf := onm ey4 hf
        refine lv_iinc (v := y4) (lv' := [(3, .int y4), (0, .ref (w 0)), (1, .int v1), (2, .int v2)]) hx hb dX6_copy_25 hl (k := 3) rfl (by rw [ey4]; rfl) (by decide) rfl (fun ls hl => ?_)
        refine lv_goto (tgt := 2) hx hb dX6_copy_28 (by decide) ?_
        exact ih v1 v2 y4 h3a H locs ls z hP hS (lv_sub hl [1, 2, 3, 0] rfl) hf K
  unfold f_X6_copy at hf
  have go : ∀ (H : Heap) (locs : List Loc), va_P D vwCl [oX6 w w_undos w_seed w_entries, aJ cJ (w 1) 3420 w_w] H → va_S A s.heap H locs → W p l e { frames := 0, cells := 0, slots := 0, locals := 0 } s m args below meth c H locs 0 0 (MQ below (QwV D zr (fun u => [oX6 w w_undos w_seed w_entries, aJ cJ (w 1) 3420 u]) A) args s 0 0 A) (F0 m 0 ls []) := by
    intro H locs hP hS
    refine lv_iconst (v := 0) hx hb dX6_copy_0 (by decide) ?_
    refine lv_istore_n (lv' := [(3, .int 0), (0, .ref (w 0)), (1, .int x1), (2, .int x2)]) hx hb dX6_copy_1 rfl hl (by decide) rfl (fun ls hl => ?_)
    obtain ⟨z5, hz5, hf⟩ := obd hf
    refine W2 4000 x1 x2 0 w_w H locs ls z5 hP hS (lv_sub hl [1, 2, 3, 0] rfl) hz5 (fun H locs ls hP hS hl => ?_)
    have er := Option.some.inj hf
    exact rwV (wm := (fun u => [oX6 w w_undos w_seed w_entries, aJ cJ (w 1) 3420 u])) hx hb hr hS dX6_copy_31 hP er hlocks
  exact go s.heap [] hP hS
noncomputable def L_X6_minds_11  : Nat → Int32 → (Nat → Int64) → Option ((Nat → Int64))
  | 0, _, _ => none
  | n + 1, v1, w_w => if 2700 ≤ v1 then (some (w_w)) else (if ib ((720 : Int32) + v1) 3420 = true then (if ib ((540 : Int32) + v1) 3420 = true then ((some (vp_updL w_w ((540 : Int32) + v1).toNatClampNeg (w_w ((720 : Int32) + v1).toNatClampNeg) : Nat → Int64)).bind (fun h5a => (some (v1 + 1 : Int32)).bind (fun y6 => L_X6_minds_11 n y6 h5a))) else none) else none)
noncomputable def f_X6_minds (w_w : Nat → Int64) (w_undos : Int32) : Option ((Nat → Int64) × Int32) := if w_undos = 16 then ((L_X6_minds_11 4000 0 w_w).bind (fun z7 => (f_X6_copy z7 0 ((540 : Int32) + ((180 : Int32) * (w_undos - (1 : Int32))))).bind (fun z8 => (some (((w_undos - (1 : Int32)) + (1 : Int32)) : Int32)).bind (fun y9 => some ((z8, y9)))))) else ((f_X6_copy w_w 0 ((540 : Int32) + ((180 : Int32) * w_undos))).bind (fun z2 => some ((z2, (w_undos + (1 : Int32))))))
set_option maxHeartbeats 4000000 in
set_option maxRecDepth 100000 in
theorem c_X6_minds (l : Launch) (D : va_G) (cI cJ cZ cQ : ClassId) (bs sz : Nat) (w : Nat → Nat) (w_undos : Int32) (w_seed : Int32) (w_entries : Int32) (w_w : Nat → Int64) (zr : (Nat → Int64) × Int32) (hf : f_X6_minds w_w w_undos = some zr) : Met l yX6_minds wsX6_minds { frames := 1, cells := 0, slots := 0, locals := 23 } (va_Pc [.ref (w 0)] (Pr D cI cJ cZ cQ bs sz [oX6 w w_undos w_seed w_entries, aJ cJ (w 1) 3420 w_w])) (QwV D zr (fun u => [oX6 w u.2 w_seed w_entries, aJ cJ (w 1) 3420 u.1]) (va_A [oX6 w w_undos w_seed w_entries, aJ cJ (w 1) 3420 w_w] sz)) 0 0 (va_A [oX6 w w_undos w_seed w_entries, aJ cJ (w 1) 3420 w_w] sz) := by
  refine stW (cc := cX6_minds) (maxL := 2) (ret := none) (Qf := fun A => (QwV D zr (fun u => [oX6 w u.2 w_seed w_entries, aJ cJ (w 1) 3420 u.1]) A)) (by decide +kernel) rfl (Nat.le_of_ble_eq_true rfl) ?_
  intro p e s m args below meth c A C0 hr hlocks hname hsz hP hD hA hAb hE ls hl
  obtain ⟨hx, hb, hml, hown, hts⟩ := id C0
  have hown : s.vm.findClass RX6 = some m.cls := hown
  obtain ⟨hK, hNW, -, tw, hZ, hT⟩ := id hE
  have hl : lv_has ls 2 [(0, .ref (w 0))] := hl
  have hS : va_S A s.heap s.heap [] := va_S.rf
  have hI_X6 := (show ∀ w ∈ wsX60, w ∈ wsX6_minds by decide +kernel)
  have gf43 := hts (.fieldLink RX6 43 "RowRanksModel" "undos" "I") (by decide +kernel)
  have gf7 := hts (.fieldLink RX6 7 "RowRanksModel" "w" "[J") (by decide +kernel)
  have W11 : ∀ (n : Nat) (v1 : Int32) (w_w : Nat → Int64) (w_undos : Int32) (H : Heap) (locs : List Loc) (ls : Array Slot) (z : (Nat → Int64)), va_P D vwCl [oX6 w w_undos w_seed w_entries, aJ cJ (w 1) 3420 w_w] H → va_S A s.heap H locs → lv_has ls 2 [(0, .ref (w 0)), (1, .int v1)] → L_X6_minds_11 n v1 w_w = some z → (∀ (H : Heap) (locs : List Loc) (ls : Array Slot), va_P D vwCl [oX6 w w_undos w_seed w_entries, aJ cJ (w 1) 3420 z] H → va_S A s.heap H locs → lv_has ls 2 [(0, .ref (w 0))] → W p l e { frames := 1, cells := 0, slots := 0, locals := 23 } s m args below meth c H locs 0 0 (MQ below (QwV D zr (fun u => [oX6 w u.2 w_seed w_entries, aJ cJ (w 1) 3420 u.1]) A) args s 0 0 A) (F0 m 44 ls [])) → W p l e { frames := 1, cells := 0, slots := 0, locals := 23 } s m args below meth c H locs 0 0 (MQ below (QwV D zr (fun u => [oX6 w u.2 w_seed w_entries, aJ cJ (w 1) 3420 u.1]) A) args s 0 0 A) (F0 m 11 ls []) := by
    intro n
    induction n with
    | zero =>
      intro v1 w_w w_undos H locs ls z hP hS hl hf
      exact absurd (show (none : Option ((Nat → Int64))) = some z from hf) (fun h => by cases h)
    | succ n ih =>
      intro v1 w_w w_undos H locs ls z hP hS hl hf K
      rw [L_X6_minds_11] at hf
      refine lv_iload_n hx hb dX6_minds_11 rfl (lv_at hl 1 rfl) ?_
      refine lv_sipush (v := 2700) hx hb dX6_minds_12 (by decide) ?_
      refine lv_icmp_ge (tgt := 44) hx hb dX6_minds_15 (by decide) (fun c3 => ?_) (fun c3 => ?_)
      · replace hf := oif c3 hf
        have hf := Option.some.inj hf
        subst hf
        exact K H locs ls hP hS (lv_sub hl [0] rfl)
      · replace hf := oel c3 hf
        refine lv_aload_n hx hb dX6_minds_18 rfl (lv_at hl 0 rfl) ?_
        refine va_get (D := D) (ci := 6) (v := .ref (w 1)) (C := RX6) (T := TX6) (N := 12) hx hb hts hI_X6 hown hK hP 0 rfl rfl 0 (by decide) gf7 (fun _ h9 => h9) rfl dX6_minds_19 ?_
        refine lv_sipush (v := 540) hx hb dX6_minds_22 (by decide) ?_
        refine lv_iload_n hx hb dX6_minds_25 rfl (lv_at hl 1 rfl) ?_
        refine lv_iadd hx hb dX6_minds_26 ?_
        refine lv_aload_n hx hb dX6_minds_27 rfl (lv_at hl 0 rfl) ?_
        refine va_get (D := D) (ci := 6) (v := .ref (w 1)) (C := RX6) (T := TX6) (N := 12) hx hb hts hI_X6 hown hK hP 0 rfl rfl 0 (by decide) gf7 (fun _ h9 => h9) rfl dX6_minds_28 ?_
        refine lv_sipush (v := 720) hx hb dX6_minds_31 (by decide) ?_
        refine lv_iload_n hx hb dX6_minds_34 rfl (lv_at hl 1 rfl) ?_
        refine lv_iadd hx hb dX6_minds_35 ?_
        obtain ⟨h4, hf⟩ := ogd hf
        refine va_lald hx hb hK hP 1 1 rfl rfl (ib_in h4) dX6_minds_36 ?_
        obtain ⟨h5, hf⟩ := ogd hf
        refine va_last hx hb hK hP (hD.addr rfl) hS 1 1 rfl rfl (ib_in h5) dX6_minds_37 (fun H locs hP _ hS => ?_)
        obtain ⟨h5a, eh5a⟩ : ∃ y : Nat → Int64, y = vp_updL w_w ((540 : Int32) + v1).toNatClampNeg (w_w ((720 : Int32) + v1).toNatClampNeg) := ⟨_, rfl⟩
        replace hf := onm eh5a hf
        have hP : va_P D vwCl [oX6 w w_undos w_seed w_entries, aJ cJ (w 1) 3420 h5a] H := by rw [eh5a]; exact hP
        obtain ⟨y6, ey6⟩ : ∃ y : Int32, y = v1 + 1 := ⟨_, rfl⟩
        replace hf := onm ey6 hf
        refine lv_iinc (v := y6) (lv' := [(1, .int y6), (0, .ref (w 0))]) hx hb dX6_minds_38 hl (k := 1) rfl (by rw [ey6]; rfl) (by decide) rfl (fun ls hl => ?_)
        refine lv_goto (tgt := 11) hx hb dX6_minds_41 (by decide) ?_
        exact ih y6 h5a w_undos H locs ls z hP hS (lv_sub hl [1, 0] rfl) hf K
  unfold f_X6_minds at hf
  have go : ∀ (H : Heap) (locs : List Loc), va_P D vwCl [oX6 w w_undos w_seed w_entries, aJ cJ (w 1) 3420 w_w] H → va_S A s.heap H locs → W p l e { frames := 1, cells := 0, slots := 0, locals := 23 } s m args below meth c H locs 0 0 (MQ below (QwV D zr (fun u => [oX6 w u.2 w_seed w_entries, aJ cJ (w 1) 3420 u.1]) A) args s 0 0 A) (F0 m 0 ls []) := by
    intro H locs hP hS
    refine lv_aload_n hx hb dX6_minds_0 rfl (lv_at hl 0 rfl) ?_
    refine va_get (D := D) (ci := 6) (v := .int w_undos) (C := RX6) (T := TX6) (N := 12) hx hb hts hI_X6 hown hK hP 0 rfl rfl 3 (by decide) gf43 (fun _ h9 => h9) rfl dX6_minds_1 ?_
    refine lv_bipush (v := 16) hx hb dX6_minds_4 (by decide) ?_
    refine lv_icmp_ne (tgt := 54) hx hb dX6_minds_6 (by decide) (fun c1 => ?_) (fun c1 => ?_)
    · replace hf := oel c1 hf
      refine lv_aload_n hx hb dX6_minds_54 rfl (lv_at hl 0 rfl) ?_
      refine lv_iconst (v := 0) hx hb dX6_minds_55 (by decide) ?_
      refine lv_sipush (v := 540) hx hb dX6_minds_56 (by decide) ?_
      refine lv_sipush (v := 180) hx hb dX6_minds_59 (by decide) ?_
      refine lv_aload_n hx hb dX6_minds_62 rfl (lv_at hl 0 rfl) ?_
      refine va_get (D := D) (ci := 6) (v := .int w_undos) (C := RX6) (T := TX6) (N := 12) hx hb hts hI_X6 hown hK hP 0 rfl rfl 3 (by decide) gf43 (fun _ h9 => h9) rfl dX6_minds_63 ?_
      refine lv_imul hx hb dX6_minds_66 ?_
      refine lv_iadd hx hb dX6_minds_67 ?_
      obtain ⟨z2, hz2, hf⟩ := obd hf
      refine kwV (runV (As := [.int 0, .int ((540 : Int32) + ((180 : Int32) * w_undos))]) (rest := []) C0 hE hAb hP ((hD.weaken (fun _ _ _ h9 => hAb _ h9)).addr rfl) hS [0, 1] (wc := [oX6 w w_undos w_seed w_entries, aJ cJ (w 1) 3420 w_w]) (by decide) rfl 0 rfl rfl (c_X6_copy l D cI cJ cZ cQ bs H.size w w_undos w_seed w_entries w_w 0 ((540 : Int32) + ((180 : Int32) * w_undos)) z2 hz2) (cwV 2 hts gX6_minds_X6_copy rfl rfl rfl (by decide +kernel) ⟨Nat.le_of_ble_eq_true rfl, Nat.le_of_ble_eq_true rfl⟩) rfl hl.1 rfl (Nat.le_of_ble_eq_true rfl) dX6_minds_68 ⟨Nat.le_of_ble_eq_true rfl, Nat.le_of_ble_eq_true rfl⟩) hS hP (hD.addr rfl) hA [0, 1] rfl rfl (ws' := [oX6 w w_undos w_seed w_entries, aJ cJ (w 1) 3420 z2]) rfl rfl (fun H locs hP hS => ?_)
      refine lv_aload_n hx hb dX6_minds_71 rfl (lv_at hl 0 rfl) ?_
      refine lv_dup hx hb dX6_minds_72 rfl ?_
      refine va_get (D := D) (ci := 6) (v := .int w_undos) (C := RX6) (T := TX6) (N := 12) hx hb hts hI_X6 hown hK hP 0 rfl rfl 3 (by decide) gf43 (fun _ h9 => h9) rfl dX6_minds_73 ?_
      refine lv_iconst (v := 1) hx hb dX6_minds_76 (by decide) ?_
      refine lv_iadd hx hb dX6_minds_77 ?_
      refine va_put (D := D) (ci := 6) (v := .int (w_undos + (1 : Int32))) (ty := .int) (C := RX6) (T := TX6) (N := 12) hx hb hts hI_X6 tyX6 tyX6_ok nmX6 hown hK hP (hD.addr rfl) hS 0 rfl rfl 3 (by decide) gf43 (fun _ h9 => h9) rfl (by decide +kernel) rfl rfl (Nat.le_of_ble_eq_true rfl) dX6_minds_78 (fun H locs hP _ hS => ?_)
      have hP : va_P D vwCl [oX6 w (w_undos + (1 : Int32)) w_seed w_entries, aJ cJ (w 1) 3420 z2] H := hP
      have er := Option.some.inj hf
      exact rwV (wm := (fun u => [oX6 w u.2 w_seed w_entries, aJ cJ (w 1) 3420 u.1])) hx hb hr hS dX6_minds_81 hP er hlocks
    · replace hf := oif c1 hf
      refine lv_iconst (v := 0) hx hb dX6_minds_9 (by decide) ?_
      refine lv_istore_n (lv' := [(1, .int 0), (0, .ref (w 0))]) hx hb dX6_minds_10 rfl hl (by decide) rfl (fun ls hl => ?_)
      obtain ⟨z7, hz7, hf⟩ := obd hf
      refine W11 4000 0 w_w w_undos H locs ls z7 hP hS (lv_sub hl [1, 0] rfl) hz7 (fun H locs ls hP hS hl => ?_)
      refine lv_aload_n hx hb dX6_minds_44 rfl (lv_at hl 0 rfl) ?_
      refine lv_dup hx hb dX6_minds_45 rfl ?_
      refine va_get (D := D) (ci := 6) (v := .int w_undos) (C := RX6) (T := TX6) (N := 12) hx hb hts hI_X6 hown hK hP 0 rfl rfl 3 (by decide) gf43 (fun _ h9 => h9) rfl dX6_minds_46 ?_
      refine lv_iconst (v := 1) hx hb dX6_minds_49 (by decide) ?_
      refine lv_isub hx hb dX6_minds_50 ?_
      refine va_put (D := D) (ci := 6) (v := .int (w_undos - (1 : Int32))) (ty := .int) (C := RX6) (T := TX6) (N := 12) hx hb hts hI_X6 tyX6 tyX6_ok nmX6 hown hK hP (hD.addr rfl) hS 0 rfl rfl 3 (by decide) gf43 (fun _ h9 => h9) rfl (by decide +kernel) rfl rfl (Nat.le_of_ble_eq_true rfl) dX6_minds_51 (fun H locs hP _ hS => ?_)
      have hP : va_P D vwCl [oX6 w (w_undos - (1 : Int32)) w_seed w_entries, aJ cJ (w 1) 3420 z7] H := hP
      refine lv_aload_n hx hb dX6_minds_54 rfl (lv_at hl 0 rfl) ?_
      refine lv_iconst (v := 0) hx hb dX6_minds_55 (by decide) ?_
      refine lv_sipush (v := 540) hx hb dX6_minds_56 (by decide) ?_
      refine lv_sipush (v := 180) hx hb dX6_minds_59 (by decide) ?_
      refine lv_aload_n hx hb dX6_minds_62 rfl (lv_at hl 0 rfl) ?_
      refine va_get (D := D) (ci := 6) (v := .int (w_undos - (1 : Int32))) (C := RX6) (T := TX6) (N := 12) hx hb hts hI_X6 hown hK hP 0 rfl rfl 3 (by decide) gf43 (fun _ h9 => h9) rfl dX6_minds_63 ?_
      refine lv_imul hx hb dX6_minds_66 ?_
      refine lv_iadd hx hb dX6_minds_67 ?_
      obtain ⟨z8, hz8, hf⟩ := obd hf
      refine kwV (runV (As := [.int 0, .int ((540 : Int32) + ((180 : Int32) * (w_undos - (1 : Int32))))]) (rest := []) C0 hE hAb hP ((hD.weaken (fun _ _ _ h9 => hAb _ h9)).addr rfl) hS [0, 1] (wc := [oX6 w (w_undos - (1 : Int32)) w_seed w_entries, aJ cJ (w 1) 3420 z7]) (by decide) rfl 0 rfl rfl (c_X6_copy l D cI cJ cZ cQ bs H.size w (w_undos - (1 : Int32)) w_seed w_entries z7 0 ((540 : Int32) + ((180 : Int32) * (w_undos - (1 : Int32)))) z8 hz8) (cwV 2 hts gX6_minds_X6_copy rfl rfl rfl (by decide +kernel) ⟨Nat.le_of_ble_eq_true rfl, Nat.le_of_ble_eq_true rfl⟩) rfl hl.1 rfl (Nat.le_of_ble_eq_true rfl) dX6_minds_68 ⟨Nat.le_of_ble_eq_true rfl, Nat.le_of_ble_eq_true rfl⟩) hS hP (hD.addr rfl) hA [0, 1] rfl rfl (ws' := [oX6 w (w_undos - (1 : Int32)) w_seed w_entries, aJ cJ (w 1) 3420 z8]) rfl rfl (fun H locs hP hS => ?_)
      refine lv_aload_n hx hb dX6_minds_71 rfl (lv_at hl 0 rfl) ?_
      refine lv_dup hx hb dX6_minds_72 rfl ?_
      refine va_get (D := D) (ci := 6) (v := .int (w_undos - (1 : Int32))) (C := RX6) (T := TX6) (N := 12) hx hb hts hI_X6 hown hK hP 0 rfl rfl 3 (by decide) gf43 (fun _ h9 => h9) rfl dX6_minds_73 ?_
      refine lv_iconst (v := 1) hx hb dX6_minds_76 (by decide) ?_
      refine lv_iadd hx hb dX6_minds_77 ?_
      refine lv_topi (fun y9 ey9 => ?_)
      replace hf := onm ey9 hf
      refine va_put (D := D) (ci := 6) (v := .int y9) (ty := .int) (C := RX6) (T := TX6) (N := 12) hx hb hts hI_X6 tyX6 tyX6_ok nmX6 hown hK hP (hD.addr rfl) hS 0 rfl rfl 3 (by decide) gf43 (fun _ h9 => h9) rfl (by decide +kernel) rfl rfl (Nat.le_of_ble_eq_true rfl) dX6_minds_78 (fun H locs hP _ hS => ?_)
      have hP : va_P D vwCl [oX6 w y9 w_seed w_entries, aJ cJ (w 1) 3420 z8] H := hP
      have er := Option.some.inj hf
      exact rwV (wm := (fun u => [oX6 w u.2 w_seed w_entries, aJ cJ (w 1) 3420 u.1])) hx hb hr hS dX6_minds_81 hP er hlocks
  exact go s.heap [] hP hS
noncomputable def L_X6_nearest_16 (v2 : Int32) (v3 : Int64) : Nat → Int32 → Option (Int32)
  | 0, _ => none
  | n + 1, v5 => if (lg_cmp (v3 >>> (Int32.toInt64 v5 &&& 63)) ((1 : Int64) <<< (Int32.toInt64 v2 &&& 63))) < 0 then (some (v5)) else ((some (v5 + 1 : Int32)).bind (fun y3 => L_X6_nearest_16 v2 v3 n y3))
noncomputable def f_X6_nearest (x0 : Int64) (x2 : Int32) : Option (Int64) := if 0 ≤ (lg_cmp x0 0) then ((L_X6_nearest_16 x2 x0 4000 0).bind (fun z4 => if z4 = 0 then (some (x0)) else (if 0 ≤ (lg_cmp x0 0) then ((some (((1 : Int64) <<< (Int32.toInt64 z4 &&& 63)) : Int64)).bind (fun y7 => (some (((x0 >>> (Int32.toInt64 z4 &&& 63)) <<< (Int32.toInt64 z4 &&& 63)) : Int64)).bind (fun y8 => if 0 < (lg_cmp (x0 - y8) (y7 / (2 : Int64))) then (if 0 ≤ (lg_cmp (y8 + y7) 0) then (if 0 ≤ (lg_cmp x0 0) then (some ((y8 + y7))) else (some ((-(y8 + y7))))) else (if 0 ≤ (lg_cmp x0 0) then (some (((y8 + y7) - (1 : Int64)))) else (some ((y8 + y7))))) else (if (lg_cmp (x0 - y8) (y7 / (2 : Int64))) = 0 then (if (lg_cmp ((x0 >>> (Int32.toInt64 z4 &&& 63)) &&& (1 : Int64)) 1) = 0 then (if 0 ≤ (lg_cmp (y8 + y7) 0) then (if 0 ≤ (lg_cmp x0 0) then (some ((y8 + y7))) else (some ((-(y8 + y7))))) else (if 0 ≤ (lg_cmp x0 0) then (some (((y8 + y7) - (1 : Int64)))) else (some ((y8 + y7))))) else (if 0 ≤ (lg_cmp y8 0) then (if 0 ≤ (lg_cmp x0 0) then (some (y8)) else (some ((-y8)))) else (if 0 ≤ (lg_cmp x0 0) then (some ((y8 - (1 : Int64)))) else (some (y8))))) else (if 0 ≤ (lg_cmp y8 0) then (if 0 ≤ (lg_cmp x0 0) then (some (y8)) else (some ((-y8)))) else (if 0 ≤ (lg_cmp x0 0) then (some ((y8 - (1 : Int64)))) else (some (y8)))))))) else (some (x0))))) else ((L_X6_nearest_16 x2 (-x0) 4000 0).bind (fun z30 => if z30 = 0 then (some (x0)) else (if 0 ≤ (lg_cmp (-x0) 0) then ((some (((1 : Int64) <<< (Int32.toInt64 z30 &&& 63)) : Int64)).bind (fun y33 => (some ((((-x0) >>> (Int32.toInt64 z30 &&& 63)) <<< (Int32.toInt64 z30 &&& 63)) : Int64)).bind (fun y34 => (some (((-x0) - y34) : Int64)).bind (fun y35 => if 0 < (lg_cmp y35 (y33 / (2 : Int64))) then (if 0 ≤ (lg_cmp (y34 + y33) 0) then (if 0 ≤ (lg_cmp x0 0) then (some ((y34 + y33))) else (some ((-(y34 + y33))))) else (if 0 ≤ (lg_cmp x0 0) then (some (((y34 + y33) - (1 : Int64)))) else (some ((y34 + y33))))) else (if (lg_cmp y35 (y33 / (2 : Int64))) = 0 then (if (lg_cmp (((-x0) >>> (Int32.toInt64 z30 &&& 63)) &&& (1 : Int64)) 1) = 0 then (if 0 ≤ (lg_cmp (y34 + y33) 0) then (if 0 ≤ (lg_cmp x0 0) then (some ((y34 + y33))) else (some ((-(y34 + y33))))) else (if 0 ≤ (lg_cmp x0 0) then (some (((y34 + y33) - (1 : Int64)))) else (some ((y34 + y33))))) else (if 0 ≤ (lg_cmp y34 0) then (if 0 ≤ (lg_cmp x0 0) then (some (y34)) else (some ((-y34)))) else (if 0 ≤ (lg_cmp x0 0) then (some ((y34 - (1 : Int64)))) else (some (y34))))) else (if 0 ≤ (lg_cmp y34 0) then (if 0 ≤ (lg_cmp x0 0) then (some (y34)) else (some ((-y34)))) else (if 0 ≤ (lg_cmp x0 0) then (some ((y34 - (1 : Int64)))) else (some (y34))))))))) else (some (x0)))))
set_option maxHeartbeats 4000000 in
set_option maxRecDepth 100000 in
theorem c_X6_nearest (l : Launch) (D : va_G) (cI cJ cZ cQ : ClassId) (bs sz : Nat) (x0 : Int64) (x2 : Int32) (zr : Int64) (hf : f_X6_nearest x0 x2 = some zr) : Met l yX6_nearest wsX6_nearest { frames := 0, cells := 0, slots := 0, locals := 0 } (va_Pc [.long x0, .int x2] (Pr D cI cJ cZ cQ bs sz [])) (QrJ zr) 0 0 no := by
  refine stM (cc := cX6_nearest) (maxL := 15) (ret := (some .long)) (by decide +kernel) rfl (Nat.le_of_ble_eq_true rfl) ?_
  intro p e s m args below meth c C0 hr hlocks hname hsz hP hDb hE ls hl
  have hAb : ∀ q, no q → bs ≤ q := fun _ h => h.elim
  obtain ⟨hx, hb, hml, hown, hts⟩ := id C0
  have hown : s.vm.findClass RX6 = some m.cls := hown
  obtain ⟨hK, hNW, -, tw, hZ, hT⟩ := id hE
  have hl : lv_has ls 15 [(0, .long x0), (2, .int x2)] := hl
  have hS : va_S no s.heap s.heap [] := va_S.rf
  have gk51 := hts (.constantLong RX6 51 (2)) (by decide +kernel)
  have W16 : ∀ (n : Nat) (v0 : Int64) (v2 : Int32) (v3 : Int64) (v5 : Int32) (H : Heap) (locs : List Loc) (ls : Array Slot) (z : Int32), va_P D vwCl [] H → va_S no s.heap H locs → lv_has ls 15 [(0, .long v0), (2, .int v2), (3, .long v3), (5, .int v5)] → L_X6_nearest_16 v2 v3 n v5 = some z → (∀ (H : Heap) (locs : List Loc) (ls : Array Slot), va_P D vwCl [] H → va_S no s.heap H locs → lv_has ls 15 [(0, .long v0), (3, .long v3), (5, .int z)] → W p l e { frames := 0, cells := 0, slots := 0, locals := 0 } s m args below meth c H locs 0 0 (MQ below (QrJ zr) args s 0 0 no) (F0 m 33 ls [])) → W p l e { frames := 0, cells := 0, slots := 0, locals := 0 } s m args below meth c H locs 0 0 (MQ below (QrJ zr) args s 0 0 no) (F0 m 16 ls []) := by
    intro n
    induction n with
    | zero =>
      intro v0 v2 v3 v5 H locs ls z hP hS hl hf
      exact absurd (show (none : Option (Int32)) = some z from hf) (fun h => by cases h)
    | succ n ih =>
      intro v0 v2 v3 v5 H locs ls z hP hS hl hf K
      rw [L_X6_nearest_16] at hf
      refine lv_lload_n hx hb dX6_nearest_16 rfl (lv_at hl 2 rfl) ?_
      refine lv_iload hx hb dX6_nearest_17 (lv_at hl 3 rfl) ?_
      refine lv_lshr (v := (v3 >>> (Int32.toInt64 v5 &&& 63))) hx hb dX6_nearest_19 rfl ?_
      refine lv_lconst (v := 1) hx hb dX6_nearest_20 (by decide) ?_
      refine lv_iload_n hx hb dX6_nearest_21 rfl (lv_at hl 1 rfl) ?_
      refine lv_lshl (v := ((1 : Int64) <<< (Int32.toInt64 v2 &&& 63))) hx hb dX6_nearest_22 rfl ?_
      refine W.lcmp hx hb dX6_nearest_23 ?_
      refine lv_if_lt (tgt := 33) hx hb dX6_nearest_24 (by decide) (fun c2 => ?_) (fun c2 => ?_)
      · replace hf := oif c2 hf
        have hf := Option.some.inj hf
        subst hf
        exact K H locs ls hP hS (lv_sub hl [0, 2, 3] rfl)
      · replace hf := oel c2 hf
        obtain ⟨y3, ey3⟩ : ∃ y : Int32, y = v5 + 1 := ⟨_, rfl⟩
        replace hf := onm ey3 hf
        refine lv_iinc (v := y3) (lv' := [(5, .int y3), (0, .long v0), (2, .int v2), (3, .long v3)]) hx hb dX6_nearest_27 hl (k := 3) rfl (by rw [ey3]; rfl) (by decide) rfl (fun ls hl => ?_)
        refine lv_goto (tgt := 16) hx hb dX6_nearest_30 (by decide) ?_
        exact ih v0 v2 v3 y3 H locs ls z hP hS (lv_sub hl [1, 2, 3, 0] rfl) hf K
  unfold f_X6_nearest at hf
  have go : ∀ (H : Heap) (locs : List Loc), va_P D vwCl [] H → va_S no s.heap H locs → W p l e { frames := 0, cells := 0, slots := 0, locals := 0 } s m args below meth c H locs 0 0 (MQ below (QrJ zr) args s 0 0 no) (F0 m 0 ls []) := by
    intro H locs hP hS
    refine lv_lload_n hx hb dX6_nearest_0 rfl (lv_at hl 0 rfl) ?_
    refine lv_lconst (v := 0) hx hb dX6_nearest_1 (by decide) ?_
    refine W.lcmp hx hb dX6_nearest_2 ?_
    refine lv_if_ge (tgt := 11) hx hb dX6_nearest_3 (by decide) (fun c1 => ?_) (fun c1 => ?_)
    · replace hf := oif c1 hf
      refine lv_lload_n hx hb dX6_nearest_11 rfl (lv_at hl 0 rfl) ?_
      refine lv_lstore_n (lv' := [(3, .long x0), (0, .long x0), (2, .int x2)]) hx hb dX6_nearest_12 rfl hl (by decide) rfl (fun ls hl => ?_)
      refine lv_iconst (v := 0) hx hb dX6_nearest_13 (by decide) ?_
      refine lv_istore (lv' := [(5, .int 0), (3, .long x0), (0, .long x0), (2, .int x2)]) hx hb dX6_nearest_14 hl (by decide) rfl (fun ls hl => ?_)
      obtain ⟨z4, hz4, hf⟩ := obd hf
      refine W16 4000 x0 x2 x0 0 H locs ls z4 hP hS (lv_sub hl [2, 3, 1, 0] rfl) hz4 (fun H locs ls hP hS hl => ?_)
      refine lv_iload hx hb dX6_nearest_33 (lv_at hl 2 rfl) ?_
      refine lv_if_eq (tgt := 44) hx hb dX6_nearest_35 (by decide) (fun c5 => ?_) (fun c5 => ?_)
      · replace hf := oif c5 hf
        refine lv_lload_n hx hb dX6_nearest_44 rfl (lv_at hl 0 rfl) ?_
        have er := Option.some.inj hf
        exact rtJ hx hb hr hS dX6_nearest_45 er hlocks
      · replace hf := oel c5 hf
        refine lv_lload_n hx hb dX6_nearest_38 rfl (lv_at hl 1 rfl) ?_
        refine lv_lconst (v := 0) hx hb dX6_nearest_39 (by decide) ?_
        refine W.lcmp hx hb dX6_nearest_40 ?_
        refine lv_if_ge (tgt := 46) hx hb dX6_nearest_41 (by decide) (fun c6 => ?_) (fun c6 => ?_)
        · replace hf := oif c6 hf
          refine lv_lconst (v := 1) hx hb dX6_nearest_46 (by decide) ?_
          refine lv_iload hx hb dX6_nearest_47 (lv_at hl 2 rfl) ?_
          refine lv_lshl (v := ((1 : Int64) <<< (Int32.toInt64 z4 &&& 63))) hx hb dX6_nearest_49 rfl ?_
          refine lv_topl (fun y7 ey7 => ?_)
          replace hf := onm ey7 hf
          refine lv_lstore (lv' := [(6, .long y7), (0, .long x0), (3, .long x0), (5, .int z4)]) hx hb dX6_nearest_50 hl (by decide) rfl (fun ls hl => ?_)
          refine lv_lload_n hx hb dX6_nearest_52 rfl (lv_at hl 2 rfl) ?_
          refine lv_iload hx hb dX6_nearest_53 (lv_at hl 3 rfl) ?_
          refine lv_lshr (v := (x0 >>> (Int32.toInt64 z4 &&& 63))) hx hb dX6_nearest_55 rfl ?_
          refine lv_iload hx hb dX6_nearest_56 (lv_at hl 3 rfl) ?_
          refine lv_lshl (v := ((x0 >>> (Int32.toInt64 z4 &&& 63)) <<< (Int32.toInt64 z4 &&& 63))) hx hb dX6_nearest_58 rfl ?_
          refine lv_topl (fun y8 ey8 => ?_)
          replace hf := onm ey8 hf
          refine lv_lstore (lv' := [(8, .long y8), (6, .long y7), (0, .long x0), (3, .long x0), (5, .int z4)]) hx hb dX6_nearest_59 hl (by decide) rfl (fun ls hl => ?_)
          refine lv_lload_n hx hb dX6_nearest_61 rfl (lv_at hl 3 rfl) ?_
          refine lv_lload hx hb dX6_nearest_62 (lv_at hl 0 rfl) ?_
          refine lv_lsub hx hb dX6_nearest_64 ?_
          refine lv_lstore (lv' := [(10, .long (x0 - y8)), (8, .long y8), (6, .long y7), (0, .long x0), (3, .long x0), (5, .int z4)]) hx hb dX6_nearest_65 hl (by decide) rfl (fun ls hl => ?_)
          refine lv_lload hx hb dX6_nearest_67 (lv_at hl 0 rfl) ?_
          refine lv_lload hx hb dX6_nearest_69 (lv_at hl 2 rfl) ?_
          refine lv_ldc2 hx hb hown gk51 dX6_nearest_71 ?_
          refine lv_ldiv hx hb dX6_nearest_74 (by decide) ?_
          refine W.lcmp hx hb dX6_nearest_75 ?_
          refine lv_if_gt (tgt := 102) hx hb dX6_nearest_76 (by decide) (fun c10 => ?_) (fun c10 => ?_)
          · replace hf := oif c10 hf
            refine lv_iconst (v := 1) hx hb dX6_nearest_102 (by decide) ?_
            refine lv_goto (tgt := 107) hx hb dX6_nearest_103 (by decide) ?_
            refine lv_istore (lv' := [(12, .int 1), (10, .long (x0 - y8)), (8, .long y8), (6, .long y7), (0, .long x0), (3, .long x0), (5, .int z4)]) hx hb dX6_nearest_107 hl (by decide) rfl (fun ls hl => ?_)
            refine lv_iload hx hb dX6_nearest_109 (lv_at hl 0 rfl) ?_
            refine lv_if_eq (tgt := 122) hx hb dX6_nearest_111 (by decide) (fun h9 => absurd h9 (by decide)) (fun _ => ?_)
            refine lv_lload hx hb dX6_nearest_114 (lv_at hl 2 rfl) ?_
            refine lv_lload hx hb dX6_nearest_116 (lv_at hl 3 rfl) ?_
            refine lv_ladd hx hb dX6_nearest_118 ?_
            refine lv_goto (tgt := 124) hx hb dX6_nearest_119 (by decide) ?_
            refine lv_lstore (lv' := [(13, .long (y8 + y7)), (12, .int 1), (10, .long (x0 - y8)), (8, .long y8), (6, .long y7), (0, .long x0), (3, .long x0), (5, .int z4)]) hx hb dX6_nearest_124 hl (by decide) rfl (fun ls hl => ?_)
            refine lv_lload hx hb dX6_nearest_126 (lv_at hl 0 rfl) ?_
            refine lv_lconst (v := 0) hx hb dX6_nearest_128 (by decide) ?_
            refine W.lcmp hx hb dX6_nearest_129 ?_
            refine lv_if_ge (tgt := 149) hx hb dX6_nearest_130 (by decide) (fun c12 => ?_) (fun c12 => ?_)
            · replace hf := oif c12 hf
              refine lv_lload_n hx hb dX6_nearest_149 rfl (lv_at hl 5 rfl) ?_
              refine lv_lconst (v := 0) hx hb dX6_nearest_150 (by decide) ?_
              refine W.lcmp hx hb dX6_nearest_151 ?_
              refine lv_if_ge (tgt := 161) hx hb dX6_nearest_152 (by decide) (fun c13 => ?_) (fun c13 => ?_)
              · replace hf := oif c13 hf
                refine lv_lload hx hb dX6_nearest_161 (lv_at hl 0 rfl) ?_
                have er := Option.some.inj hf
                exact rtJ hx hb hr hS dX6_nearest_163 er hlocks
              · replace hf := oel c13 hf
                refine lv_lload hx hb dX6_nearest_155 (lv_at hl 0 rfl) ?_
                refine lv_lneg hx hb dX6_nearest_157 ?_
                refine lv_goto (tgt := 163) hx hb dX6_nearest_158 (by decide) ?_
                have er := Option.some.inj hf
                exact rtJ hx hb hr hS dX6_nearest_163 er hlocks
            · replace hf := oel c12 hf
              refine lv_lload_n hx hb dX6_nearest_133 rfl (lv_at hl 5 rfl) ?_
              refine lv_lconst (v := 0) hx hb dX6_nearest_134 (by decide) ?_
              refine W.lcmp hx hb dX6_nearest_135 ?_
              refine lv_if_ge (tgt := 144) hx hb dX6_nearest_136 (by decide) (fun c14 => ?_) (fun c14 => ?_)
              · replace hf := oif c14 hf
                refine lv_lload hx hb dX6_nearest_144 (lv_at hl 0 rfl) ?_
                refine lv_lconst (v := 1) hx hb dX6_nearest_146 (by decide) ?_
                refine lv_lsub hx hb dX6_nearest_147 ?_
                have er := Option.some.inj hf
                exact rtJ hx hb hr hS dX6_nearest_148 er hlocks
              · replace hf := oel c14 hf
                refine lv_lload hx hb dX6_nearest_139 (lv_at hl 0 rfl) ?_
                refine lv_goto (tgt := 148) hx hb dX6_nearest_141 (by decide) ?_
                have er := Option.some.inj hf
                exact rtJ hx hb hr hS dX6_nearest_148 er hlocks
          · replace hf := oel c10 hf
            refine lv_lload hx hb dX6_nearest_79 (lv_at hl 0 rfl) ?_
            refine lv_lload hx hb dX6_nearest_81 (lv_at hl 2 rfl) ?_
            refine lv_ldc2 hx hb hown gk51 dX6_nearest_83 ?_
            refine lv_ldiv hx hb dX6_nearest_86 (by decide) ?_
            refine W.lcmp hx hb dX6_nearest_87 ?_
            refine lv_if_ne (tgt := 106) hx hb dX6_nearest_88 (by decide) (fun c16 => ?_) (fun c16 => ?_)
            · replace hf := oel c16 hf
              refine lv_iconst (v := 0) hx hb dX6_nearest_106 (by decide) ?_
              refine lv_istore (lv' := [(12, .int 0), (10, .long (x0 - y8)), (8, .long y8), (6, .long y7), (0, .long x0), (3, .long x0), (5, .int z4)]) hx hb dX6_nearest_107 hl (by decide) rfl (fun ls hl => ?_)
              refine lv_iload hx hb dX6_nearest_109 (lv_at hl 0 rfl) ?_
              refine lv_if_eq (tgt := 122) hx hb dX6_nearest_111 (by decide) (fun _ => ?_) (fun h9 => absurd (by decide) h9)
              refine lv_lload hx hb dX6_nearest_122 (lv_at hl 2 rfl) ?_
              refine lv_lstore (lv' := [(13, .long y8), (12, .int 0), (10, .long (x0 - y8)), (8, .long y8), (6, .long y7), (0, .long x0), (3, .long x0), (5, .int z4)]) hx hb dX6_nearest_124 hl (by decide) rfl (fun ls hl => ?_)
              refine lv_lload hx hb dX6_nearest_126 (lv_at hl 0 rfl) ?_
              refine lv_lconst (v := 0) hx hb dX6_nearest_128 (by decide) ?_
              refine W.lcmp hx hb dX6_nearest_129 ?_
              refine lv_if_ge (tgt := 149) hx hb dX6_nearest_130 (by decide) (fun c18 => ?_) (fun c18 => ?_)
              · replace hf := oif c18 hf
                refine lv_lload_n hx hb dX6_nearest_149 rfl (lv_at hl 5 rfl) ?_
                refine lv_lconst (v := 0) hx hb dX6_nearest_150 (by decide) ?_
                refine W.lcmp hx hb dX6_nearest_151 ?_
                refine lv_if_ge (tgt := 161) hx hb dX6_nearest_152 (by decide) (fun c19 => ?_) (fun c19 => ?_)
                · replace hf := oif c19 hf
                  refine lv_lload hx hb dX6_nearest_161 (lv_at hl 0 rfl) ?_
                  have er := Option.some.inj hf
                  exact rtJ hx hb hr hS dX6_nearest_163 er hlocks
                · replace hf := oel c19 hf
                  refine lv_lload hx hb dX6_nearest_155 (lv_at hl 0 rfl) ?_
                  refine lv_lneg hx hb dX6_nearest_157 ?_
                  refine lv_goto (tgt := 163) hx hb dX6_nearest_158 (by decide) ?_
                  have er := Option.some.inj hf
                  exact rtJ hx hb hr hS dX6_nearest_163 er hlocks
              · replace hf := oel c18 hf
                refine lv_lload_n hx hb dX6_nearest_133 rfl (lv_at hl 5 rfl) ?_
                refine lv_lconst (v := 0) hx hb dX6_nearest_134 (by decide) ?_
                refine W.lcmp hx hb dX6_nearest_135 ?_
                refine lv_if_ge (tgt := 144) hx hb dX6_nearest_136 (by decide) (fun c20 => ?_) (fun c20 => ?_)
                · replace hf := oif c20 hf
                  refine lv_lload hx hb dX6_nearest_144 (lv_at hl 0 rfl) ?_
                  refine lv_lconst (v := 1) hx hb dX6_nearest_146 (by decide) ?_
                  refine lv_lsub hx hb dX6_nearest_147 ?_
                  have er := Option.some.inj hf
                  exact rtJ hx hb hr hS dX6_nearest_148 er hlocks
                · replace hf := oel c20 hf
                  refine lv_lload hx hb dX6_nearest_139 (lv_at hl 0 rfl) ?_
                  refine lv_goto (tgt := 148) hx hb dX6_nearest_141 (by decide) ?_
                  have er := Option.some.inj hf
                  exact rtJ hx hb hr hS dX6_nearest_148 er hlocks
            · replace hf := oif c16 hf
              refine lv_lload_n hx hb dX6_nearest_91 rfl (lv_at hl 4 rfl) ?_
              refine lv_iload hx hb dX6_nearest_92 (lv_at hl 5 rfl) ?_
              refine lv_lshr (v := (x0 >>> (Int32.toInt64 z4 &&& 63))) hx hb dX6_nearest_94 rfl ?_
              refine lv_lconst (v := 1) hx hb dX6_nearest_95 (by decide) ?_
              refine lv_land hx hb dX6_nearest_96 ?_
              refine lv_lconst (v := 1) hx hb dX6_nearest_97 (by decide) ?_
              refine W.lcmp hx hb dX6_nearest_98 ?_
              refine lv_if_ne (tgt := 106) hx hb dX6_nearest_99 (by decide) (fun c21 => ?_) (fun c21 => ?_)
              · replace hf := oel c21 hf
                refine lv_iconst (v := 0) hx hb dX6_nearest_106 (by decide) ?_
                refine lv_istore (lv' := [(12, .int 0), (10, .long (x0 - y8)), (8, .long y8), (6, .long y7), (0, .long x0), (3, .long x0), (5, .int z4)]) hx hb dX6_nearest_107 hl (by decide) rfl (fun ls hl => ?_)
                refine lv_iload hx hb dX6_nearest_109 (lv_at hl 0 rfl) ?_
                refine lv_if_eq (tgt := 122) hx hb dX6_nearest_111 (by decide) (fun _ => ?_) (fun h9 => absurd (by decide) h9)
                refine lv_lload hx hb dX6_nearest_122 (lv_at hl 2 rfl) ?_
                refine lv_lstore (lv' := [(13, .long y8), (12, .int 0), (10, .long (x0 - y8)), (8, .long y8), (6, .long y7), (0, .long x0), (3, .long x0), (5, .int z4)]) hx hb dX6_nearest_124 hl (by decide) rfl (fun ls hl => ?_)
                refine lv_lload hx hb dX6_nearest_126 (lv_at hl 0 rfl) ?_
                refine lv_lconst (v := 0) hx hb dX6_nearest_128 (by decide) ?_
                refine W.lcmp hx hb dX6_nearest_129 ?_
                refine lv_if_ge (tgt := 149) hx hb dX6_nearest_130 (by decide) (fun c23 => ?_) (fun c23 => ?_)
                · replace hf := oif c23 hf
                  refine lv_lload_n hx hb dX6_nearest_149 rfl (lv_at hl 5 rfl) ?_
                  refine lv_lconst (v := 0) hx hb dX6_nearest_150 (by decide) ?_
                  refine W.lcmp hx hb dX6_nearest_151 ?_
                  refine lv_if_ge (tgt := 161) hx hb dX6_nearest_152 (by decide) (fun c24 => ?_) (fun c24 => ?_)
                  · replace hf := oif c24 hf
                    refine lv_lload hx hb dX6_nearest_161 (lv_at hl 0 rfl) ?_
                    have er := Option.some.inj hf
                    exact rtJ hx hb hr hS dX6_nearest_163 er hlocks
                  · replace hf := oel c24 hf
                    refine lv_lload hx hb dX6_nearest_155 (lv_at hl 0 rfl) ?_
                    refine lv_lneg hx hb dX6_nearest_157 ?_
                    refine lv_goto (tgt := 163) hx hb dX6_nearest_158 (by decide) ?_
                    have er := Option.some.inj hf
                    exact rtJ hx hb hr hS dX6_nearest_163 er hlocks
                · replace hf := oel c23 hf
                  refine lv_lload_n hx hb dX6_nearest_133 rfl (lv_at hl 5 rfl) ?_
                  refine lv_lconst (v := 0) hx hb dX6_nearest_134 (by decide) ?_
                  refine W.lcmp hx hb dX6_nearest_135 ?_
                  refine lv_if_ge (tgt := 144) hx hb dX6_nearest_136 (by decide) (fun c25 => ?_) (fun c25 => ?_)
                  · replace hf := oif c25 hf
                    refine lv_lload hx hb dX6_nearest_144 (lv_at hl 0 rfl) ?_
                    refine lv_lconst (v := 1) hx hb dX6_nearest_146 (by decide) ?_
                    refine lv_lsub hx hb dX6_nearest_147 ?_
                    have er := Option.some.inj hf
                    exact rtJ hx hb hr hS dX6_nearest_148 er hlocks
                  · replace hf := oel c25 hf
                    refine lv_lload hx hb dX6_nearest_139 (lv_at hl 0 rfl) ?_
                    refine lv_goto (tgt := 148) hx hb dX6_nearest_141 (by decide) ?_
                    have er := Option.some.inj hf
                    exact rtJ hx hb hr hS dX6_nearest_148 er hlocks
              · replace hf := oif c21 hf
                refine lv_iconst (v := 1) hx hb dX6_nearest_102 (by decide) ?_
                refine lv_goto (tgt := 107) hx hb dX6_nearest_103 (by decide) ?_
                refine lv_istore (lv' := [(12, .int 1), (10, .long (x0 - y8)), (8, .long y8), (6, .long y7), (0, .long x0), (3, .long x0), (5, .int z4)]) hx hb dX6_nearest_107 hl (by decide) rfl (fun ls hl => ?_)
                refine lv_iload hx hb dX6_nearest_109 (lv_at hl 0 rfl) ?_
                refine lv_if_eq (tgt := 122) hx hb dX6_nearest_111 (by decide) (fun h9 => absurd h9 (by decide)) (fun _ => ?_)
                refine lv_lload hx hb dX6_nearest_114 (lv_at hl 2 rfl) ?_
                refine lv_lload hx hb dX6_nearest_116 (lv_at hl 3 rfl) ?_
                refine lv_ladd hx hb dX6_nearest_118 ?_
                refine lv_goto (tgt := 124) hx hb dX6_nearest_119 (by decide) ?_
                refine lv_lstore (lv' := [(13, .long (y8 + y7)), (12, .int 1), (10, .long (x0 - y8)), (8, .long y8), (6, .long y7), (0, .long x0), (3, .long x0), (5, .int z4)]) hx hb dX6_nearest_124 hl (by decide) rfl (fun ls hl => ?_)
                refine lv_lload hx hb dX6_nearest_126 (lv_at hl 0 rfl) ?_
                refine lv_lconst (v := 0) hx hb dX6_nearest_128 (by decide) ?_
                refine W.lcmp hx hb dX6_nearest_129 ?_
                refine lv_if_ge (tgt := 149) hx hb dX6_nearest_130 (by decide) (fun c27 => ?_) (fun c27 => ?_)
                · replace hf := oif c27 hf
                  refine lv_lload_n hx hb dX6_nearest_149 rfl (lv_at hl 5 rfl) ?_
                  refine lv_lconst (v := 0) hx hb dX6_nearest_150 (by decide) ?_
                  refine W.lcmp hx hb dX6_nearest_151 ?_
                  refine lv_if_ge (tgt := 161) hx hb dX6_nearest_152 (by decide) (fun c28 => ?_) (fun c28 => ?_)
                  · replace hf := oif c28 hf
                    refine lv_lload hx hb dX6_nearest_161 (lv_at hl 0 rfl) ?_
                    have er := Option.some.inj hf
                    exact rtJ hx hb hr hS dX6_nearest_163 er hlocks
                  · replace hf := oel c28 hf
                    refine lv_lload hx hb dX6_nearest_155 (lv_at hl 0 rfl) ?_
                    refine lv_lneg hx hb dX6_nearest_157 ?_
                    refine lv_goto (tgt := 163) hx hb dX6_nearest_158 (by decide) ?_
                    have er := Option.some.inj hf
                    exact rtJ hx hb hr hS dX6_nearest_163 er hlocks
                · replace hf := oel c27 hf
                  refine lv_lload_n hx hb dX6_nearest_133 rfl (lv_at hl 5 rfl) ?_
                  refine lv_lconst (v := 0) hx hb dX6_nearest_134 (by decide) ?_
                  refine W.lcmp hx hb dX6_nearest_135 ?_
                  refine lv_if_ge (tgt := 144) hx hb dX6_nearest_136 (by decide) (fun c29 => ?_) (fun c29 => ?_)
                  · replace hf := oif c29 hf
                    refine lv_lload hx hb dX6_nearest_144 (lv_at hl 0 rfl) ?_
                    refine lv_lconst (v := 1) hx hb dX6_nearest_146 (by decide) ?_
                    refine lv_lsub hx hb dX6_nearest_147 ?_
                    have er := Option.some.inj hf
                    exact rtJ hx hb hr hS dX6_nearest_148 er hlocks
                  · replace hf := oel c29 hf
                    refine lv_lload hx hb dX6_nearest_139 (lv_at hl 0 rfl) ?_
                    refine lv_goto (tgt := 148) hx hb dX6_nearest_141 (by decide) ?_
                    have er := Option.some.inj hf
                    exact rtJ hx hb hr hS dX6_nearest_148 er hlocks
        · replace hf := oel c6 hf
          refine lv_lload_n hx hb dX6_nearest_44 rfl (lv_at hl 0 rfl) ?_
          have er := Option.some.inj hf
          exact rtJ hx hb hr hS dX6_nearest_45 er hlocks
    · replace hf := oel c1 hf
      refine lv_lload_n hx hb dX6_nearest_6 rfl (lv_at hl 0 rfl) ?_
      refine lv_lneg hx hb dX6_nearest_7 ?_
      refine lv_goto (tgt := 12) hx hb dX6_nearest_8 (by decide) ?_
      refine lv_lstore_n (lv' := [(3, .long (-x0)), (0, .long x0), (2, .int x2)]) hx hb dX6_nearest_12 rfl hl (by decide) rfl (fun ls hl => ?_)
      refine lv_iconst (v := 0) hx hb dX6_nearest_13 (by decide) ?_
      refine lv_istore (lv' := [(5, .int 0), (3, .long (-x0)), (0, .long x0), (2, .int x2)]) hx hb dX6_nearest_14 hl (by decide) rfl (fun ls hl => ?_)
      obtain ⟨z30, hz30, hf⟩ := obd hf
      refine W16 4000 x0 x2 (-x0) 0 H locs ls z30 hP hS (lv_sub hl [2, 3, 1, 0] rfl) hz30 (fun H locs ls hP hS hl => ?_)
      refine lv_iload hx hb dX6_nearest_33 (lv_at hl 2 rfl) ?_
      refine lv_if_eq (tgt := 44) hx hb dX6_nearest_35 (by decide) (fun c31 => ?_) (fun c31 => ?_)
      · replace hf := oif c31 hf
        refine lv_lload_n hx hb dX6_nearest_44 rfl (lv_at hl 0 rfl) ?_
        have er := Option.some.inj hf
        exact rtJ hx hb hr hS dX6_nearest_45 er hlocks
      · replace hf := oel c31 hf
        refine lv_lload_n hx hb dX6_nearest_38 rfl (lv_at hl 1 rfl) ?_
        refine lv_lconst (v := 0) hx hb dX6_nearest_39 (by decide) ?_
        refine W.lcmp hx hb dX6_nearest_40 ?_
        refine lv_if_ge (tgt := 46) hx hb dX6_nearest_41 (by decide) (fun c32 => ?_) (fun c32 => ?_)
        · replace hf := oif c32 hf
          refine lv_lconst (v := 1) hx hb dX6_nearest_46 (by decide) ?_
          refine lv_iload hx hb dX6_nearest_47 (lv_at hl 2 rfl) ?_
          refine lv_lshl (v := ((1 : Int64) <<< (Int32.toInt64 z30 &&& 63))) hx hb dX6_nearest_49 rfl ?_
          refine lv_topl (fun y33 ey33 => ?_)
          replace hf := onm ey33 hf
          refine lv_lstore (lv' := [(6, .long y33), (0, .long x0), (3, .long (-x0)), (5, .int z30)]) hx hb dX6_nearest_50 hl (by decide) rfl (fun ls hl => ?_)
          refine lv_lload_n hx hb dX6_nearest_52 rfl (lv_at hl 2 rfl) ?_
          refine lv_iload hx hb dX6_nearest_53 (lv_at hl 3 rfl) ?_
          refine lv_lshr (v := ((-x0) >>> (Int32.toInt64 z30 &&& 63))) hx hb dX6_nearest_55 rfl ?_
          refine lv_iload hx hb dX6_nearest_56 (lv_at hl 3 rfl) ?_
          refine lv_lshl (v := (((-x0) >>> (Int32.toInt64 z30 &&& 63)) <<< (Int32.toInt64 z30 &&& 63))) hx hb dX6_nearest_58 rfl ?_
          refine lv_topl (fun y34 ey34 => ?_)
          replace hf := onm ey34 hf
          refine lv_lstore (lv' := [(8, .long y34), (6, .long y33), (0, .long x0), (3, .long (-x0)), (5, .int z30)]) hx hb dX6_nearest_59 hl (by decide) rfl (fun ls hl => ?_)
          refine lv_lload_n hx hb dX6_nearest_61 rfl (lv_at hl 3 rfl) ?_
          refine lv_lload hx hb dX6_nearest_62 (lv_at hl 0 rfl) ?_
          refine lv_lsub hx hb dX6_nearest_64 ?_
          refine lv_topl (fun y35 ey35 => ?_)
          replace hf := onm ey35 hf
          refine lv_lstore (lv' := [(10, .long y35), (8, .long y34), (6, .long y33), (0, .long x0), (3, .long (-x0)), (5, .int z30)]) hx hb dX6_nearest_65 hl (by decide) rfl (fun ls hl => ?_)
          refine lv_lload hx hb dX6_nearest_67 (lv_at hl 0 rfl) ?_
          refine lv_lload hx hb dX6_nearest_69 (lv_at hl 2 rfl) ?_
          refine lv_ldc2 hx hb hown gk51 dX6_nearest_71 ?_
          refine lv_ldiv hx hb dX6_nearest_74 (by decide) ?_
          refine W.lcmp hx hb dX6_nearest_75 ?_
          refine lv_if_gt (tgt := 102) hx hb dX6_nearest_76 (by decide) (fun c37 => ?_) (fun c37 => ?_)
          · replace hf := oif c37 hf
            refine lv_iconst (v := 1) hx hb dX6_nearest_102 (by decide) ?_
            refine lv_goto (tgt := 107) hx hb dX6_nearest_103 (by decide) ?_
            refine lv_istore (lv' := [(12, .int 1), (10, .long y35), (8, .long y34), (6, .long y33), (0, .long x0), (3, .long (-x0)), (5, .int z30)]) hx hb dX6_nearest_107 hl (by decide) rfl (fun ls hl => ?_)
            refine lv_iload hx hb dX6_nearest_109 (lv_at hl 0 rfl) ?_
            refine lv_if_eq (tgt := 122) hx hb dX6_nearest_111 (by decide) (fun h9 => absurd h9 (by decide)) (fun _ => ?_)
            refine lv_lload hx hb dX6_nearest_114 (lv_at hl 2 rfl) ?_
            refine lv_lload hx hb dX6_nearest_116 (lv_at hl 3 rfl) ?_
            refine lv_ladd hx hb dX6_nearest_118 ?_
            refine lv_goto (tgt := 124) hx hb dX6_nearest_119 (by decide) ?_
            refine lv_lstore (lv' := [(13, .long (y34 + y33)), (12, .int 1), (10, .long y35), (8, .long y34), (6, .long y33), (0, .long x0), (3, .long (-x0)), (5, .int z30)]) hx hb dX6_nearest_124 hl (by decide) rfl (fun ls hl => ?_)
            refine lv_lload hx hb dX6_nearest_126 (lv_at hl 0 rfl) ?_
            refine lv_lconst (v := 0) hx hb dX6_nearest_128 (by decide) ?_
            refine W.lcmp hx hb dX6_nearest_129 ?_
            refine lv_if_ge (tgt := 149) hx hb dX6_nearest_130 (by decide) (fun c39 => ?_) (fun c39 => ?_)
            · replace hf := oif c39 hf
              refine lv_lload_n hx hb dX6_nearest_149 rfl (lv_at hl 5 rfl) ?_
              refine lv_lconst (v := 0) hx hb dX6_nearest_150 (by decide) ?_
              refine W.lcmp hx hb dX6_nearest_151 ?_
              refine lv_if_ge (tgt := 161) hx hb dX6_nearest_152 (by decide) (fun c40 => ?_) (fun c40 => ?_)
              · replace hf := oif c40 hf
                refine lv_lload hx hb dX6_nearest_161 (lv_at hl 0 rfl) ?_
                have er := Option.some.inj hf
                exact rtJ hx hb hr hS dX6_nearest_163 er hlocks
              · replace hf := oel c40 hf
                refine lv_lload hx hb dX6_nearest_155 (lv_at hl 0 rfl) ?_
                refine lv_lneg hx hb dX6_nearest_157 ?_
                refine lv_goto (tgt := 163) hx hb dX6_nearest_158 (by decide) ?_
                have er := Option.some.inj hf
                exact rtJ hx hb hr hS dX6_nearest_163 er hlocks
            · replace hf := oel c39 hf
              refine lv_lload_n hx hb dX6_nearest_133 rfl (lv_at hl 5 rfl) ?_
              refine lv_lconst (v := 0) hx hb dX6_nearest_134 (by decide) ?_
              refine W.lcmp hx hb dX6_nearest_135 ?_
              refine lv_if_ge (tgt := 144) hx hb dX6_nearest_136 (by decide) (fun c41 => ?_) (fun c41 => ?_)
              · replace hf := oif c41 hf
                refine lv_lload hx hb dX6_nearest_144 (lv_at hl 0 rfl) ?_
                refine lv_lconst (v := 1) hx hb dX6_nearest_146 (by decide) ?_
                refine lv_lsub hx hb dX6_nearest_147 ?_
                have er := Option.some.inj hf
                exact rtJ hx hb hr hS dX6_nearest_148 er hlocks
              · replace hf := oel c41 hf
                refine lv_lload hx hb dX6_nearest_139 (lv_at hl 0 rfl) ?_
                refine lv_goto (tgt := 148) hx hb dX6_nearest_141 (by decide) ?_
                have er := Option.some.inj hf
                exact rtJ hx hb hr hS dX6_nearest_148 er hlocks
          · replace hf := oel c37 hf
            refine lv_lload hx hb dX6_nearest_79 (lv_at hl 0 rfl) ?_
            refine lv_lload hx hb dX6_nearest_81 (lv_at hl 2 rfl) ?_
            refine lv_ldc2 hx hb hown gk51 dX6_nearest_83 ?_
            refine lv_ldiv hx hb dX6_nearest_86 (by decide) ?_
            refine W.lcmp hx hb dX6_nearest_87 ?_
            refine lv_if_ne (tgt := 106) hx hb dX6_nearest_88 (by decide) (fun c43 => ?_) (fun c43 => ?_)
            · replace hf := oel c43 hf
              refine lv_iconst (v := 0) hx hb dX6_nearest_106 (by decide) ?_
              refine lv_istore (lv' := [(12, .int 0), (10, .long y35), (8, .long y34), (6, .long y33), (0, .long x0), (3, .long (-x0)), (5, .int z30)]) hx hb dX6_nearest_107 hl (by decide) rfl (fun ls hl => ?_)
              refine lv_iload hx hb dX6_nearest_109 (lv_at hl 0 rfl) ?_
              refine lv_if_eq (tgt := 122) hx hb dX6_nearest_111 (by decide) (fun _ => ?_) (fun h9 => absurd (by decide) h9)
              refine lv_lload hx hb dX6_nearest_122 (lv_at hl 2 rfl) ?_
              refine lv_lstore (lv' := [(13, .long y34), (12, .int 0), (10, .long y35), (8, .long y34), (6, .long y33), (0, .long x0), (3, .long (-x0)), (5, .int z30)]) hx hb dX6_nearest_124 hl (by decide) rfl (fun ls hl => ?_)
              refine lv_lload hx hb dX6_nearest_126 (lv_at hl 0 rfl) ?_
              refine lv_lconst (v := 0) hx hb dX6_nearest_128 (by decide) ?_
              refine W.lcmp hx hb dX6_nearest_129 ?_
              refine lv_if_ge (tgt := 149) hx hb dX6_nearest_130 (by decide) (fun c45 => ?_) (fun c45 => ?_)
              · replace hf := oif c45 hf
                refine lv_lload_n hx hb dX6_nearest_149 rfl (lv_at hl 5 rfl) ?_
                refine lv_lconst (v := 0) hx hb dX6_nearest_150 (by decide) ?_
                refine W.lcmp hx hb dX6_nearest_151 ?_
                refine lv_if_ge (tgt := 161) hx hb dX6_nearest_152 (by decide) (fun c46 => ?_) (fun c46 => ?_)
                · replace hf := oif c46 hf
                  refine lv_lload hx hb dX6_nearest_161 (lv_at hl 0 rfl) ?_
                  have er := Option.some.inj hf
                  exact rtJ hx hb hr hS dX6_nearest_163 er hlocks
                · replace hf := oel c46 hf
                  refine lv_lload hx hb dX6_nearest_155 (lv_at hl 0 rfl) ?_
                  refine lv_lneg hx hb dX6_nearest_157 ?_
                  refine lv_goto (tgt := 163) hx hb dX6_nearest_158 (by decide) ?_
                  have er := Option.some.inj hf
                  exact rtJ hx hb hr hS dX6_nearest_163 er hlocks
              · replace hf := oel c45 hf
                refine lv_lload_n hx hb dX6_nearest_133 rfl (lv_at hl 5 rfl) ?_
                refine lv_lconst (v := 0) hx hb dX6_nearest_134 (by decide) ?_
                refine W.lcmp hx hb dX6_nearest_135 ?_
                refine lv_if_ge (tgt := 144) hx hb dX6_nearest_136 (by decide) (fun c47 => ?_) (fun c47 => ?_)
                · replace hf := oif c47 hf
                  refine lv_lload hx hb dX6_nearest_144 (lv_at hl 0 rfl) ?_
                  refine lv_lconst (v := 1) hx hb dX6_nearest_146 (by decide) ?_
                  refine lv_lsub hx hb dX6_nearest_147 ?_
                  have er := Option.some.inj hf
                  exact rtJ hx hb hr hS dX6_nearest_148 er hlocks
                · replace hf := oel c47 hf
                  refine lv_lload hx hb dX6_nearest_139 (lv_at hl 0 rfl) ?_
                  refine lv_goto (tgt := 148) hx hb dX6_nearest_141 (by decide) ?_
                  have er := Option.some.inj hf
                  exact rtJ hx hb hr hS dX6_nearest_148 er hlocks
            · replace hf := oif c43 hf
              refine lv_lload_n hx hb dX6_nearest_91 rfl (lv_at hl 4 rfl) ?_
              refine lv_iload hx hb dX6_nearest_92 (lv_at hl 5 rfl) ?_
              refine lv_lshr (v := ((-x0) >>> (Int32.toInt64 z30 &&& 63))) hx hb dX6_nearest_94 rfl ?_
              refine lv_lconst (v := 1) hx hb dX6_nearest_95 (by decide) ?_
              refine lv_land hx hb dX6_nearest_96 ?_
              refine lv_lconst (v := 1) hx hb dX6_nearest_97 (by decide) ?_
              refine W.lcmp hx hb dX6_nearest_98 ?_
              refine lv_if_ne (tgt := 106) hx hb dX6_nearest_99 (by decide) (fun c48 => ?_) (fun c48 => ?_)
              · replace hf := oel c48 hf
                refine lv_iconst (v := 0) hx hb dX6_nearest_106 (by decide) ?_
                refine lv_istore (lv' := [(12, .int 0), (10, .long y35), (8, .long y34), (6, .long y33), (0, .long x0), (3, .long (-x0)), (5, .int z30)]) hx hb dX6_nearest_107 hl (by decide) rfl (fun ls hl => ?_)
                refine lv_iload hx hb dX6_nearest_109 (lv_at hl 0 rfl) ?_
                refine lv_if_eq (tgt := 122) hx hb dX6_nearest_111 (by decide) (fun _ => ?_) (fun h9 => absurd (by decide) h9)
                refine lv_lload hx hb dX6_nearest_122 (lv_at hl 2 rfl) ?_
                refine lv_lstore (lv' := [(13, .long y34), (12, .int 0), (10, .long y35), (8, .long y34), (6, .long y33), (0, .long x0), (3, .long (-x0)), (5, .int z30)]) hx hb dX6_nearest_124 hl (by decide) rfl (fun ls hl => ?_)
                refine lv_lload hx hb dX6_nearest_126 (lv_at hl 0 rfl) ?_
                refine lv_lconst (v := 0) hx hb dX6_nearest_128 (by decide) ?_
                refine W.lcmp hx hb dX6_nearest_129 ?_
                refine lv_if_ge (tgt := 149) hx hb dX6_nearest_130 (by decide) (fun c50 => ?_) (fun c50 => ?_)
                · replace hf := oif c50 hf
                  refine lv_lload_n hx hb dX6_nearest_149 rfl (lv_at hl 5 rfl) ?_
                  refine lv_lconst (v := 0) hx hb dX6_nearest_150 (by decide) ?_
                  refine W.lcmp hx hb dX6_nearest_151 ?_
                  refine lv_if_ge (tgt := 161) hx hb dX6_nearest_152 (by decide) (fun c51 => ?_) (fun c51 => ?_)
                  · replace hf := oif c51 hf
                    refine lv_lload hx hb dX6_nearest_161 (lv_at hl 0 rfl) ?_
                    have er := Option.some.inj hf
                    exact rtJ hx hb hr hS dX6_nearest_163 er hlocks
                  · replace hf := oel c51 hf
                    refine lv_lload hx hb dX6_nearest_155 (lv_at hl 0 rfl) ?_
                    refine lv_lneg hx hb dX6_nearest_157 ?_
                    refine lv_goto (tgt := 163) hx hb dX6_nearest_158 (by decide) ?_
                    have er := Option.some.inj hf
                    exact rtJ hx hb hr hS dX6_nearest_163 er hlocks
                · replace hf := oel c50 hf
                  refine lv_lload_n hx hb dX6_nearest_133 rfl (lv_at hl 5 rfl) ?_
                  refine lv_lconst (v := 0) hx hb dX6_nearest_134 (by decide) ?_
                  refine W.lcmp hx hb dX6_nearest_135 ?_
                  refine lv_if_ge (tgt := 144) hx hb dX6_nearest_136 (by decide) (fun c52 => ?_) (fun c52 => ?_)
                  · replace hf := oif c52 hf
                    refine lv_lload hx hb dX6_nearest_144 (lv_at hl 0 rfl) ?_
                    refine lv_lconst (v := 1) hx hb dX6_nearest_146 (by decide) ?_
                    refine lv_lsub hx hb dX6_nearest_147 ?_
                    have er := Option.some.inj hf
                    exact rtJ hx hb hr hS dX6_nearest_148 er hlocks
                  · replace hf := oel c52 hf
                    refine lv_lload hx hb dX6_nearest_139 (lv_at hl 0 rfl) ?_
                    refine lv_goto (tgt := 148) hx hb dX6_nearest_141 (by decide) ?_
                    have er := Option.some.inj hf
                    exact rtJ hx hb hr hS dX6_nearest_148 er hlocks
              · replace hf := oif c48 hf
                refine lv_iconst (v := 1) hx hb dX6_nearest_102 (by decide) ?_
                refine lv_goto (tgt := 107) hx hb dX6_nearest_103 (by decide) ?_
                refine lv_istore (lv' := [(12, .int 1), (10, .long y35), (8, .long y34), (6, .long y33), (0, .long x0), (3, .long (-x0)), (5, .int z30)]) hx hb dX6_nearest_107 hl (by decide) rfl (fun ls hl => ?_)
                refine lv_iload hx hb dX6_nearest_109 (lv_at hl 0 rfl) ?_
                refine lv_if_eq (tgt := 122) hx hb dX6_nearest_111 (by decide) (fun h9 => absurd h9 (by decide)) (fun _ => ?_)
                refine lv_lload hx hb dX6_nearest_114 (lv_at hl 2 rfl) ?_
                refine lv_lload hx hb dX6_nearest_116 (lv_at hl 3 rfl) ?_
                refine lv_ladd hx hb dX6_nearest_118 ?_
                refine lv_goto (tgt := 124) hx hb dX6_nearest_119 (by decide) ?_
                refine lv_lstore (lv' := [(13, .long (y34 + y33)), (12, .int 1), (10, .long y35), (8, .long y34), (6, .long y33), (0, .long x0), (3, .long (-x0)), (5, .int z30)]) hx hb dX6_nearest_124 hl (by decide) rfl (fun ls hl => ?_)
                refine lv_lload hx hb dX6_nearest_126 (lv_at hl 0 rfl) ?_
                refine lv_lconst (v := 0) hx hb dX6_nearest_128 (by decide) ?_
                refine W.lcmp hx hb dX6_nearest_129 ?_
                refine lv_if_ge (tgt := 149) hx hb dX6_nearest_130 (by decide) (fun c54 => ?_) (fun c54 => ?_)
                · replace hf := oif c54 hf
                  refine lv_lload_n hx hb dX6_nearest_149 rfl (lv_at hl 5 rfl) ?_
                  refine lv_lconst (v := 0) hx hb dX6_nearest_150 (by decide) ?_
                  refine W.lcmp hx hb dX6_nearest_151 ?_
                  refine lv_if_ge (tgt := 161) hx hb dX6_nearest_152 (by decide) (fun c55 => ?_) (fun c55 => ?_)
                  · replace hf := oif c55 hf
                    refine lv_lload hx hb dX6_nearest_161 (lv_at hl 0 rfl) ?_
                    have er := Option.some.inj hf
                    exact rtJ hx hb hr hS dX6_nearest_163 er hlocks
                  · replace hf := oel c55 hf
                    refine lv_lload hx hb dX6_nearest_155 (lv_at hl 0 rfl) ?_
                    refine lv_lneg hx hb dX6_nearest_157 ?_
                    refine lv_goto (tgt := 163) hx hb dX6_nearest_158 (by decide) ?_
                    have er := Option.some.inj hf
                    exact rtJ hx hb hr hS dX6_nearest_163 er hlocks
                · replace hf := oel c54 hf
                  refine lv_lload_n hx hb dX6_nearest_133 rfl (lv_at hl 5 rfl) ?_
                  refine lv_lconst (v := 0) hx hb dX6_nearest_134 (by decide) ?_
                  refine W.lcmp hx hb dX6_nearest_135 ?_
                  refine lv_if_ge (tgt := 144) hx hb dX6_nearest_136 (by decide) (fun c56 => ?_) (fun c56 => ?_)
                  · replace hf := oif c56 hf
                    refine lv_lload hx hb dX6_nearest_144 (lv_at hl 0 rfl) ?_
                    refine lv_lconst (v := 1) hx hb dX6_nearest_146 (by decide) ?_
                    refine lv_lsub hx hb dX6_nearest_147 ?_
                    have er := Option.some.inj hf
                    exact rtJ hx hb hr hS dX6_nearest_148 er hlocks
                  · replace hf := oel c56 hf
                    refine lv_lload hx hb dX6_nearest_139 (lv_at hl 0 rfl) ?_
                    refine lv_goto (tgt := 148) hx hb dX6_nearest_141 (by decide) ?_
                    have er := Option.some.inj hf
                    exact rtJ hx hb hr hS dX6_nearest_148 er hlocks
        · replace hf := oel c32 hf
          refine lv_lload_n hx hb dX6_nearest_44 rfl (lv_at hl 0 rfl) ?_
          have er := Option.some.inj hf
          exact rtJ hx hb hr hS dX6_nearest_45 er hlocks
  exact go s.heap [] hP hS
noncomputable def f_X6_madeOf (x0 : Int32) (x1 : Int64) : Option (Int64) := if x0 = 0 then (if (lg_cmp x1 0) = 0 then (some (0)) else (some (1))) else (if x0 = 1 then (some ((Int32.toInt64 (Int8.toInt32 (Int32.toInt8 (Int64.toInt32 x1)))))) else (if x0 = 2 then (some ((x1 &&& (65535 : Int64)))) else (if x0 = 3 then (some ((Int32.toInt64 (Int16.toInt32 (Int32.toInt16 (Int64.toInt32 x1)))))) else (if x0 = 4 then (some ((Int32.toInt64 (Int64.toInt32 x1)))) else (if x0 = 5 then (some (x1)) else (if x0 = 6 then ((f_X6_nearest x1 24).bind (fun z9 => some (z9))) else (if x0 = 7 then ((f_X6_nearest x1 53).bind (fun z11 => some (z11))) else (some (x1)))))))))
set_option maxHeartbeats 4000000 in
set_option maxRecDepth 100000 in
theorem c_X6_madeOf (l : Launch) (D : va_G) (cI cJ cZ cQ : ClassId) (bs sz : Nat) (x0 : Int32) (x1 : Int64) (zr : Int64) (hf : f_X6_madeOf x0 x1 = some zr) : Met l yX6_madeOf wsX6_madeOf { frames := 1, cells := 0, slots := 0, locals := 34 } (va_Pc [.int x0, .long x1] (Pr D cI cJ cZ cQ bs sz [])) (QrJ zr) 0 0 no := by
  refine stM (cc := cX6_madeOf) (maxL := 3) (ret := (some .long)) (by decide +kernel) rfl (Nat.le_of_ble_eq_true rfl) ?_
  intro p e s m args below meth c C0 hr hlocks hname hsz hP hDb hE ls hl
  have hAb : ∀ q, no q → bs ≤ q := fun _ h => h.elim
  obtain ⟨hx, hb, hml, hown, hts⟩ := id C0
  have hown : s.vm.findClass RX6 = some m.cls := hown
  obtain ⟨hK, hNW, -, tw, hZ, hT⟩ := id hE
  have hl : lv_has ls 3 [(0, .int x0), (1, .long x1)] := hl
  have hS : va_S no s.heap s.heap [] := va_S.rf
  have gk53 := hts (.constantLong RX6 53 (65535)) (by decide +kernel)
  unfold f_X6_madeOf at hf
  have go : ∀ (H : Heap) (locs : List Loc), va_P D vwCl [] H → va_S no s.heap H locs → W p l e { frames := 1, cells := 0, slots := 0, locals := 34 } s m args below meth c H locs 0 0 (MQ below (QrJ zr) args s 0 0 no) (F0 m 0 ls []) := by
    intro H locs hP hS
    refine lv_iload_n hx hb dX6_madeOf_0 rfl (lv_at hl 0 rfl) ?_
    by_cases c1 : x0 = 0
    · replace hf := oif c1 hf
      refine cgI c1 ?_
      refine lv_tableIn (off := 47) (tgt := 48) hx hb dX6_madeOf_1 (by decide) (by decide) (by decide +kernel) (by decide) ?_
      refine lv_lload_n hx hb dX6_madeOf_48 rfl (lv_at hl 1 rfl) ?_
      refine lv_lconst (v := 0) hx hb dX6_madeOf_49 (by decide) ?_
      refine W.lcmp hx hb dX6_madeOf_50 ?_
      refine lv_if_ne (tgt := 58) hx hb dX6_madeOf_51 (by decide) (fun c2 => ?_) (fun c2 => ?_)
      · replace hf := oel c2 hf
        refine lv_lconst (v := 1) hx hb dX6_madeOf_58 (by decide) ?_
        have er := Option.some.inj hf
        exact rtJ hx hb hr hS dX6_madeOf_59 er hlocks
      · replace hf := oif c2 hf
        refine lv_lconst (v := 0) hx hb dX6_madeOf_54 (by decide) ?_
        refine lv_goto (tgt := 59) hx hb dX6_madeOf_55 (by decide) ?_
        have er := Option.some.inj hf
        exact rtJ hx hb hr hS dX6_madeOf_59 er hlocks
    replace hf := oel c1 hf
    by_cases c3 : x0 = 1
    · replace hf := oif c3 hf
      refine cgI c3 ?_
      refine lv_tableIn (off := 59) (tgt := 60) hx hb dX6_madeOf_1 (by decide) (by decide) (by decide +kernel) (by decide) ?_
      refine lv_lload_n hx hb dX6_madeOf_60 rfl (lv_at hl 1 rfl) ?_
      refine lv_l2i (v := (Int64.toInt32 x1)) hx hb dX6_madeOf_61 rfl ?_
      refine lv_i2b (v := (Int8.toInt32 (Int32.toInt8 (Int64.toInt32 x1)))) hx hb dX6_madeOf_62 rfl ?_
      refine lv_i2l (v := (Int32.toInt64 (Int8.toInt32 (Int32.toInt8 (Int64.toInt32 x1))))) hx hb dX6_madeOf_63 rfl ?_
      have er := Option.some.inj hf
      exact rtJ hx hb hr hS dX6_madeOf_64 er hlocks
    replace hf := oel c3 hf
    by_cases c4 : x0 = 2
    · replace hf := oif c4 hf
      refine cgI c4 ?_
      refine lv_tableIn (off := 64) (tgt := 65) hx hb dX6_madeOf_1 (by decide) (by decide) (by decide +kernel) (by decide) ?_
      refine lv_lload_n hx hb dX6_madeOf_65 rfl (lv_at hl 1 rfl) ?_
      refine lv_ldc2 hx hb hown gk53 dX6_madeOf_66 ?_
      refine lv_land hx hb dX6_madeOf_69 ?_
      have er := Option.some.inj hf
      exact rtJ hx hb hr hS dX6_madeOf_70 er hlocks
    replace hf := oel c4 hf
    by_cases c5 : x0 = 3
    · replace hf := oif c5 hf
      refine cgI c5 ?_
      refine lv_tableIn (off := 70) (tgt := 71) hx hb dX6_madeOf_1 (by decide) (by decide) (by decide +kernel) (by decide) ?_
      refine lv_lload_n hx hb dX6_madeOf_71 rfl (lv_at hl 1 rfl) ?_
      refine lv_l2i (v := (Int64.toInt32 x1)) hx hb dX6_madeOf_72 rfl ?_
      refine lv_i2s (v := (Int16.toInt32 (Int32.toInt16 (Int64.toInt32 x1)))) hx hb dX6_madeOf_73 rfl ?_
      refine lv_i2l (v := (Int32.toInt64 (Int16.toInt32 (Int32.toInt16 (Int64.toInt32 x1))))) hx hb dX6_madeOf_74 rfl ?_
      have er := Option.some.inj hf
      exact rtJ hx hb hr hS dX6_madeOf_75 er hlocks
    replace hf := oel c5 hf
    by_cases c6 : x0 = 4
    · replace hf := oif c6 hf
      refine cgI c6 ?_
      refine lv_tableIn (off := 75) (tgt := 76) hx hb dX6_madeOf_1 (by decide) (by decide) (by decide +kernel) (by decide) ?_
      refine lv_lload_n hx hb dX6_madeOf_76 rfl (lv_at hl 1 rfl) ?_
      refine lv_l2i (v := (Int64.toInt32 x1)) hx hb dX6_madeOf_77 rfl ?_
      refine lv_i2l (v := (Int32.toInt64 (Int64.toInt32 x1))) hx hb dX6_madeOf_78 rfl ?_
      have er := Option.some.inj hf
      exact rtJ hx hb hr hS dX6_madeOf_79 er hlocks
    replace hf := oel c6 hf
    by_cases c7 : x0 = 5
    · replace hf := oif c7 hf
      refine cgI c7 ?_
      refine lv_tableIn (off := 93) (tgt := 94) hx hb dX6_madeOf_1 (by decide) (by decide) (by decide +kernel) (by decide) ?_
      refine lv_lload_n hx hb dX6_madeOf_94 rfl (lv_at hl 1 rfl) ?_
      have er := Option.some.inj hf
      exact rtJ hx hb hr hS dX6_madeOf_95 er hlocks
    replace hf := oel c7 hf
    by_cases c8 : x0 = 6
    · replace hf := oif c8 hf
      refine cgI c8 ?_
      refine lv_tableIn (off := 79) (tgt := 80) hx hb dX6_madeOf_1 (by decide) (by decide) (by decide +kernel) (by decide) ?_
      refine lv_lload_n hx hb dX6_madeOf_80 rfl (lv_at hl 1 rfl) ?_
      refine lv_bipush (v := 24) hx hb dX6_madeOf_81 (by decide) ?_
      obtain ⟨z9, hz9, hf⟩ := obd hf
      refine kJ (runS (As := [.long x1, .int 24]) (rest := []) C0 hE hAb hP (hDb.addr rfl) hS [] (wc := []) (by decide) rfl (c_X6_nearest l D cI cJ cZ cQ bs H.size x1 24 z9 hz9) (va_cwS 2 hts gX6_madeOf_X6_nearest rfl rfl rfl (by decide +kernel) ⟨Nat.le_of_ble_eq_true rfl, Nat.le_of_ble_eq_true rfl⟩) rfl hl.1 rfl (Nat.le_of_ble_eq_true rfl) dX6_madeOf_83 ⟨Nat.le_of_ble_eq_true rfl, Nat.le_of_ble_eq_true rfl⟩) hS hP (fun H locs hP hS => ?_)
      have er := Option.some.inj hf
      exact rtJ hx hb hr hS dX6_madeOf_86 er hlocks
    replace hf := oel c8 hf
    by_cases c10 : x0 = 7
    · replace hf := oif c10 hf
      refine cgI c10 ?_
      refine lv_tableIn (off := 86) (tgt := 87) hx hb dX6_madeOf_1 (by decide) (by decide) (by decide +kernel) (by decide) ?_
      refine lv_lload_n hx hb dX6_madeOf_87 rfl (lv_at hl 1 rfl) ?_
      refine lv_bipush (v := 53) hx hb dX6_madeOf_88 (by decide) ?_
      obtain ⟨z11, hz11, hf⟩ := obd hf
      refine kJ (runS (As := [.long x1, .int 53]) (rest := []) C0 hE hAb hP (hDb.addr rfl) hS [] (wc := []) (by decide) rfl (c_X6_nearest l D cI cJ cZ cQ bs H.size x1 53 z11 hz11) (va_cwS 2 hts gX6_madeOf_X6_nearest rfl rfl rfl (by decide +kernel) ⟨Nat.le_of_ble_eq_true rfl, Nat.le_of_ble_eq_true rfl⟩) rfl hl.1 rfl (Nat.le_of_ble_eq_true rfl) dX6_madeOf_90 ⟨Nat.le_of_ble_eq_true rfl, Nat.le_of_ble_eq_true rfl⟩) hS hP (fun H locs hP hS => ?_)
      have er := Option.some.inj hf
      exact rtJ hx hb hr hS dX6_madeOf_93 er hlocks
    replace hf := oel c10 hf
    refine lv_tableOut (tgt := 94) hx hb dX6_madeOf_1 (by have a0 := lv_neT c1 (a := 0) (by decide); have a1 := lv_neT c3 (a := 1) (by decide); have a2 := lv_neT c4 (a := 2) (by decide); have a3 := lv_neT c5 (a := 3) (by decide); have a4 := lv_neT c6 (a := 4) (by decide); have a5 := lv_neT c7 (a := 5) (by decide); have a6 := lv_neT c8 (a := 6) (by decide); have a7 := lv_neT c10 (a := 7) (by decide); omega) (by decide) ?_
    refine lv_lload_n hx hb dX6_madeOf_94 rfl (lv_at hl 1 rfl) ?_
    have er := Option.some.inj hf
    exact rtJ hx hb hr hS dX6_madeOf_95 er hlocks
  exact go s.heap [] hP hS
noncomputable def f_X6_goes (x0 : Int32) (x1 : Int32) : Option (Int32) := if x0 = x1 then (some (1)) else (if x0 ≤ 0 then (some (0)) else (if 7 < x1 then (some (0)) else (if x1 ≤ x0 then (some (0)) else (if 3 < x1 then (some (1)) else (if x0 = 1 then (if x1 = 3 then (some (1)) else (some (0))) else (some (0)))))))
set_option maxHeartbeats 4000000 in
set_option maxRecDepth 100000 in
theorem c_X6_goes (l : Launch) (D : va_G) (cI cJ cZ cQ : ClassId) (bs sz : Nat) (x0 : Int32) (x1 : Int32) (zr : Int32) (hf : f_X6_goes x0 x1 = some zr) : Met l yX6_goes wsX6_goes { frames := 0, cells := 0, slots := 0, locals := 0 } (va_Pc [.int x0, .int x1] (Pr D cI cJ cZ cQ bs sz [])) (QrZ zr) 0 0 no := by
  refine stM (cc := cX6_goes) (maxL := 2) (ret := (some .boolean)) (by decide +kernel) rfl (Nat.le_of_ble_eq_true rfl) ?_
  intro p e s m args below meth c C0 hr hlocks hname hsz hP hDb hE ls hl
  have hAb : ∀ q, no q → bs ≤ q := fun _ h => h.elim
  obtain ⟨hx, hb, hml, hown, hts⟩ := id C0
  have hown : s.vm.findClass RX6 = some m.cls := hown
  obtain ⟨hK, hNW, -, tw, hZ, hT⟩ := id hE
  have hl : lv_has ls 2 [(0, .int x0), (1, .int x1)] := hl
  have hS : va_S no s.heap s.heap [] := va_S.rf
  unfold f_X6_goes at hf
  have go : ∀ (H : Heap) (locs : List Loc), va_P D vwCl [] H → va_S no s.heap H locs → W p l e { frames := 0, cells := 0, slots := 0, locals := 0 } s m args below meth c H locs 0 0 (MQ below (QrZ zr) args s 0 0 no) (F0 m 0 ls []) := by
    intro H locs hP hS
    refine lv_iload_n hx hb dX6_goes_0 rfl (lv_at hl 0 rfl) ?_
    refine lv_iload_n hx hb dX6_goes_1 rfl (lv_at hl 1 rfl) ?_
    refine lv_icmp_ne (tgt := 7) hx hb dX6_goes_2 (by decide) (fun c1 => ?_) (fun c1 => ?_)
    · replace hf := oel c1 hf
      refine lv_iload_n hx hb dX6_goes_7 rfl (lv_at hl 0 rfl) ?_
      refine lv_if_le (tgt := 41) hx hb dX6_goes_8 (by decide) (fun c2 => ?_) (fun c2 => ?_)
      · replace hf := oif c2 hf
        refine lv_iconst (v := 0) hx hb dX6_goes_41 (by decide) ?_
        have er := Option.some.inj hf
        exact rtZ hx hb hr hS dX6_goes_42 er (by decide) hlocks
      · replace hf := oel c2 hf
        refine lv_iload_n hx hb dX6_goes_11 rfl (lv_at hl 1 rfl) ?_
        refine lv_bipush (v := 7) hx hb dX6_goes_12 (by decide) ?_
        refine lv_icmp_gt (tgt := 41) hx hb dX6_goes_14 (by decide) (fun c3 => ?_) (fun c3 => ?_)
        · replace hf := oif c3 hf
          refine lv_iconst (v := 0) hx hb dX6_goes_41 (by decide) ?_
          have er := Option.some.inj hf
          exact rtZ hx hb hr hS dX6_goes_42 er (by decide) hlocks
        · replace hf := oel c3 hf
          refine lv_iload_n hx hb dX6_goes_17 rfl (lv_at hl 1 rfl) ?_
          refine lv_iload_n hx hb dX6_goes_18 rfl (lv_at hl 0 rfl) ?_
          refine lv_icmp_le (tgt := 41) hx hb dX6_goes_19 (by decide) (fun c4 => ?_) (fun c4 => ?_)
          · replace hf := oif c4 hf
            refine lv_iconst (v := 0) hx hb dX6_goes_41 (by decide) ?_
            have er := Option.some.inj hf
            exact rtZ hx hb hr hS dX6_goes_42 er (by decide) hlocks
          · replace hf := oel c4 hf
            refine lv_iload_n hx hb dX6_goes_22 rfl (lv_at hl 1 rfl) ?_
            refine lv_iconst (v := 3) hx hb dX6_goes_23 (by decide) ?_
            refine lv_icmp_gt (tgt := 37) hx hb dX6_goes_24 (by decide) (fun c5 => ?_) (fun c5 => ?_)
            · replace hf := oif c5 hf
              refine lv_iconst (v := 1) hx hb dX6_goes_37 (by decide) ?_
              refine lv_goto (tgt := 42) hx hb dX6_goes_38 (by decide) ?_
              have er := Option.some.inj hf
              exact rtZ hx hb hr hS dX6_goes_42 er (by decide) hlocks
            · replace hf := oel c5 hf
              refine lv_iload_n hx hb dX6_goes_27 rfl (lv_at hl 0 rfl) ?_
              refine lv_iconst (v := 1) hx hb dX6_goes_28 (by decide) ?_
              refine lv_icmp_ne (tgt := 41) hx hb dX6_goes_29 (by decide) (fun c6 => ?_) (fun c6 => ?_)
              · replace hf := oel c6 hf
                refine lv_iconst (v := 0) hx hb dX6_goes_41 (by decide) ?_
                have er := Option.some.inj hf
                exact rtZ hx hb hr hS dX6_goes_42 er (by decide) hlocks
              · replace hf := oif c6 hf
                refine lv_iload_n hx hb dX6_goes_32 rfl (lv_at hl 1 rfl) ?_
                refine lv_iconst (v := 3) hx hb dX6_goes_33 (by decide) ?_
                refine lv_icmp_ne (tgt := 41) hx hb dX6_goes_34 (by decide) (fun c7 => ?_) (fun c7 => ?_)
                · replace hf := oel c7 hf
                  refine lv_iconst (v := 0) hx hb dX6_goes_41 (by decide) ?_
                  have er := Option.some.inj hf
                  exact rtZ hx hb hr hS dX6_goes_42 er (by decide) hlocks
                · replace hf := oif c7 hf
                  refine lv_iconst (v := 1) hx hb dX6_goes_37 (by decide) ?_
                  refine lv_goto (tgt := 42) hx hb dX6_goes_38 (by decide) ?_
                  have er := Option.some.inj hf
                  exact rtZ hx hb hr hS dX6_goes_42 er (by decide) hlocks
    · replace hf := oif c1 hf
      refine lv_iconst (v := 1) hx hb dX6_goes_5 (by decide) ?_
      have er := Option.some.inj hf
      exact rtZ hx hb hr hS dX6_goes_6 er (by decide) hlocks
  exact go s.heap [] hP hS
noncomputable def f_X6_gone (x0 : Int64) (x2 : Int32) : Option (Int64) := if x2 = 6 then ((f_X6_nearest x0 24).bind (fun z4 => some (z4))) else (if x2 = 7 then ((f_X6_nearest x0 53).bind (fun z3 => some (z3))) else (some (x0)))
set_option maxHeartbeats 4000000 in
set_option maxRecDepth 100000 in
theorem c_X6_gone (l : Launch) (D : va_G) (cI cJ cZ cQ : ClassId) (bs sz : Nat) (x0 : Int64) (x2 : Int32) (zr : Int64) (hf : f_X6_gone x0 x2 = some zr) : Met l yX6_gone wsX6_gone { frames := 1, cells := 0, slots := 0, locals := 34 } (va_Pc [.long x0, .int x2] (Pr D cI cJ cZ cQ bs sz [])) (QrJ zr) 0 0 no := by
  refine stM (cc := cX6_gone) (maxL := 3) (ret := (some .long)) (by decide +kernel) rfl (Nat.le_of_ble_eq_true rfl) ?_
  intro p e s m args below meth c C0 hr hlocks hname hsz hP hDb hE ls hl
  have hAb : ∀ q, no q → bs ≤ q := fun _ h => h.elim
  obtain ⟨hx, hb, hml, hown, hts⟩ := id C0
  have hown : s.vm.findClass RX6 = some m.cls := hown
  obtain ⟨hK, hNW, -, tw, hZ, hT⟩ := id hE
  have hl : lv_has ls 3 [(0, .long x0), (2, .int x2)] := hl
  have hS : va_S no s.heap s.heap [] := va_S.rf
  unfold f_X6_gone at hf
  have go : ∀ (H : Heap) (locs : List Loc), va_P D vwCl [] H → va_S no s.heap H locs → W p l e { frames := 1, cells := 0, slots := 0, locals := 34 } s m args below meth c H locs 0 0 (MQ below (QrJ zr) args s 0 0 no) (F0 m 0 ls []) := by
    intro H locs hP hS
    refine lv_iload_n hx hb dX6_gone_0 rfl (lv_at hl 1 rfl) ?_
    refine lv_bipush (v := 6) hx hb dX6_gone_1 (by decide) ?_
    refine lv_icmp_ne (tgt := 15) hx hb dX6_gone_3 (by decide) (fun c1 => ?_) (fun c1 => ?_)
    · replace hf := oel c1 hf
      refine lv_iload_n hx hb dX6_gone_15 rfl (lv_at hl 1 rfl) ?_
      refine lv_bipush (v := 7) hx hb dX6_gone_16 (by decide) ?_
      refine lv_icmp_ne (tgt := 30) hx hb dX6_gone_18 (by decide) (fun c2 => ?_) (fun c2 => ?_)
      · replace hf := oel c2 hf
        refine lv_lload_n hx hb dX6_gone_30 rfl (lv_at hl 0 rfl) ?_
        have er := Option.some.inj hf
        exact rtJ hx hb hr hS dX6_gone_31 er hlocks
      · replace hf := oif c2 hf
        refine lv_lload_n hx hb dX6_gone_21 rfl (lv_at hl 0 rfl) ?_
        refine lv_bipush (v := 53) hx hb dX6_gone_22 (by decide) ?_
        obtain ⟨z3, hz3, hf⟩ := obd hf
        refine kJ (runS (As := [.long x0, .int 53]) (rest := []) C0 hE hAb hP (hDb.addr rfl) hS [] (wc := []) (by decide) rfl (c_X6_nearest l D cI cJ cZ cQ bs H.size x0 53 z3 hz3) (va_cwS 2 hts gX6_gone_X6_nearest rfl rfl rfl (by decide +kernel) ⟨Nat.le_of_ble_eq_true rfl, Nat.le_of_ble_eq_true rfl⟩) rfl hl.1 rfl (Nat.le_of_ble_eq_true rfl) dX6_gone_24 ⟨Nat.le_of_ble_eq_true rfl, Nat.le_of_ble_eq_true rfl⟩) hS hP (fun H locs hP hS => ?_)
        refine lv_goto (tgt := 31) hx hb dX6_gone_27 (by decide) ?_
        have er := Option.some.inj hf
        exact rtJ hx hb hr hS dX6_gone_31 er hlocks
    · replace hf := oif c1 hf
      refine lv_lload_n hx hb dX6_gone_6 rfl (lv_at hl 0 rfl) ?_
      refine lv_bipush (v := 24) hx hb dX6_gone_7 (by decide) ?_
      obtain ⟨z4, hz4, hf⟩ := obd hf
      refine kJ (runS (As := [.long x0, .int 24]) (rest := []) C0 hE hAb hP (hDb.addr rfl) hS [] (wc := []) (by decide) rfl (c_X6_nearest l D cI cJ cZ cQ bs H.size x0 24 z4 hz4) (va_cwS 2 hts gX6_gone_X6_nearest rfl rfl rfl (by decide +kernel) ⟨Nat.le_of_ble_eq_true rfl, Nat.le_of_ble_eq_true rfl⟩) rfl hl.1 rfl (Nat.le_of_ble_eq_true rfl) dX6_gone_9 ⟨Nat.le_of_ble_eq_true rfl, Nat.le_of_ble_eq_true rfl⟩) hS hP (fun H locs hP hS => ?_)
      refine lv_goto (tgt := 31) hx hb dX6_gone_12 (by decide) ?_
      have er := Option.some.inj hf
      exact rtJ hx hb hr hS dX6_gone_31 er hlocks
  exact go s.heap [] hP hS
noncomputable def f_X6_kind (w_w : Nat → Int64) (x1 : Int32) : Option (Int32) := if ib ((0 : Int32) + x1) 3420 = true then (some ((Int64.toInt32 (w_w ((0 : Int32) + x1).toNatClampNeg)))) else none
set_option maxHeartbeats 4000000 in
set_option maxRecDepth 100000 in
theorem c_X6_kind (l : Launch) (D : va_G) (cI cJ cZ cQ : ClassId) (bs sz : Nat) (w : Nat → Nat) (w_undos : Int32) (w_seed : Int32) (w_entries : Int32) (w_w : Nat → Int64) (x1 : Int32) (zr : Int32) (hf : f_X6_kind w_w x1 = some zr) : Met l yX6_kind wsX6_kind { frames := 0, cells := 0, slots := 0, locals := 0 } (va_Pc [.ref (w 0), .int x1] (Pr D cI cJ cZ cQ bs sz [oX6 w w_undos w_seed w_entries, aJ cJ (w 1) 3420 w_w])) (QrI zr) 0 0 no := by
  refine stM (cc := cX6_kind) (maxL := 2) (ret := (some .int)) (by decide +kernel) rfl (Nat.le_of_ble_eq_true rfl) ?_
  intro p e s m args below meth c C0 hr hlocks hname hsz hP hDb hE ls hl
  have hAb : ∀ q, no q → bs ≤ q := fun _ h => h.elim
  obtain ⟨hx, hb, hml, hown, hts⟩ := id C0
  have hown : s.vm.findClass RX6 = some m.cls := hown
  obtain ⟨hK, hNW, -, tw, hZ, hT⟩ := id hE
  have hl : lv_has ls 2 [(0, .ref (w 0)), (1, .int x1)] := hl
  have hS : va_S no s.heap s.heap [] := va_S.rf
  have hI_X6 := (show ∀ w ∈ wsX60, w ∈ wsX6_kind by decide +kernel)
  have gf7 := hts (.fieldLink RX6 7 "RowRanksModel" "w" "[J") (by decide +kernel)
  unfold f_X6_kind at hf
  have go : ∀ (H : Heap) (locs : List Loc), va_P D vwCl [oX6 w w_undos w_seed w_entries, aJ cJ (w 1) 3420 w_w] H → va_S no s.heap H locs → W p l e { frames := 0, cells := 0, slots := 0, locals := 0 } s m args below meth c H locs 0 0 (MQ below (QrI zr) args s 0 0 no) (F0 m 0 ls []) := by
    intro H locs hP hS
    refine lv_aload_n hx hb dX6_kind_0 rfl (lv_at hl 0 rfl) ?_
    refine va_get (D := D) (ci := 6) (v := .ref (w 1)) (C := RX6) (T := TX6) (N := 12) hx hb hts hI_X6 hown hK hP 0 rfl rfl 0 (by decide) gf7 (fun _ h9 => h9) rfl dX6_kind_1 ?_
    refine lv_iconst (v := 0) hx hb dX6_kind_4 (by decide) ?_
    refine lv_iload_n hx hb dX6_kind_5 rfl (lv_at hl 1 rfl) ?_
    refine lv_iadd hx hb dX6_kind_6 ?_
    obtain ⟨h1, hf⟩ := ogd hf
    refine va_lald hx hb hK hP 1 1 rfl rfl (ib_in h1) dX6_kind_7 ?_
    refine lv_l2i (v := (Int64.toInt32 (w_w ((0 : Int32) + x1).toNatClampNeg))) hx hb dX6_kind_8 rfl ?_
    have er := Option.some.inj hf
    exact rtI hx hb hr hS dX6_kind_9 er hlocks
  exact go s.heap [] hP hS
noncomputable def f_X6_many (w_w : Nat → Int64) (x1 : Int32) : Option (Int32) := if ib ((6 : Int32) + x1) 3420 = true then (some ((Int64.toInt32 (w_w ((6 : Int32) + x1).toNatClampNeg)))) else none
set_option maxHeartbeats 4000000 in
set_option maxRecDepth 100000 in
theorem c_X6_many (l : Launch) (D : va_G) (cI cJ cZ cQ : ClassId) (bs sz : Nat) (w : Nat → Nat) (w_undos : Int32) (w_seed : Int32) (w_entries : Int32) (w_w : Nat → Int64) (x1 : Int32) (zr : Int32) (hf : f_X6_many w_w x1 = some zr) : Met l yX6_many wsX6_many { frames := 0, cells := 0, slots := 0, locals := 0 } (va_Pc [.ref (w 0), .int x1] (Pr D cI cJ cZ cQ bs sz [oX6 w w_undos w_seed w_entries, aJ cJ (w 1) 3420 w_w])) (QrI zr) 0 0 no := by
  refine stM (cc := cX6_many) (maxL := 2) (ret := (some .int)) (by decide +kernel) rfl (Nat.le_of_ble_eq_true rfl) ?_
  intro p e s m args below meth c C0 hr hlocks hname hsz hP hDb hE ls hl
  have hAb : ∀ q, no q → bs ≤ q := fun _ h => h.elim
  obtain ⟨hx, hb, hml, hown, hts⟩ := id C0
  have hown : s.vm.findClass RX6 = some m.cls := hown
  obtain ⟨hK, hNW, -, tw, hZ, hT⟩ := id hE
  have hl : lv_has ls 2 [(0, .ref (w 0)), (1, .int x1)] := hl
  have hS : va_S no s.heap s.heap [] := va_S.rf
  have hI_X6 := (show ∀ w ∈ wsX60, w ∈ wsX6_many by decide +kernel)
  have gf7 := hts (.fieldLink RX6 7 "RowRanksModel" "w" "[J") (by decide +kernel)
  unfold f_X6_many at hf
  have go : ∀ (H : Heap) (locs : List Loc), va_P D vwCl [oX6 w w_undos w_seed w_entries, aJ cJ (w 1) 3420 w_w] H → va_S no s.heap H locs → W p l e { frames := 0, cells := 0, slots := 0, locals := 0 } s m args below meth c H locs 0 0 (MQ below (QrI zr) args s 0 0 no) (F0 m 0 ls []) := by
    intro H locs hP hS
    refine lv_aload_n hx hb dX6_many_0 rfl (lv_at hl 0 rfl) ?_
    refine va_get (D := D) (ci := 6) (v := .ref (w 1)) (C := RX6) (T := TX6) (N := 12) hx hb hts hI_X6 hown hK hP 0 rfl rfl 0 (by decide) gf7 (fun _ h9 => h9) rfl dX6_many_1 ?_
    refine lv_bipush (v := 6) hx hb dX6_many_4 (by decide) ?_
    refine lv_iload_n hx hb dX6_many_6 rfl (lv_at hl 1 rfl) ?_
    refine lv_iadd hx hb dX6_many_7 ?_
    obtain ⟨h1, hf⟩ := ogd hf
    refine va_lald hx hb hK hP 1 1 rfl rfl (ib_in h1) dX6_many_8 ?_
    refine lv_l2i (v := (Int64.toInt32 (w_w ((6 : Int32) + x1).toNatClampNeg))) hx hb dX6_many_9 rfl ?_
    have er := Option.some.inj hf
    exact rtI hx hb hr hS dX6_many_10 er hlocks
  exact go s.heap [] hP hS
noncomputable def f_X6_isRow (w_w : Nat → Int64) (x1 : Int32) : Option (Int32) := (f_X6_kind w_w x1).bind (fun z1 => if 11 < z1 then (some (0)) else (some (1)))
set_option maxHeartbeats 4000000 in
set_option maxRecDepth 100000 in
theorem c_X6_isRow (l : Launch) (D : va_G) (cI cJ cZ cQ : ClassId) (bs sz : Nat) (w : Nat → Nat) (w_undos : Int32) (w_seed : Int32) (w_entries : Int32) (w_w : Nat → Int64) (x1 : Int32) (zr : Int32) (hf : f_X6_isRow w_w x1 = some zr) : Met l yX6_isRow wsX6_isRow { frames := 1, cells := 0, slots := 0, locals := 21 } (va_Pc [.ref (w 0), .int x1] (Pr D cI cJ cZ cQ bs sz [oX6 w w_undos w_seed w_entries, aJ cJ (w 1) 3420 w_w])) (QrZ zr) 0 0 no := by
  refine stM (cc := cX6_isRow) (maxL := 2) (ret := (some .boolean)) (by decide +kernel) rfl (Nat.le_of_ble_eq_true rfl) ?_
  intro p e s m args below meth c C0 hr hlocks hname hsz hP hDb hE ls hl
  have hAb : ∀ q, no q → bs ≤ q := fun _ h => h.elim
  obtain ⟨hx, hb, hml, hown, hts⟩ := id C0
  have hown : s.vm.findClass RX6 = some m.cls := hown
  obtain ⟨hK, hNW, -, tw, hZ, hT⟩ := id hE
  have hl : lv_has ls 2 [(0, .ref (w 0)), (1, .int x1)] := hl
  have hS : va_S no s.heap s.heap [] := va_S.rf
  unfold f_X6_isRow at hf
  have go : ∀ (H : Heap) (locs : List Loc), va_P D vwCl [oX6 w w_undos w_seed w_entries, aJ cJ (w 1) 3420 w_w] H → va_S no s.heap H locs → W p l e { frames := 1, cells := 0, slots := 0, locals := 21 } s m args below meth c H locs 0 0 (MQ below (QrZ zr) args s 0 0 no) (F0 m 0 ls []) := by
    intro H locs hP hS
    refine lv_aload_n hx hb dX6_isRow_0 rfl (lv_at hl 0 rfl) ?_
    refine lv_iload_n hx hb dX6_isRow_1 rfl (lv_at hl 1 rfl) ?_
    obtain ⟨z1, hz1, hf⟩ := obd hf
    refine kI (runV (As := [.int x1]) (rest := []) C0 hE hAb hP (hDb.addr rfl) hS [0, 1] (wc := [oX6 w w_undos w_seed w_entries, aJ cJ (w 1) 3420 w_w]) (by decide) rfl 0 rfl rfl (c_X6_kind l D cI cJ cZ cQ bs H.size w w_undos w_seed w_entries w_w x1 z1 hz1) (cwV 1 hts gX6_isRow_X6_kind rfl rfl rfl (by decide +kernel) ⟨Nat.le_of_ble_eq_true rfl, Nat.le_of_ble_eq_true rfl⟩) rfl hl.1 rfl (Nat.le_of_ble_eq_true rfl) dX6_isRow_2 ⟨Nat.le_of_ble_eq_true rfl, Nat.le_of_ble_eq_true rfl⟩) hS hP (fun H locs hP hS => ?_)
    refine lv_bipush (v := 11) hx hb dX6_isRow_5 (by decide) ?_
    refine lv_icmp_gt (tgt := 14) hx hb dX6_isRow_7 (by decide) (fun c2 => ?_) (fun c2 => ?_)
    · replace hf := oif c2 hf
      refine lv_iconst (v := 0) hx hb dX6_isRow_14 (by decide) ?_
      have er := Option.some.inj hf
      exact rtZ hx hb hr hS dX6_isRow_15 er (by decide) hlocks
    · replace hf := oel c2 hf
      refine lv_iconst (v := 1) hx hb dX6_isRow_10 (by decide) ?_
      refine lv_goto (tgt := 15) hx hb dX6_isRow_11 (by decide) ?_
      have er := Option.some.inj hf
      exact rtZ hx hb hr hS dX6_isRow_15 er (by decide) hlocks
  exact go s.heap [] hP hS
noncomputable def f_X6_at (x0 : Int32) (x1 : Int32) : Option (Int32) := some ((((12 : Int32) * x0) + x1))
set_option maxHeartbeats 4000000 in
set_option maxRecDepth 100000 in
theorem c_X6_at (l : Launch) (D : va_G) (cI cJ cZ cQ : ClassId) (bs sz : Nat) (x0 : Int32) (x1 : Int32) (zr : Int32) (hf : f_X6_at x0 x1 = some zr) : Met l yX6_at wsX6_at { frames := 0, cells := 0, slots := 0, locals := 0 } (va_Pc [.int x0, .int x1] (Pr D cI cJ cZ cQ bs sz [])) (QrI zr) 0 0 no := by
  refine stM (cc := cX6_at) (maxL := 2) (ret := (some .int)) (by decide +kernel) rfl (Nat.le_of_ble_eq_true rfl) ?_
  intro p e s m args below meth c C0 hr hlocks hname hsz hP hDb hE ls hl
  have hAb : ∀ q, no q → bs ≤ q := fun _ h => h.elim
  obtain ⟨hx, hb, hml, hown, hts⟩ := id C0
  have hown : s.vm.findClass RX6 = some m.cls := hown
  obtain ⟨hK, hNW, -, tw, hZ, hT⟩ := id hE
  have hl : lv_has ls 2 [(0, .int x0), (1, .int x1)] := hl
  have hS : va_S no s.heap s.heap [] := va_S.rf
  unfold f_X6_at at hf
  have go : ∀ (H : Heap) (locs : List Loc), va_P D vwCl [] H → va_S no s.heap H locs → W p l e { frames := 0, cells := 0, slots := 0, locals := 0 } s m args below meth c H locs 0 0 (MQ below (QrI zr) args s 0 0 no) (F0 m 0 ls []) := by
    intro H locs hP hS
    refine lv_bipush (v := 12) hx hb dX6_at_0 (by decide) ?_
    refine lv_iload_n hx hb dX6_at_2 rfl (lv_at hl 0 rfl) ?_
    refine lv_imul hx hb dX6_at_3 ?_
    refine lv_iload_n hx hb dX6_at_4 rfl (lv_at hl 1 rfl) ?_
    refine lv_iadd hx hb dX6_at_5 ?_
    have er := Option.some.inj hf
    exact rtI hx hb hr hS dX6_at_6 er hlocks
  exact go s.heap [] hP hS
noncomputable def f_X6_sortAt (w_w : Nat → Int64) (x1 : Int32) (x2 : Int32) : Option (Int32) := (f_X6_at x1 x2).bind (fun z1 => if ib ((12 : Int32) + z1) 3420 = true then (some ((Int64.toInt32 (w_w ((12 : Int32) + z1).toNatClampNeg)))) else none)
set_option maxHeartbeats 4000000 in
set_option maxRecDepth 100000 in
theorem c_X6_sortAt (l : Launch) (D : va_G) (cI cJ cZ cQ : ClassId) (bs sz : Nat) (w : Nat → Nat) (w_undos : Int32) (w_seed : Int32) (w_entries : Int32) (w_w : Nat → Int64) (x1 : Int32) (x2 : Int32) (zr : Int32) (hf : f_X6_sortAt w_w x1 x2 = some zr) : Met l yX6_sortAt wsX6_sortAt { frames := 1, cells := 0, slots := 0, locals := 21 } (va_Pc [.ref (w 0), .int x1, .int x2] (Pr D cI cJ cZ cQ bs sz [oX6 w w_undos w_seed w_entries, aJ cJ (w 1) 3420 w_w])) (QrI zr) 0 0 no := by
  refine stM (cc := cX6_sortAt) (maxL := 3) (ret := (some .int)) (by decide +kernel) rfl (Nat.le_of_ble_eq_true rfl) ?_
  intro p e s m args below meth c C0 hr hlocks hname hsz hP hDb hE ls hl
  have hAb : ∀ q, no q → bs ≤ q := fun _ h => h.elim
  obtain ⟨hx, hb, hml, hown, hts⟩ := id C0
  have hown : s.vm.findClass RX6 = some m.cls := hown
  obtain ⟨hK, hNW, -, tw, hZ, hT⟩ := id hE
  have hl : lv_has ls 3 [(0, .ref (w 0)), (1, .int x1), (2, .int x2)] := hl
  have hS : va_S no s.heap s.heap [] := va_S.rf
  have hI_X6 := (show ∀ w ∈ wsX60, w ∈ wsX6_sortAt by decide +kernel)
  have gf7 := hts (.fieldLink RX6 7 "RowRanksModel" "w" "[J") (by decide +kernel)
  unfold f_X6_sortAt at hf
  have go : ∀ (H : Heap) (locs : List Loc), va_P D vwCl [oX6 w w_undos w_seed w_entries, aJ cJ (w 1) 3420 w_w] H → va_S no s.heap H locs → W p l e { frames := 1, cells := 0, slots := 0, locals := 21 } s m args below meth c H locs 0 0 (MQ below (QrI zr) args s 0 0 no) (F0 m 0 ls []) := by
    intro H locs hP hS
    refine lv_aload_n hx hb dX6_sortAt_0 rfl (lv_at hl 0 rfl) ?_
    refine va_get (D := D) (ci := 6) (v := .ref (w 1)) (C := RX6) (T := TX6) (N := 12) hx hb hts hI_X6 hown hK hP 0 rfl rfl 0 (by decide) gf7 (fun _ h9 => h9) rfl dX6_sortAt_1 ?_
    refine lv_bipush (v := 12) hx hb dX6_sortAt_4 (by decide) ?_
    refine lv_iload_n hx hb dX6_sortAt_6 rfl (lv_at hl 1 rfl) ?_
    refine lv_iload_n hx hb dX6_sortAt_7 rfl (lv_at hl 2 rfl) ?_
    obtain ⟨z1, hz1, hf⟩ := obd hf
    refine kI (runS (As := [.int x1, .int x2]) (rest := [.int 12, .ref (w 1)]) C0 hE hAb hP (hDb.addr rfl) hS [] (wc := []) (by decide) rfl (c_X6_at l D cI cJ cZ cQ bs H.size x1 x2 z1 hz1) (va_cwS 2 hts gX6_sortAt_X6_at rfl rfl rfl (by decide +kernel) ⟨Nat.le_of_ble_eq_true rfl, Nat.le_of_ble_eq_true rfl⟩) rfl hl.1 rfl (Nat.le_of_ble_eq_true rfl) dX6_sortAt_8 ⟨Nat.le_of_ble_eq_true rfl, Nat.le_of_ble_eq_true rfl⟩) hS hP (fun H locs hP hS => ?_)
    refine lv_iadd hx hb dX6_sortAt_11 ?_
    obtain ⟨h2, hf⟩ := ogd hf
    refine va_lald hx hb hK hP 1 1 rfl rfl (ib_in h2) dX6_sortAt_12 ?_
    refine lv_l2i (v := (Int64.toInt32 (w_w ((12 : Int32) + z1).toNatClampNeg))) hx hb dX6_sortAt_13 rfl ?_
    have er := Option.some.inj hf
    exact rtI hx hb hr hS dX6_sortAt_14 er hlocks
  exact go s.heap [] hP hS
noncomputable def f_X6_lacks (w_w : Nat → Int64) (x1 : Int32) (x2 : Int64) : Option (Int32) := (f_X6_kind w_w x1).bind (fun z1 => if z1 = 14 then (some (1)) else ((f_X6_isRow w_w x1).bind (fun z3 => if z3 = 0 then (some (2)) else ((f_X6_many w_w x1).bind (fun z5 => (f_X6_in x2 0 (Int32.toInt64 (z5 - (1 : Int32)))).bind (fun z6 => if z6 = 0 then (some (3)) else (some (0))))))))
set_option maxHeartbeats 4000000 in
set_option maxRecDepth 100000 in
theorem c_X6_lacks (l : Launch) (D : va_G) (cI cJ cZ cQ : ClassId) (bs sz : Nat) (w : Nat → Nat) (w_undos : Int32) (w_seed : Int32) (w_entries : Int32) (w_w : Nat → Int64) (x1 : Int32) (x2 : Int64) (zr : Int32) (hf : f_X6_lacks w_w x1 x2 = some zr) : Met l yX6_lacks wsX6_lacks { frames := 2, cells := 0, slots := 0, locals := 42 } (va_Pc [.ref (w 0), .int x1, .long x2] (Pr D cI cJ cZ cQ bs sz [oX6 w w_undos w_seed w_entries, aJ cJ (w 1) 3420 w_w])) (QrI zr) 0 0 no := by
  refine stM (cc := cX6_lacks) (maxL := 4) (ret := (some .int)) (by decide +kernel) rfl (Nat.le_of_ble_eq_true rfl) ?_
  intro p e s m args below meth c C0 hr hlocks hname hsz hP hDb hE ls hl
  have hAb : ∀ q, no q → bs ≤ q := fun _ h => h.elim
  obtain ⟨hx, hb, hml, hown, hts⟩ := id C0
  have hown : s.vm.findClass RX6 = some m.cls := hown
  obtain ⟨hK, hNW, -, tw, hZ, hT⟩ := id hE
  have hl : lv_has ls 4 [(0, .ref (w 0)), (1, .int x1), (2, .long x2)] := hl
  have hS : va_S no s.heap s.heap [] := va_S.rf
  unfold f_X6_lacks at hf
  have go : ∀ (H : Heap) (locs : List Loc), va_P D vwCl [oX6 w w_undos w_seed w_entries, aJ cJ (w 1) 3420 w_w] H → va_S no s.heap H locs → W p l e { frames := 2, cells := 0, slots := 0, locals := 42 } s m args below meth c H locs 0 0 (MQ below (QrI zr) args s 0 0 no) (F0 m 0 ls []) := by
    intro H locs hP hS
    refine lv_aload_n hx hb dX6_lacks_0 rfl (lv_at hl 0 rfl) ?_
    refine lv_iload_n hx hb dX6_lacks_1 rfl (lv_at hl 1 rfl) ?_
    obtain ⟨z1, hz1, hf⟩ := obd hf
    refine kI (runV (As := [.int x1]) (rest := []) C0 hE hAb hP (hDb.addr rfl) hS [0, 1] (wc := [oX6 w w_undos w_seed w_entries, aJ cJ (w 1) 3420 w_w]) (by decide) rfl 0 rfl rfl (c_X6_kind l D cI cJ cZ cQ bs H.size w w_undos w_seed w_entries w_w x1 z1 hz1) (cwV 1 hts gX6_lacks_X6_kind rfl rfl rfl (by decide +kernel) ⟨Nat.le_of_ble_eq_true rfl, Nat.le_of_ble_eq_true rfl⟩) rfl hl.1 rfl (Nat.le_of_ble_eq_true rfl) dX6_lacks_2 ⟨Nat.le_of_ble_eq_true rfl, Nat.le_of_ble_eq_true rfl⟩) hS hP (fun H locs hP hS => ?_)
    refine lv_bipush (v := 14) hx hb dX6_lacks_5 (by decide) ?_
    refine lv_icmp_ne (tgt := 14) hx hb dX6_lacks_7 (by decide) (fun c2 => ?_) (fun c2 => ?_)
    · replace hf := oel c2 hf
      refine lv_aload_n hx hb dX6_lacks_14 rfl (lv_at hl 0 rfl) ?_
      refine lv_iload_n hx hb dX6_lacks_15 rfl (lv_at hl 1 rfl) ?_
      obtain ⟨z3, hz3, hf⟩ := obd hf
      refine kZ (runV (As := [.int x1]) (rest := []) C0 hE hAb hP (hDb.addr rfl) hS [0, 1] (wc := [oX6 w w_undos w_seed w_entries, aJ cJ (w 1) 3420 w_w]) (by decide) rfl 0 rfl rfl (c_X6_isRow l D cI cJ cZ cQ bs H.size w w_undos w_seed w_entries w_w x1 z3 hz3) (cwV 1 hts gX6_lacks_X6_isRow rfl rfl rfl (by decide +kernel) ⟨Nat.le_of_ble_eq_true rfl, Nat.le_of_ble_eq_true rfl⟩) rfl hl.1 rfl (Nat.le_of_ble_eq_true rfl) dX6_lacks_16 ⟨Nat.le_of_ble_eq_true rfl, Nat.le_of_ble_eq_true rfl⟩) hS hP (fun bz3 H locs hP hS => ?_)
      refine lv_if_ne (tgt := 26) hx hb dX6_lacks_19 (by decide) (fun c4 => ?_) (fun c4 => ?_)
      · replace hf := oel c4 hf
        refine lv_lload_n hx hb dX6_lacks_26 rfl (lv_at hl 2 rfl) ?_
        refine lv_lconst (v := 0) hx hb dX6_lacks_27 (by decide) ?_
        refine lv_aload_n hx hb dX6_lacks_28 rfl (lv_at hl 0 rfl) ?_
        refine lv_iload_n hx hb dX6_lacks_29 rfl (lv_at hl 1 rfl) ?_
        obtain ⟨z5, hz5, hf⟩ := obd hf
        refine kI (runV (As := [.int x1]) (rest := [.long 0, .long x2]) C0 hE hAb hP (hDb.addr rfl) hS [0, 1] (wc := [oX6 w w_undos w_seed w_entries, aJ cJ (w 1) 3420 w_w]) (by decide) rfl 0 rfl rfl (c_X6_many l D cI cJ cZ cQ bs H.size w w_undos w_seed w_entries w_w x1 z5 hz5) (cwV 1 hts gX6_lacks_X6_many rfl rfl rfl (by decide +kernel) ⟨Nat.le_of_ble_eq_true rfl, Nat.le_of_ble_eq_true rfl⟩) rfl hl.1 rfl (Nat.le_of_ble_eq_true rfl) dX6_lacks_30 ⟨Nat.le_of_ble_eq_true rfl, Nat.le_of_ble_eq_true rfl⟩) hS hP (fun H locs hP hS => ?_)
        refine lv_iconst (v := 1) hx hb dX6_lacks_33 (by decide) ?_
        refine lv_isub hx hb dX6_lacks_34 ?_
        refine lv_i2l (v := (Int32.toInt64 (z5 - (1 : Int32)))) hx hb dX6_lacks_35 rfl ?_
        obtain ⟨z6, hz6, hf⟩ := obd hf
        refine kZ (runS (As := [.long x2, .long 0, .long (Int32.toInt64 (z5 - (1 : Int32)))]) (rest := []) C0 hE hAb hP (hDb.addr rfl) hS [] (wc := []) (by decide) rfl (c_X6_in l D cI cJ cZ cQ bs H.size x2 0 (Int32.toInt64 (z5 - (1 : Int32))) z6 hz6) (va_cwS 3 hts gX6_lacks_X6_in rfl rfl rfl (by decide +kernel) ⟨Nat.le_of_ble_eq_true rfl, Nat.le_of_ble_eq_true rfl⟩) rfl hl.1 rfl (Nat.le_of_ble_eq_true rfl) dX6_lacks_36 ⟨Nat.le_of_ble_eq_true rfl, Nat.le_of_ble_eq_true rfl⟩) hS hP (fun bz6 H locs hP hS => ?_)
        refine lv_if_ne (tgt := 46) hx hb dX6_lacks_39 (by decide) (fun c7 => ?_) (fun c7 => ?_)
        · replace hf := oel c7 hf
          refine lv_iconst (v := 0) hx hb dX6_lacks_46 (by decide) ?_
          have er := Option.some.inj hf
          exact rtI hx hb hr hS dX6_lacks_47 er hlocks
        · replace hf := oif c7 hf
          refine lv_iconst (v := 3) hx hb dX6_lacks_42 (by decide) ?_
          refine lv_goto (tgt := 47) hx hb dX6_lacks_43 (by decide) ?_
          have er := Option.some.inj hf
          exact rtI hx hb hr hS dX6_lacks_47 er hlocks
      · replace hf := oif c4 hf
        refine lv_iconst (v := 2) hx hb dX6_lacks_22 (by decide) ?_
        refine lv_goto (tgt := 47) hx hb dX6_lacks_23 (by decide) ?_
        have er := Option.some.inj hf
        exact rtI hx hb hr hS dX6_lacks_47 er hlocks
    · replace hf := oif c2 hf
      refine lv_iconst (v := 1) hx hb dX6_lacks_10 (by decide) ?_
      refine lv_goto (tgt := 47) hx hb dX6_lacks_11 (by decide) ?_
      have er := Option.some.inj hf
      exact rtI hx hb hr hS dX6_lacks_47 er hlocks
  exact go s.heap [] hP hS
noncomputable def f_X6_reads (w_w : Nat → Int64) (x1 : Int32) (x2 : Int32) : Option (Int32) := if x2 = 8 then (some (1)) else ((f_X6_kind w_w x1).bind (fun z2 => if 7 < z2 then (some (0)) else ((f_X6_kind w_w x1).bind (fun z4 => (f_X6_goes z4 x2).bind (fun z5 => if z5 = 0 then (some (0)) else (some (1)))))))
set_option maxHeartbeats 4000000 in
set_option maxRecDepth 100000 in
theorem c_X6_reads (l : Launch) (D : va_G) (cI cJ cZ cQ : ClassId) (bs sz : Nat) (w : Nat → Nat) (w_undos : Int32) (w_seed : Int32) (w_entries : Int32) (w_w : Nat → Int64) (x1 : Int32) (x2 : Int32) (zr : Int32) (hf : f_X6_reads w_w x1 x2 = some zr) : Met l yX6_reads wsX6_reads { frames := 1, cells := 0, slots := 0, locals := 21 } (va_Pc [.ref (w 0), .int x1, .int x2] (Pr D cI cJ cZ cQ bs sz [oX6 w w_undos w_seed w_entries, aJ cJ (w 1) 3420 w_w])) (QrZ zr) 0 0 no := by
  refine stM (cc := cX6_reads) (maxL := 3) (ret := (some .boolean)) (by decide +kernel) rfl (Nat.le_of_ble_eq_true rfl) ?_
  intro p e s m args below meth c C0 hr hlocks hname hsz hP hDb hE ls hl
  have hAb : ∀ q, no q → bs ≤ q := fun _ h => h.elim
  obtain ⟨hx, hb, hml, hown, hts⟩ := id C0
  have hown : s.vm.findClass RX6 = some m.cls := hown
  obtain ⟨hK, hNW, -, tw, hZ, hT⟩ := id hE
  have hl : lv_has ls 3 [(0, .ref (w 0)), (1, .int x1), (2, .int x2)] := hl
  have hS : va_S no s.heap s.heap [] := va_S.rf
  unfold f_X6_reads at hf
  have go : ∀ (H : Heap) (locs : List Loc), va_P D vwCl [oX6 w w_undos w_seed w_entries, aJ cJ (w 1) 3420 w_w] H → va_S no s.heap H locs → W p l e { frames := 1, cells := 0, slots := 0, locals := 21 } s m args below meth c H locs 0 0 (MQ below (QrZ zr) args s 0 0 no) (F0 m 0 ls []) := by
    intro H locs hP hS
    refine lv_iload_n hx hb dX6_reads_0 rfl (lv_at hl 2 rfl) ?_
    refine lv_bipush (v := 8) hx hb dX6_reads_1 (by decide) ?_
    refine lv_icmp_eq (tgt := 28) hx hb dX6_reads_3 (by decide) (fun c1 => ?_) (fun c1 => ?_)
    · replace hf := oif c1 hf
      refine lv_iconst (v := 1) hx hb dX6_reads_28 (by decide) ?_
      refine lv_goto (tgt := 33) hx hb dX6_reads_29 (by decide) ?_
      have er := Option.some.inj hf
      exact rtZ hx hb hr hS dX6_reads_33 er (by decide) hlocks
    · replace hf := oel c1 hf
      refine lv_aload_n hx hb dX6_reads_6 rfl (lv_at hl 0 rfl) ?_
      refine lv_iload_n hx hb dX6_reads_7 rfl (lv_at hl 1 rfl) ?_
      obtain ⟨z2, hz2, hf⟩ := obd hf
      refine kI (runV (As := [.int x1]) (rest := []) C0 hE hAb hP (hDb.addr rfl) hS [0, 1] (wc := [oX6 w w_undos w_seed w_entries, aJ cJ (w 1) 3420 w_w]) (by decide) rfl 0 rfl rfl (c_X6_kind l D cI cJ cZ cQ bs H.size w w_undos w_seed w_entries w_w x1 z2 hz2) (cwV 1 hts gX6_reads_X6_kind rfl rfl rfl (by decide +kernel) ⟨Nat.le_of_ble_eq_true rfl, Nat.le_of_ble_eq_true rfl⟩) rfl hl.1 rfl (Nat.le_of_ble_eq_true rfl) dX6_reads_8 ⟨Nat.le_of_ble_eq_true rfl, Nat.le_of_ble_eq_true rfl⟩) hS hP (fun H locs hP hS => ?_)
      refine lv_bipush (v := 7) hx hb dX6_reads_11 (by decide) ?_
      refine lv_icmp_gt (tgt := 32) hx hb dX6_reads_13 (by decide) (fun c3 => ?_) (fun c3 => ?_)
      · replace hf := oif c3 hf
        refine lv_iconst (v := 0) hx hb dX6_reads_32 (by decide) ?_
        have er := Option.some.inj hf
        exact rtZ hx hb hr hS dX6_reads_33 er (by decide) hlocks
      · replace hf := oel c3 hf
        refine lv_aload_n hx hb dX6_reads_16 rfl (lv_at hl 0 rfl) ?_
        refine lv_iload_n hx hb dX6_reads_17 rfl (lv_at hl 1 rfl) ?_
        obtain ⟨z4, hz4, hf⟩ := obd hf
        refine kI (runV (As := [.int x1]) (rest := []) C0 hE hAb hP (hDb.addr rfl) hS [0, 1] (wc := [oX6 w w_undos w_seed w_entries, aJ cJ (w 1) 3420 w_w]) (by decide) rfl 0 rfl rfl (c_X6_kind l D cI cJ cZ cQ bs H.size w w_undos w_seed w_entries w_w x1 z4 hz4) (cwV 1 hts gX6_reads_X6_kind rfl rfl rfl (by decide +kernel) ⟨Nat.le_of_ble_eq_true rfl, Nat.le_of_ble_eq_true rfl⟩) rfl hl.1 rfl (Nat.le_of_ble_eq_true rfl) dX6_reads_18 ⟨Nat.le_of_ble_eq_true rfl, Nat.le_of_ble_eq_true rfl⟩) hS hP (fun H locs hP hS => ?_)
        refine lv_iload_n hx hb dX6_reads_21 rfl (lv_at hl 2 rfl) ?_
        obtain ⟨z5, hz5, hf⟩ := obd hf
        refine kZ (runS (As := [.int z4, .int x2]) (rest := []) C0 hE hAb hP (hDb.addr rfl) hS [] (wc := []) (by decide) rfl (c_X6_goes l D cI cJ cZ cQ bs H.size z4 x2 z5 hz5) (va_cwS 2 hts gX6_reads_X6_goes rfl rfl rfl (by decide +kernel) ⟨Nat.le_of_ble_eq_true rfl, Nat.le_of_ble_eq_true rfl⟩) rfl hl.1 rfl (Nat.le_of_ble_eq_true rfl) dX6_reads_22 ⟨Nat.le_of_ble_eq_true rfl, Nat.le_of_ble_eq_true rfl⟩) hS hP (fun bz5 H locs hP hS => ?_)
        refine lv_if_eq (tgt := 32) hx hb dX6_reads_25 (by decide) (fun c6 => ?_) (fun c6 => ?_)
        · replace hf := oif c6 hf
          refine lv_iconst (v := 0) hx hb dX6_reads_32 (by decide) ?_
          have er := Option.some.inj hf
          exact rtZ hx hb hr hS dX6_reads_33 er (by decide) hlocks
        · replace hf := oel c6 hf
          refine lv_iconst (v := 1) hx hb dX6_reads_28 (by decide) ?_
          refine lv_goto (tgt := 33) hx hb dX6_reads_29 (by decide) ?_
          have er := Option.some.inj hf
          exact rtZ hx hb hr hS dX6_reads_33 er (by decide) hlocks
  exact go s.heap [] hP hS
noncomputable def f_X6_sortRead (w_w : Nat → Int64) (x1 : Int32) (x2 : Int32) (x3 : Int32) : Option (Int32) := if x3 = 8 then ((f_X6_sortAt w_w x1 x2).bind (fun z2 => some (z2))) else (some (x3))
set_option maxHeartbeats 4000000 in
set_option maxRecDepth 100000 in
theorem c_X6_sortRead (l : Launch) (D : va_G) (cI cJ cZ cQ : ClassId) (bs sz : Nat) (w : Nat → Nat) (w_undos : Int32) (w_seed : Int32) (w_entries : Int32) (w_w : Nat → Int64) (x1 : Int32) (x2 : Int32) (x3 : Int32) (zr : Int32) (hf : f_X6_sortRead w_w x1 x2 x3 = some zr) : Met l yX6_sortRead wsX6_sortRead { frames := 2, cells := 0, slots := 0, locals := 43 } (va_Pc [.ref (w 0), .int x1, .int x2, .int x3] (Pr D cI cJ cZ cQ bs sz [oX6 w w_undos w_seed w_entries, aJ cJ (w 1) 3420 w_w])) (QrI zr) 0 0 no := by
  refine stM (cc := cX6_sortRead) (maxL := 4) (ret := (some .int)) (by decide +kernel) rfl (Nat.le_of_ble_eq_true rfl) ?_
  intro p e s m args below meth c C0 hr hlocks hname hsz hP hDb hE ls hl
  have hAb : ∀ q, no q → bs ≤ q := fun _ h => h.elim
  obtain ⟨hx, hb, hml, hown, hts⟩ := id C0
  have hown : s.vm.findClass RX6 = some m.cls := hown
  obtain ⟨hK, hNW, -, tw, hZ, hT⟩ := id hE
  have hl : lv_has ls 4 [(0, .ref (w 0)), (1, .int x1), (2, .int x2), (3, .int x3)] := hl
  have hS : va_S no s.heap s.heap [] := va_S.rf
  unfold f_X6_sortRead at hf
  have go : ∀ (H : Heap) (locs : List Loc), va_P D vwCl [oX6 w w_undos w_seed w_entries, aJ cJ (w 1) 3420 w_w] H → va_S no s.heap H locs → W p l e { frames := 2, cells := 0, slots := 0, locals := 43 } s m args below meth c H locs 0 0 (MQ below (QrI zr) args s 0 0 no) (F0 m 0 ls []) := by
    intro H locs hP hS
    refine lv_iload_n hx hb dX6_sortRead_0 rfl (lv_at hl 3 rfl) ?_
    refine lv_bipush (v := 8) hx hb dX6_sortRead_1 (by decide) ?_
    refine lv_icmp_ne (tgt := 15) hx hb dX6_sortRead_3 (by decide) (fun c1 => ?_) (fun c1 => ?_)
    · replace hf := oel c1 hf
      refine lv_iload_n hx hb dX6_sortRead_15 rfl (lv_at hl 3 rfl) ?_
      have er := Option.some.inj hf
      exact rtI hx hb hr hS dX6_sortRead_16 er hlocks
    · replace hf := oif c1 hf
      refine lv_aload_n hx hb dX6_sortRead_6 rfl (lv_at hl 0 rfl) ?_
      refine lv_iload_n hx hb dX6_sortRead_7 rfl (lv_at hl 1 rfl) ?_
      refine lv_iload_n hx hb dX6_sortRead_8 rfl (lv_at hl 2 rfl) ?_
      obtain ⟨z2, hz2, hf⟩ := obd hf
      refine kI (runV (As := [.int x1, .int x2]) (rest := []) C0 hE hAb hP (hDb.addr rfl) hS [0, 1] (wc := [oX6 w w_undos w_seed w_entries, aJ cJ (w 1) 3420 w_w]) (by decide) rfl 0 rfl rfl (c_X6_sortAt l D cI cJ cZ cQ bs H.size w w_undos w_seed w_entries w_w x1 x2 z2 hz2) (cwV 2 hts gX6_sortRead_X6_sortAt rfl rfl rfl (by decide +kernel) ⟨Nat.le_of_ble_eq_true rfl, Nat.le_of_ble_eq_true rfl⟩) rfl hl.1 rfl (Nat.le_of_ble_eq_true rfl) dX6_sortRead_9 ⟨Nat.le_of_ble_eq_true rfl, Nat.le_of_ble_eq_true rfl⟩) hS hP (fun H locs hP hS => ?_)
      refine lv_goto (tgt := 16) hx hb dX6_sortRead_12 (by decide) ?_
      have er := Option.some.inj hf
      exact rtI hx hb hr hS dX6_sortRead_16 er hlocks
  exact go s.heap [] hP hS
noncomputable def f_X6_numberRead (w_w : Nat → Int64) (x1 : Int32) (x2 : Int32) (x3 : Int32) : Option (Int64) := (f_X6_at x1 x2).bind (fun z1 => if ib ((84 : Int32) + z1) 3420 = true then ((some ((w_w ((84 : Int32) + z1).toNatClampNeg) : Int64)).bind (fun y3 => if x3 = 8 then (some (y3)) else ((f_X6_gone y3 x3).bind (fun z5 => some (z5))))) else none)
set_option maxHeartbeats 4000000 in
set_option maxRecDepth 100000 in
theorem c_X6_numberRead (l : Launch) (D : va_G) (cI cJ cZ cQ : ClassId) (bs sz : Nat) (w : Nat → Nat) (w_undos : Int32) (w_seed : Int32) (w_entries : Int32) (w_w : Nat → Int64) (x1 : Int32) (x2 : Int32) (x3 : Int32) (zr : Int64) (hf : f_X6_numberRead w_w x1 x2 x3 = some zr) : Met l yX6_numberRead wsX6_numberRead { frames := 2, cells := 0, slots := 0, locals := 56 } (va_Pc [.ref (w 0), .int x1, .int x2, .int x3] (Pr D cI cJ cZ cQ bs sz [oX6 w w_undos w_seed w_entries, aJ cJ (w 1) 3420 w_w])) (QrJ zr) 0 0 no := by
  refine stM (cc := cX6_numberRead) (maxL := 6) (ret := (some .long)) (by decide +kernel) rfl (Nat.le_of_ble_eq_true rfl) ?_
  intro p e s m args below meth c C0 hr hlocks hname hsz hP hDb hE ls hl
  have hAb : ∀ q, no q → bs ≤ q := fun _ h => h.elim
  obtain ⟨hx, hb, hml, hown, hts⟩ := id C0
  have hown : s.vm.findClass RX6 = some m.cls := hown
  obtain ⟨hK, hNW, -, tw, hZ, hT⟩ := id hE
  have hl : lv_has ls 6 [(0, .ref (w 0)), (1, .int x1), (2, .int x2), (3, .int x3)] := hl
  have hS : va_S no s.heap s.heap [] := va_S.rf
  have hI_X6 := (show ∀ w ∈ wsX60, w ∈ wsX6_numberRead by decide +kernel)
  have gf7 := hts (.fieldLink RX6 7 "RowRanksModel" "w" "[J") (by decide +kernel)
  unfold f_X6_numberRead at hf
  have go : ∀ (H : Heap) (locs : List Loc), va_P D vwCl [oX6 w w_undos w_seed w_entries, aJ cJ (w 1) 3420 w_w] H → va_S no s.heap H locs → W p l e { frames := 2, cells := 0, slots := 0, locals := 56 } s m args below meth c H locs 0 0 (MQ below (QrJ zr) args s 0 0 no) (F0 m 0 ls []) := by
    intro H locs hP hS
    refine lv_aload_n hx hb dX6_numberRead_0 rfl (lv_at hl 0 rfl) ?_
    refine va_get (D := D) (ci := 6) (v := .ref (w 1)) (C := RX6) (T := TX6) (N := 12) hx hb hts hI_X6 hown hK hP 0 rfl rfl 0 (by decide) gf7 (fun _ h9 => h9) rfl dX6_numberRead_1 ?_
    refine lv_bipush (v := 84) hx hb dX6_numberRead_4 (by decide) ?_
    refine lv_iload_n hx hb dX6_numberRead_6 rfl (lv_at hl 1 rfl) ?_
    refine lv_iload_n hx hb dX6_numberRead_7 rfl (lv_at hl 2 rfl) ?_
    obtain ⟨z1, hz1, hf⟩ := obd hf
    refine kI (runS (As := [.int x1, .int x2]) (rest := [.int 84, .ref (w 1)]) C0 hE hAb hP (hDb.addr rfl) hS [] (wc := []) (by decide) rfl (c_X6_at l D cI cJ cZ cQ bs H.size x1 x2 z1 hz1) (va_cwS 2 hts gX6_numberRead_X6_at rfl rfl rfl (by decide +kernel) ⟨Nat.le_of_ble_eq_true rfl, Nat.le_of_ble_eq_true rfl⟩) rfl hl.1 rfl (Nat.le_of_ble_eq_true rfl) dX6_numberRead_8 ⟨Nat.le_of_ble_eq_true rfl, Nat.le_of_ble_eq_true rfl⟩) hS hP (fun H locs hP hS => ?_)
    refine lv_iadd hx hb dX6_numberRead_11 ?_
    obtain ⟨h2, hf⟩ := ogd hf
    refine va_lald hx hb hK hP 1 1 rfl rfl (ib_in h2) dX6_numberRead_12 ?_
    refine lv_topl (fun y3 ey3 => ?_)
    replace hf := onm ey3 hf
    refine lv_lstore (lv' := [(4, .long y3), (0, .ref (w 0)), (1, .int x1), (2, .int x2), (3, .int x3)]) hx hb dX6_numberRead_13 hl (by decide) rfl (fun ls hl => ?_)
    refine lv_iload_n hx hb dX6_numberRead_15 rfl (lv_at hl 4 rfl) ?_
    refine lv_bipush (v := 8) hx hb dX6_numberRead_16 (by decide) ?_
    refine lv_icmp_ne (tgt := 26) hx hb dX6_numberRead_18 (by decide) (fun c4 => ?_) (fun c4 => ?_)
    · replace hf := oel c4 hf
      refine lv_lload hx hb dX6_numberRead_26 (lv_at hl 0 rfl) ?_
      refine lv_iload_n hx hb dX6_numberRead_28 rfl (lv_at hl 4 rfl) ?_
      obtain ⟨z5, hz5, hf⟩ := obd hf
      refine kJ (runS (As := [.long y3, .int x3]) (rest := []) C0 hE hAb hP (hDb.addr rfl) hS [] (wc := []) (by decide) rfl (c_X6_gone l D cI cJ cZ cQ bs H.size y3 x3 z5 hz5) (va_cwS 2 hts gX6_numberRead_X6_gone rfl rfl rfl (by decide +kernel) ⟨Nat.le_of_ble_eq_true rfl, Nat.le_of_ble_eq_true rfl⟩) rfl hl.1 rfl (Nat.le_of_ble_eq_true rfl) dX6_numberRead_29 ⟨Nat.le_of_ble_eq_true rfl, Nat.le_of_ble_eq_true rfl⟩) hS hP (fun H locs hP hS => ?_)
      have er := Option.some.inj hf
      exact rtJ hx hb hr hS dX6_numberRead_32 er hlocks
    · replace hf := oif c4 hf
      refine lv_lload hx hb dX6_numberRead_21 (lv_at hl 0 rfl) ?_
      refine lv_goto (tgt := 32) hx hb dX6_numberRead_23 (by decide) ?_
      have er := Option.some.inj hf
      exact rtJ hx hb hr hS dX6_numberRead_32 er hlocks
  exact go s.heap [] hP hS
noncomputable def f_X6_takes (w_w : Nat → Int64) (x1 : Int32) (x2 : Int32) (x3 : Int64) : Option (Int32) := (f_X6_kind w_w x1).bind (fun z1 => if 7 < z1 then (if z1 = 9 then (some (1)) else (if x2 = 9 then (some (1)) else (if z1 = 8 then (if x2 = 4 then (some (1)) else (if z1 = 10 then (if x2 = 8 then (some (1)) else (if z1 = 11 then (if x2 = 8 then (if (lg_cmp x3 4) < 0 then (some (0)) else (some (1))) else (some (0))) else (some (0)))) else (if z1 = 11 then (if x2 = 8 then (if (lg_cmp x3 4) < 0 then (some (0)) else (some (1))) else (some (0))) else (some (0))))) else (if z1 = 10 then (if x2 = 8 then (some (1)) else (if z1 = 11 then (if x2 = 8 then (if (lg_cmp x3 4) < 0 then (some (0)) else (some (1))) else (some (0))) else (some (0)))) else (if z1 = 11 then (if x2 = 8 then (if (lg_cmp x3 4) < 0 then (some (0)) else (some (1))) else (some (0))) else (some (0))))))) else (if 7 < x2 then (some (0)) else ((f_X6_goes x2 z1).bind (fun z24 => if z24 = 0 then (some (0)) else (some (1))))))
set_option maxHeartbeats 4000000 in
set_option maxRecDepth 100000 in
theorem c_X6_takes (l : Launch) (D : va_G) (cI cJ cZ cQ : ClassId) (bs sz : Nat) (w : Nat → Nat) (w_undos : Int32) (w_seed : Int32) (w_entries : Int32) (w_w : Nat → Int64) (x1 : Int32) (x2 : Int32) (x3 : Int64) (zr : Int32) (hf : f_X6_takes w_w x1 x2 x3 = some zr) : Met l yX6_takes wsX6_takes { frames := 1, cells := 0, slots := 0, locals := 21 } (va_Pc [.ref (w 0), .int x1, .int x2, .long x3] (Pr D cI cJ cZ cQ bs sz [oX6 w w_undos w_seed w_entries, aJ cJ (w 1) 3420 w_w])) (QrZ zr) 0 0 no := by
  refine stM (cc := cX6_takes) (maxL := 6) (ret := (some .boolean)) (by decide +kernel) rfl (Nat.le_of_ble_eq_true rfl) ?_
  intro p e s m args below meth c C0 hr hlocks hname hsz hP hDb hE ls hl
  have hAb : ∀ q, no q → bs ≤ q := fun _ h => h.elim
  obtain ⟨hx, hb, hml, hown, hts⟩ := id C0
  have hown : s.vm.findClass RX6 = some m.cls := hown
  obtain ⟨hK, hNW, -, tw, hZ, hT⟩ := id hE
  have hl : lv_has ls 6 [(0, .ref (w 0)), (1, .int x1), (2, .int x2), (3, .long x3)] := hl
  have hS : va_S no s.heap s.heap [] := va_S.rf
  have gk88 := hts (.constantLong RX6 88 (4)) (by decide +kernel)
  unfold f_X6_takes at hf
  have go : ∀ (H : Heap) (locs : List Loc), va_P D vwCl [oX6 w w_undos w_seed w_entries, aJ cJ (w 1) 3420 w_w] H → va_S no s.heap H locs → W p l e { frames := 1, cells := 0, slots := 0, locals := 21 } s m args below meth c H locs 0 0 (MQ below (QrZ zr) args s 0 0 no) (F0 m 0 ls []) := by
    intro H locs hP hS
    refine lv_aload_n hx hb dX6_takes_0 rfl (lv_at hl 0 rfl) ?_
    refine lv_iload_n hx hb dX6_takes_1 rfl (lv_at hl 1 rfl) ?_
    obtain ⟨z1, hz1, hf⟩ := obd hf
    refine kI (runV (As := [.int x1]) (rest := []) C0 hE hAb hP (hDb.addr rfl) hS [0, 1] (wc := [oX6 w w_undos w_seed w_entries, aJ cJ (w 1) 3420 w_w]) (by decide) rfl 0 rfl rfl (c_X6_kind l D cI cJ cZ cQ bs H.size w w_undos w_seed w_entries w_w x1 z1 hz1) (cwV 1 hts gX6_takes_X6_kind rfl rfl rfl (by decide +kernel) ⟨Nat.le_of_ble_eq_true rfl, Nat.le_of_ble_eq_true rfl⟩) rfl hl.1 rfl (Nat.le_of_ble_eq_true rfl) dX6_takes_2 ⟨Nat.le_of_ble_eq_true rfl, Nat.le_of_ble_eq_true rfl⟩) hS hP (fun H locs hP hS => ?_)
    refine lv_istore (lv' := [(5, .int z1), (0, .ref (w 0)), (1, .int x1), (2, .int x2), (3, .long x3)]) hx hb dX6_takes_5 hl (by decide) rfl (fun ls hl => ?_)
    refine lv_iload hx hb dX6_takes_7 (lv_at hl 0 rfl) ?_
    refine lv_bipush (v := 7) hx hb dX6_takes_9 (by decide) ?_
    refine lv_icmp_gt (tgt := 35) hx hb dX6_takes_11 (by decide) (fun c2 => ?_) (fun c2 => ?_)
    · replace hf := oif c2 hf
      refine lv_iload hx hb dX6_takes_35 (lv_at hl 0 rfl) ?_
      refine lv_bipush (v := 9) hx hb dX6_takes_37 (by decide) ?_
      refine lv_icmp_eq (tgt := 94) hx hb dX6_takes_39 (by decide) (fun c3 => ?_) (fun c3 => ?_)
      · replace hf := oif c3 hf
        refine lv_iconst (v := 1) hx hb dX6_takes_94 (by decide) ?_
        refine lv_goto (tgt := 99) hx hb dX6_takes_95 (by decide) ?_
        have er := Option.some.inj hf
        exact rtZ hx hb hr hS dX6_takes_99 er (by decide) hlocks
      · replace hf := oel c3 hf
        refine lv_iload_n hx hb dX6_takes_42 rfl (lv_at hl 3 rfl) ?_
        refine lv_bipush (v := 9) hx hb dX6_takes_43 (by decide) ?_
        refine lv_icmp_eq (tgt := 94) hx hb dX6_takes_45 (by decide) (fun c4 => ?_) (fun c4 => ?_)
        · replace hf := oif c4 hf
          refine lv_iconst (v := 1) hx hb dX6_takes_94 (by decide) ?_
          refine lv_goto (tgt := 99) hx hb dX6_takes_95 (by decide) ?_
          have er := Option.some.inj hf
          exact rtZ hx hb hr hS dX6_takes_99 er (by decide) hlocks
        · replace hf := oel c4 hf
          refine lv_iload hx hb dX6_takes_48 (lv_at hl 0 rfl) ?_
          refine lv_bipush (v := 8) hx hb dX6_takes_50 (by decide) ?_
          refine lv_icmp_ne (tgt := 60) hx hb dX6_takes_52 (by decide) (fun c5 => ?_) (fun c5 => ?_)
          · replace hf := oel c5 hf
            refine lv_iload hx hb dX6_takes_60 (lv_at hl 0 rfl) ?_
            refine lv_bipush (v := 10) hx hb dX6_takes_62 (by decide) ?_
            refine lv_icmp_ne (tgt := 73) hx hb dX6_takes_64 (by decide) (fun c6 => ?_) (fun c6 => ?_)
            · replace hf := oel c6 hf
              refine lv_iload hx hb dX6_takes_73 (lv_at hl 0 rfl) ?_
              refine lv_bipush (v := 11) hx hb dX6_takes_75 (by decide) ?_
              refine lv_icmp_ne (tgt := 98) hx hb dX6_takes_77 (by decide) (fun c7 => ?_) (fun c7 => ?_)
              · replace hf := oel c7 hf
                refine lv_iconst (v := 0) hx hb dX6_takes_98 (by decide) ?_
                have er := Option.some.inj hf
                exact rtZ hx hb hr hS dX6_takes_99 er (by decide) hlocks
              · replace hf := oif c7 hf
                refine lv_iload_n hx hb dX6_takes_80 rfl (lv_at hl 3 rfl) ?_
                refine lv_bipush (v := 8) hx hb dX6_takes_81 (by decide) ?_
                refine lv_icmp_ne (tgt := 98) hx hb dX6_takes_83 (by decide) (fun c8 => ?_) (fun c8 => ?_)
                · replace hf := oel c8 hf
                  refine lv_iconst (v := 0) hx hb dX6_takes_98 (by decide) ?_
                  have er := Option.some.inj hf
                  exact rtZ hx hb hr hS dX6_takes_99 er (by decide) hlocks
                · replace hf := oif c8 hf
                  refine lv_lload_n hx hb dX6_takes_86 rfl (lv_at hl 4 rfl) ?_
                  refine lv_ldc2 hx hb hown gk88 dX6_takes_87 ?_
                  refine W.lcmp hx hb dX6_takes_90 ?_
                  refine lv_if_lt (tgt := 98) hx hb dX6_takes_91 (by decide) (fun c9 => ?_) (fun c9 => ?_)
                  · replace hf := oif c9 hf
                    refine lv_iconst (v := 0) hx hb dX6_takes_98 (by decide) ?_
                    have er := Option.some.inj hf
                    exact rtZ hx hb hr hS dX6_takes_99 er (by decide) hlocks
                  · replace hf := oel c9 hf
                    refine lv_iconst (v := 1) hx hb dX6_takes_94 (by decide) ?_
                    refine lv_goto (tgt := 99) hx hb dX6_takes_95 (by decide) ?_
                    have er := Option.some.inj hf
                    exact rtZ hx hb hr hS dX6_takes_99 er (by decide) hlocks
            · replace hf := oif c6 hf
              refine lv_iload_n hx hb dX6_takes_67 rfl (lv_at hl 3 rfl) ?_
              refine lv_bipush (v := 8) hx hb dX6_takes_68 (by decide) ?_
              refine lv_icmp_eq (tgt := 94) hx hb dX6_takes_70 (by decide) (fun c10 => ?_) (fun c10 => ?_)
              · replace hf := oif c10 hf
                refine lv_iconst (v := 1) hx hb dX6_takes_94 (by decide) ?_
                refine lv_goto (tgt := 99) hx hb dX6_takes_95 (by decide) ?_
                have er := Option.some.inj hf
                exact rtZ hx hb hr hS dX6_takes_99 er (by decide) hlocks
              · replace hf := oel c10 hf
                refine lv_iload hx hb dX6_takes_73 (lv_at hl 0 rfl) ?_
                refine lv_bipush (v := 11) hx hb dX6_takes_75 (by decide) ?_
                refine lv_icmp_ne (tgt := 98) hx hb dX6_takes_77 (by decide) (fun c11 => ?_) (fun c11 => ?_)
                · replace hf := oel c11 hf
                  refine lv_iconst (v := 0) hx hb dX6_takes_98 (by decide) ?_
                  have er := Option.some.inj hf
                  exact rtZ hx hb hr hS dX6_takes_99 er (by decide) hlocks
                · replace hf := oif c11 hf
                  refine lv_iload_n hx hb dX6_takes_80 rfl (lv_at hl 3 rfl) ?_
                  refine lv_bipush (v := 8) hx hb dX6_takes_81 (by decide) ?_
                  refine lv_icmp_ne (tgt := 98) hx hb dX6_takes_83 (by decide) (fun c12 => ?_) (fun c12 => ?_)
                  · replace hf := oel c12 hf
                    refine lv_iconst (v := 0) hx hb dX6_takes_98 (by decide) ?_
                    have er := Option.some.inj hf
                    exact rtZ hx hb hr hS dX6_takes_99 er (by decide) hlocks
                  · replace hf := oif c12 hf
                    refine lv_lload_n hx hb dX6_takes_86 rfl (lv_at hl 4 rfl) ?_
                    refine lv_ldc2 hx hb hown gk88 dX6_takes_87 ?_
                    refine W.lcmp hx hb dX6_takes_90 ?_
                    refine lv_if_lt (tgt := 98) hx hb dX6_takes_91 (by decide) (fun c13 => ?_) (fun c13 => ?_)
                    · replace hf := oif c13 hf
                      refine lv_iconst (v := 0) hx hb dX6_takes_98 (by decide) ?_
                      have er := Option.some.inj hf
                      exact rtZ hx hb hr hS dX6_takes_99 er (by decide) hlocks
                    · replace hf := oel c13 hf
                      refine lv_iconst (v := 1) hx hb dX6_takes_94 (by decide) ?_
                      refine lv_goto (tgt := 99) hx hb dX6_takes_95 (by decide) ?_
                      have er := Option.some.inj hf
                      exact rtZ hx hb hr hS dX6_takes_99 er (by decide) hlocks
          · replace hf := oif c5 hf
            refine lv_iload_n hx hb dX6_takes_55 rfl (lv_at hl 3 rfl) ?_
            refine lv_iconst (v := 4) hx hb dX6_takes_56 (by decide) ?_
            refine lv_icmp_eq (tgt := 94) hx hb dX6_takes_57 (by decide) (fun c14 => ?_) (fun c14 => ?_)
            · replace hf := oif c14 hf
              refine lv_iconst (v := 1) hx hb dX6_takes_94 (by decide) ?_
              refine lv_goto (tgt := 99) hx hb dX6_takes_95 (by decide) ?_
              have er := Option.some.inj hf
              exact rtZ hx hb hr hS dX6_takes_99 er (by decide) hlocks
            · replace hf := oel c14 hf
              refine lv_iload hx hb dX6_takes_60 (lv_at hl 0 rfl) ?_
              refine lv_bipush (v := 10) hx hb dX6_takes_62 (by decide) ?_
              refine lv_icmp_ne (tgt := 73) hx hb dX6_takes_64 (by decide) (fun c15 => ?_) (fun c15 => ?_)
              · replace hf := oel c15 hf
                refine lv_iload hx hb dX6_takes_73 (lv_at hl 0 rfl) ?_
                refine lv_bipush (v := 11) hx hb dX6_takes_75 (by decide) ?_
                refine lv_icmp_ne (tgt := 98) hx hb dX6_takes_77 (by decide) (fun c16 => ?_) (fun c16 => ?_)
                · replace hf := oel c16 hf
                  refine lv_iconst (v := 0) hx hb dX6_takes_98 (by decide) ?_
                  have er := Option.some.inj hf
                  exact rtZ hx hb hr hS dX6_takes_99 er (by decide) hlocks
                · replace hf := oif c16 hf
                  refine lv_iload_n hx hb dX6_takes_80 rfl (lv_at hl 3 rfl) ?_
                  refine lv_bipush (v := 8) hx hb dX6_takes_81 (by decide) ?_
                  refine lv_icmp_ne (tgt := 98) hx hb dX6_takes_83 (by decide) (fun c17 => ?_) (fun c17 => ?_)
                  · replace hf := oel c17 hf
                    refine lv_iconst (v := 0) hx hb dX6_takes_98 (by decide) ?_
                    have er := Option.some.inj hf
                    exact rtZ hx hb hr hS dX6_takes_99 er (by decide) hlocks
                  · replace hf := oif c17 hf
                    refine lv_lload_n hx hb dX6_takes_86 rfl (lv_at hl 4 rfl) ?_
                    refine lv_ldc2 hx hb hown gk88 dX6_takes_87 ?_
                    refine W.lcmp hx hb dX6_takes_90 ?_
                    refine lv_if_lt (tgt := 98) hx hb dX6_takes_91 (by decide) (fun c18 => ?_) (fun c18 => ?_)
                    · replace hf := oif c18 hf
                      refine lv_iconst (v := 0) hx hb dX6_takes_98 (by decide) ?_
                      have er := Option.some.inj hf
                      exact rtZ hx hb hr hS dX6_takes_99 er (by decide) hlocks
                    · replace hf := oel c18 hf
                      refine lv_iconst (v := 1) hx hb dX6_takes_94 (by decide) ?_
                      refine lv_goto (tgt := 99) hx hb dX6_takes_95 (by decide) ?_
                      have er := Option.some.inj hf
                      exact rtZ hx hb hr hS dX6_takes_99 er (by decide) hlocks
              · replace hf := oif c15 hf
                refine lv_iload_n hx hb dX6_takes_67 rfl (lv_at hl 3 rfl) ?_
                refine lv_bipush (v := 8) hx hb dX6_takes_68 (by decide) ?_
                refine lv_icmp_eq (tgt := 94) hx hb dX6_takes_70 (by decide) (fun c19 => ?_) (fun c19 => ?_)
                · replace hf := oif c19 hf
                  refine lv_iconst (v := 1) hx hb dX6_takes_94 (by decide) ?_
                  refine lv_goto (tgt := 99) hx hb dX6_takes_95 (by decide) ?_
                  have er := Option.some.inj hf
                  exact rtZ hx hb hr hS dX6_takes_99 er (by decide) hlocks
                · replace hf := oel c19 hf
                  refine lv_iload hx hb dX6_takes_73 (lv_at hl 0 rfl) ?_
                  refine lv_bipush (v := 11) hx hb dX6_takes_75 (by decide) ?_
                  refine lv_icmp_ne (tgt := 98) hx hb dX6_takes_77 (by decide) (fun c20 => ?_) (fun c20 => ?_)
                  · replace hf := oel c20 hf
                    refine lv_iconst (v := 0) hx hb dX6_takes_98 (by decide) ?_
                    have er := Option.some.inj hf
                    exact rtZ hx hb hr hS dX6_takes_99 er (by decide) hlocks
                  · replace hf := oif c20 hf
                    refine lv_iload_n hx hb dX6_takes_80 rfl (lv_at hl 3 rfl) ?_
                    refine lv_bipush (v := 8) hx hb dX6_takes_81 (by decide) ?_
                    refine lv_icmp_ne (tgt := 98) hx hb dX6_takes_83 (by decide) (fun c21 => ?_) (fun c21 => ?_)
                    · replace hf := oel c21 hf
                      refine lv_iconst (v := 0) hx hb dX6_takes_98 (by decide) ?_
                      have er := Option.some.inj hf
                      exact rtZ hx hb hr hS dX6_takes_99 er (by decide) hlocks
                    · replace hf := oif c21 hf
                      refine lv_lload_n hx hb dX6_takes_86 rfl (lv_at hl 4 rfl) ?_
                      refine lv_ldc2 hx hb hown gk88 dX6_takes_87 ?_
                      refine W.lcmp hx hb dX6_takes_90 ?_
                      refine lv_if_lt (tgt := 98) hx hb dX6_takes_91 (by decide) (fun c22 => ?_) (fun c22 => ?_)
                      · replace hf := oif c22 hf
                        refine lv_iconst (v := 0) hx hb dX6_takes_98 (by decide) ?_
                        have er := Option.some.inj hf
                        exact rtZ hx hb hr hS dX6_takes_99 er (by decide) hlocks
                      · replace hf := oel c22 hf
                        refine lv_iconst (v := 1) hx hb dX6_takes_94 (by decide) ?_
                        refine lv_goto (tgt := 99) hx hb dX6_takes_95 (by decide) ?_
                        have er := Option.some.inj hf
                        exact rtZ hx hb hr hS dX6_takes_99 er (by decide) hlocks
    · replace hf := oel c2 hf
      refine lv_iload_n hx hb dX6_takes_14 rfl (lv_at hl 3 rfl) ?_
      refine lv_bipush (v := 7) hx hb dX6_takes_15 (by decide) ?_
      refine lv_icmp_gt (tgt := 33) hx hb dX6_takes_17 (by decide) (fun c23 => ?_) (fun c23 => ?_)
      · replace hf := oif c23 hf
        refine lv_iconst (v := 0) hx hb dX6_takes_33 (by decide) ?_
        have er := Option.some.inj hf
        exact rtZ hx hb hr hS dX6_takes_34 er (by decide) hlocks
      · replace hf := oel c23 hf
        refine lv_iload_n hx hb dX6_takes_20 rfl (lv_at hl 3 rfl) ?_
        refine lv_iload hx hb dX6_takes_21 (lv_at hl 0 rfl) ?_
        obtain ⟨z24, hz24, hf⟩ := obd hf
        refine kZ (runS (As := [.int x2, .int z1]) (rest := []) C0 hE hAb hP (hDb.addr rfl) hS [] (wc := []) (by decide) rfl (c_X6_goes l D cI cJ cZ cQ bs H.size x2 z1 z24 hz24) (va_cwS 2 hts gX6_takes_X6_goes rfl rfl rfl (by decide +kernel) ⟨Nat.le_of_ble_eq_true rfl, Nat.le_of_ble_eq_true rfl⟩) rfl hl.1 rfl (Nat.le_of_ble_eq_true rfl) dX6_takes_23 ⟨Nat.le_of_ble_eq_true rfl, Nat.le_of_ble_eq_true rfl⟩) hS hP (fun bz24 H locs hP hS => ?_)
        refine lv_if_eq (tgt := 33) hx hb dX6_takes_26 (by decide) (fun c25 => ?_) (fun c25 => ?_)
        · replace hf := oif c25 hf
          refine lv_iconst (v := 0) hx hb dX6_takes_33 (by decide) ?_
          have er := Option.some.inj hf
          exact rtZ hx hb hr hS dX6_takes_34 er (by decide) hlocks
        · replace hf := oel c25 hf
          refine lv_iconst (v := 1) hx hb dX6_takes_29 (by decide) ?_
          refine lv_goto (tgt := 34) hx hb dX6_takes_30 (by decide) ?_
          have er := Option.some.inj hf
          exact rtZ hx hb hr hS dX6_takes_34 er (by decide) hlocks
  exact go s.heap [] hP hS
