/-! the law: one round of its loop, its loop -/
set_option maxHeartbeats 4000000 in
set_option maxRecDepth 100000 in
theorem law_step {p : Program} {e : Env} {s : State} {m : MethodId} {below : List Frame} {meth : Method} {c : Code} (l : Launch) {sb L : Nat} {xs : Nat → Int32} (hx : p.tables.exec = Jvm.exec) (hb : c.code = code) (C0 : CallFix p m c code 4 s #[Value.ref sb] wsL_law RL) (hX : va_X sb L xs s s.heap) (hbl : sb < s.heap.size) (D : va_G) (cI cJ cZ cQ : ClassId) (hE : Ev D cI cJ cZ cQ s.heap.size s) (x b h k r q v w : Nat → Nat) (x3 : Int32) (hin1 : vp_in (x3 + 1) L) (hin2 : vp_in (x3 + 2) L) (hin3 : vp_in (x3 + 3) L) (hin4 : vp_in (x3 + 4) L) (hin5 : vp_in (x3 + 5) L) (kc ks : Nat) (hkc : kc + 117 ≤ 600000) (hks : ks + 2444 ≤ 7302250) (H : Heap) (locs : List Loc) (ls : Array Slot) (hSt : LSt D cI cJ cZ cQ s sb x b h k r q v w x3 H locs ls) (a : Nat) (ha : a < 32)
    (K : ∀ (H : Heap) (locs : List Loc) (ls : Array Slot), LSt D cI cJ cZ cQ s sb x b h k r q v w x3 H locs ls → W p l e room_1 s m #[Value.ref sb] below meth c H locs (kc + 117) (ks + 2444) (lw_Z below #[Value.ref sb] s) (F0 m 1184 ls [])) : W p l e room_1 s m #[Value.ref sb] below meth c H locs kc ks (lw_Z below #[Value.ref sb] s) (F0 m 33 ls [.int (nI a)]) := by
  rcases (show a = 0 ∨ a = 1 ∨ a = 2 ∨ a = 3 ∨ a = 4 ∨ a = 5 ∨ a = 6 ∨ a = 7 ∨ a = 8 ∨ a = 9 ∨ a = 10 ∨ a = 11 ∨ a = 12 ∨ a = 13 ∨ a = 14 ∨ a = 15 ∨ a = 16 ∨ a = 17 ∨ a = 18 ∨ a = 19 ∨ a = 20 ∨ a = 21 ∨ a = 22 ∨ a = 23 ∨ a = 24 ∨ a = 25 ∨ a = 26 ∨ a = 27 ∨ a = 28 ∨ a = 29 ∨ a = 30 ∨ a = 31 by omega) with rfl | rfl | rfl | rfl | rfl | rfl | rfl | rfl | rfl | rfl | rfl | rfl | rfl | rfl | rfl | rfl | rfl | rfl | rfl | rfl | rfl | rfl | rfl | rfl | rfl | rfl | rfl | rfl | rfl | rfl | rfl | rfl
  · refine lv_tableIn (off := 143) (tgt := 176) hx hb dL_law_33 (by decide) (by decide) (by decide +kernel) (by decide) ?_
    exact lc_told l hx hb C0 hX hbl D cI cJ cZ cQ hE x b h k r q v w x3 hin1 hin2 hin3 hin4 hin5 kc ks hkc hks H locs ls hSt K
  · refine lv_tableIn (off := 166) (tgt := 199) hx hb dL_law_33 (by decide) (by decide) (by decide +kernel) (by decide) ?_
    exact lc_row l hx hb C0 hX hbl D cI cJ cZ cQ hE x b h k r q v w x3 hin1 hin2 hin3 hin4 hin5 kc ks hkc hks H locs ls hSt K
  · refine lv_tableIn (off := 199) (tgt := 232) hx hb dL_law_33 (by decide) (by decide) (by decide +kernel) (by decide) ?_
    exact lc_cell l hx hb C0 hX hbl D cI cJ cZ cQ hE x b h k r q v w x3 hin1 hin2 hin3 hin4 hin5 kc ks hkc hks H locs ls hSt K
  · refine lv_tableIn (off := 243) (tgt := 276) hx hb dL_law_33 (by decide) (by decide) (by decide +kernel) (by decide) ?_
    exact lc_hand l hx hb C0 hX hbl D cI cJ cZ cQ hE x b h k r q v w x3 hin1 hin2 hin3 hin4 hin5 kc ks hkc hks H locs ls hSt K
  · refine lv_tableIn (off := 267) (tgt := 300) hx hb dL_law_33 (by decide) (by decide) (by decide +kernel) (by decide) ?_
    exact lc_tag l hx hb C0 hX hbl D cI cJ cZ cQ hE x b h k r q v w x3 hin1 hin2 hin3 hin4 hin5 kc ks hkc hks H locs ls hSt K
  · refine lv_tableIn (off := 300) (tgt := 333) hx hb dL_law_33 (by decide) (by decide) (by decide +kernel) (by decide) ?_
    exact lc_keyAt l hx hb C0 hX hbl D cI cJ cZ cQ hE x b h k r q v w x3 hin1 hin2 hin3 hin4 hin5 kc ks hkc hks H locs ls hSt K
  · refine lv_tableIn (off := 333) (tgt := 366) hx hb dL_law_33 (by decide) (by decide) (by decide +kernel) (by decide) ?_
    exact lc_rank l hx hb C0 hX hbl D cI cJ cZ cQ hE x b h k r q v w x3 hin1 hin2 hin3 hin4 hin5 kc ks hkc hks H locs ls hSt K
  · refine lv_tableIn (off := 366) (tgt := 399) hx hb dL_law_33 (by decide) (by decide) (by decide +kernel) (by decide) ?_
    exact lc_compare l hx hb C0 hX hbl D cI cJ cZ cQ hE x b h k r q v w x3 hin1 hin2 hin3 hin4 hin5 kc ks hkc hks H locs ls hSt K
  · refine lv_tableIn (off := 399) (tgt := 432) hx hb dL_law_33 (by decide) (by decide) (by decide +kernel) (by decide) ?_
    exact lc_below l hx hb C0 hX hbl D cI cJ cZ cQ hE x b h k r q v w x3 hin1 hin2 hin3 hin4 hin5 kc ks hkc hks H locs ls hSt K
  · refine lv_tableIn (off := 442) (tgt := 475) hx hb dL_law_33 (by decide) (by decide) (by decide +kernel) (by decide) ?_
    exact lc_would l hx hb C0 hX hbl D cI cJ cZ cQ hE x b h k r q v w x3 hin1 hin2 hin3 hin4 hin5 kc ks hkc hks H locs ls hSt K
  · refine lv_tableIn (off := 475) (tgt := 508) hx hb dL_law_33 (by decide) (by decide) (by decide +kernel) (by decide) ?_
    exact lc_lay l hx hb C0 hX hbl D cI cJ cZ cQ hE x b h k r q v w x3 hin1 hin2 hin3 hin4 hin5 kc ks hkc hks H locs ls hSt K
  · refine lv_tableIn (off := 518) (tgt := 551) hx hb dL_law_33 (by decide) (by decide) (by decide +kernel) (by decide) ?_
    exact lc_take l hx hb C0 hX hbl D cI cJ cZ cQ hE x b h k r q v w x3 hin1 hin2 hin3 hin4 hin5 kc ks hkc hks H locs ls hSt K
  · refine lv_tableIn (off := 581) (tgt := 614) hx hb dL_law_33 (by decide) (by decide) (by decide +kernel) (by decide) ?_
    exact lc_pick l hx hb C0 hX hbl D cI cJ cZ cQ hE x b h k r q v w x3 hin1 hin2 hin3 hin4 hin5 kc ks hkc hks H locs ls hSt K
  · refine lv_tableIn (off := 624) (tgt := 657) hx hb dL_law_33 (by decide) (by decide) (by decide +kernel) (by decide) ?_
    exact lc_put l hx hb C0 hX hbl D cI cJ cZ cQ hE x b h k r q v w x3 hin1 hin2 hin3 hin4 hin5 kc ks hkc hks H locs ls hSt K
  · refine lv_tableIn (off := 667) (tgt := 700) hx hb dL_law_33 (by decide) (by decide) (by decide +kernel) (by decide) ?_
    exact lc_pour l hx hb C0 hX hbl D cI cJ cZ cQ hE x b h k r q v w x3 hin1 hin2 hin3 hin4 hin5 kc ks hkc hks H locs ls hSt K
  · refine lv_tableIn (off := 730) (tgt := 763) hx hb dL_law_33 (by decide) (by decide) (by decide +kernel) (by decide) ?_
    exact lc_weigh l hx hb C0 hX hbl D cI cJ cZ cQ hE x b h k r q v w x3 hin1 hin2 hin3 hin4 hin5 kc ks hkc hks H locs ls hSt K
  · refine lv_tableIn (off := 763) (tgt := 796) hx hb dL_law_33 (by decide) (by decide) (by decide +kernel) (by decide) ?_
    exact lc_key l hx hb C0 hX hbl D cI cJ cZ cQ hE x b h k r q v w x3 hin1 hin2 hin3 hin4 hin5 kc ks hkc hks H locs ls hSt K
  · refine lv_tableIn (off := 806) (tgt := 839) hx hb dL_law_33 (by decide) (by decide) (by decide +kernel) (by decide) ?_
    exact lc_unkey l hx hb C0 hX hbl D cI cJ cZ cQ hE x b h k r q v w x3 hin1 hin2 hin3 hin4 hin5 kc ks hkc hks H locs ls hSt K
  · refine lv_tableIn (off := 819) (tgt := 852) hx hb dL_law_33 (by decide) (by decide) (by decide +kernel) (by decide) ?_
    exact lc_sheet l hx hb C0 hX hbl D cI cJ cZ cQ hE x b h k r q v w x3 hin1 hin2 hin3 hin4 hin5 kc ks hkc hks H locs ls hSt K
  · refine lv_tableIn (off := 842) (tgt := 875) hx hb dL_law_33 (by decide) (by decide) (by decide +kernel) (by decide) ?_
    exact lc_settle l hx hb C0 hX hbl D cI cJ cZ cQ hE x b h k r q v w x3 hin1 hin2 hin3 hin4 hin5 kc ks hkc hks H locs ls hSt K
  · refine lv_tableIn (off := 855) (tgt := 888) hx hb dL_law_33 (by decide) (by decide) (by decide +kernel) (by decide) ?_
    exact lc_pass l hx hb C0 hX hbl D cI cJ cZ cQ hE x b h k r q v w x3 hin1 hin2 hin3 hin4 hin5 kc ks hkc hks H locs ls hSt K
  · refine lv_tableIn (off := 868) (tgt := 901) hx hb dL_law_33 (by decide) (by decide) (by decide +kernel) (by decide) ?_
    exact lc_move l hx hb C0 hX hbl D cI cJ cZ cQ hE x b h k r q v w x3 hin1 hin2 hin3 hin4 hin5 kc ks hkc hks H locs ls hSt K
  · refine lv_tableIn (off := 911) (tgt := 944) hx hb dL_law_33 (by decide) (by decide) (by decide +kernel) (by decide) ?_
    exact lc_part l hx hb C0 hX hbl D cI cJ cZ cQ hE x b h k r q v w x3 hin1 hin2 hin3 hin4 hin5 kc ks hkc hks H locs ls hSt K
  · refine lv_tableIn (off := 934) (tgt := 967) hx hb dL_law_33 (by decide) (by decide) (by decide +kernel) (by decide) ?_
    exact lc_figure l hx hb C0 hX hbl D cI cJ cZ cQ hE x b h k r q v w x3 hin1 hin2 hin3 hin4 hin5 kc ks hkc hks H locs ls hSt K
  · refine lv_tableIn (off := 967) (tgt := 1000) hx hb dL_law_33 (by decide) (by decide) (by decide +kernel) (by decide) ?_
    exact lc_deal l hx hb C0 hX hbl D cI cJ cZ cQ hE x b h k r q v w x3 hin1 hin2 hin3 hin4 hin5 kc ks hkc hks H locs ls hSt K
  · refine lv_tableIn (off := 990) (tgt := 1023) hx hb dL_law_33 (by decide) (by decide) (by decide +kernel) (by decide) ?_
    exact lc_drift l hx hb C0 hX hbl D cI cJ cZ cQ hE x b h k r q v w x3 hin1 hin2 hin3 hin4 hin5 kc ks hkc hks H locs ls hSt K
  · refine lv_tableIn (off := 1013) (tgt := 1046) hx hb dL_law_33 (by decide) (by decide) (by decide +kernel) (by decide) ?_
    exact lc_undo l hx hb C0 hX hbl D cI cJ cZ cQ hE x b h k r q v w x3 hin1 hin2 hin3 hin4 hin5 kc ks hkc hks H locs ls hSt K
  · refine lv_tableIn (off := 1036) (tgt := 1069) hx hb dL_law_33 (by decide) (by decide) (by decide +kernel) (by decide) ?_
    exact lc_write l hx hb C0 hX hbl D cI cJ cZ cQ hE x b h k r q v w x3 hin1 hin2 hin3 hin4 hin5 kc ks hkc hks H locs ls hSt K
  · refine lv_tableIn (off := 1069) (tgt := 1102) hx hb dL_law_33 (by decide) (by decide) (by decide +kernel) (by decide) ?_
    exact lc_tear l hx hb C0 hX hbl D cI cJ cZ cQ hE x b h k r q v w x3 hin1 hin2 hin3 hin4 hin5 kc ks hkc hks H locs ls hSt K
  · refine lv_tableIn (off := 1082) (tgt := 1115) hx hb dL_law_33 (by decide) (by decide) (by decide +kernel) (by decide) ?_
    exact lc_seed l hx hb C0 hX hbl D cI cJ cZ cQ hE x b h k r q v w x3 hin1 hin2 hin3 hin4 hin5 kc ks hkc hks H locs ls hSt K
  · refine lv_tableIn (off := 1105) (tgt := 1138) hx hb dL_law_33 (by decide) (by decide) (by decide +kernel) (by decide) ?_
    exact lc_keep l hx hb C0 hX hbl D cI cJ cZ cQ hE x b h k r q v w x3 hin1 hin2 hin3 hin4 hin5 kc ks hkc hks H locs ls hSt K
  · refine lv_tableIn (off := 1128) (tgt := 1161) hx hb dL_law_33 (by decide) (by decide) (by decide +kernel) (by decide) ?_
    exact lc_goBack l hx hb C0 hX hbl D cI cJ cZ cQ hE x b h k r q v w x3 hin1 hin2 hin3 hin4 hin5 kc ks hkc hks H locs ls hSt K
set_option maxHeartbeats 4000000 in
set_option maxRecDepth 100000 in
theorem law_loop {p : Program} {e : Env} {s : State} {m : MethodId} {below : List Frame} {meth : Method} {c : Code} (l : Launch) {sb L : Nat} {xs : Nat → Int32} (hx : p.tables.exec = Jvm.exec) (hb : c.code = code) (C0 : CallFix p m c code 4 s #[Value.ref sb] wsL_law RL) (hX : va_X sb L xs s s.heap) (hbl : sb < s.heap.size) (D : va_G) (cI cJ cZ cQ : ClassId) (hE : Ev D cI cJ cZ cQ s.heap.size s) (x b h k r q v w : Nat → Nat) (hL : L ≤ 3072) (hr : meth.sig.returnType = ret) (hlocks : meth.locks = false) : ∀ (n j : Nat), j + n = 513 → 6 * j < L + 6 → ∀ (kc ks : Nat), kc ≤ 41 + 117 * j → ks ≤ 3933 + 2444 * j → ∀ (H : Heap) (locs : List Loc) (ls : Array Slot), LSt D cI cJ cZ cQ s sb x b h k r q v w (nI (6 * j)) H locs ls → W p l e room_1 s m #[Value.ref sb] below meth c H locs kc ks (lw_Z below #[Value.ref sb] s) (F0 m 18 ls []) := by
  have hbA : ¬ (fun q : Nat => s.heap.size ≤ q) sb := Nat.not_le.mpr hbl
  intro n
  induction n with
  | zero =>
    intro j h1 h2
    exact absurd h2 (by omega)
  | succ n ih =>
    intro j h1 h2 kc ks hkc hks H locs ls hSt
    have hl := hSt.hl
    have hS := hSt.hS
    have hcmp : (Int32.ofNat L - (6 : Int32)).toInt = (L : Int) - 6 := pk_sub_toInt (a := L) (b := 6) (by omega) (by omega)
    refine lv_iload_n hx hb dL_law_18 rfl (lv_at hl 0 rfl) ?_
    refine lv_aload_n hx hb dL_law_19 rfl (lv_at hl 3 rfl) ?_
    refine va_slen hx hb hX hbl hbA hS dL_law_20 ?_
    refine lv_bipush (v := 6) hx hb dL_law_21 (by decide) ?_
    refine lv_isub hx hb dL_law_23 ?_
    refine lv_icmp_gt (tgt := 1190) hx hb dL_law_24 (by decide) (fun c1 => ?_) (fun c1 => ?_)
    · refine lv_iconst (v := 1) hx hb dL_law_1190 (by decide) ?_
      refine va_forget (fun q hq => hS.2.2 q hq) ?_
      refine W.widen (k := 600000) (n := 7302250) (by omega) (by omega) ?_
      exact lw_ret hx hb hr hlocks dL_law_1191
    · have hjl : 6 * j + 6 ≤ L := by
        rw [lt32, nI_toInt (show 6 * j < 2 ^ 31 by omega)] at c1
        have c2 : ¬ ((L : Int) - 6 < ((6 * j : Nat) : Int)) := fun q => c1 (by rw [hcmp]; exact q)
        omega
      have vin : ∀ i : Nat, i < 6 → vp_in (nI (6 * j) + nI i) L := fun i hi => by rw [nI_add]; exact vp_in_nI (by omega) (by omega)
      have v0 : vp_in (nI (6 * j)) L := vp_in_nI (by omega) (by omega)
      refine lv_aload_n hx hb dL_law_27 rfl (lv_at hl 3 rfl) ?_
      refine lv_iload_n hx hb dL_law_28 rfl (lv_at hl 0 rfl) ?_
      refine va_sld hx hb hX hbl hbA hS v0 dL_law_29 ?_
      refine lv_bipush (v := 31) hx hb dL_law_30 (by decide) ?_
      refine lv_iand hx hb dL_law_32 ?_
      obtain ⟨a, ha, ea⟩ := pk_andE (xs (nI (6 * j)).toNatClampNeg) (m := 31) 5 (by decide)
      refine cgI ea ?_
      refine law_step l hx hb C0 hX hbl D cI cJ cZ cQ hE x b h k r q v w (nI (6 * j)) (vin 1 (by omega)) (vin 2 (by omega)) (vin 3 (by omega)) (vin 4 (by omega)) (vin 5 (by omega)) kc ks (by omega) (by omega) H locs ls hSt a ha (fun H locs ls hSt => ?_)
      have hl := hSt.hl
      refine lv_iinc (v := nI (6 * (j + 1))) (lv' := [(3, .int (nI (6 * (j + 1)))), (2, .ref (w 0)), (1, .ref (x 0)), (0, .ref sb)]) hx hb dL_law_1184 hl (k := 0) rfl (by show nI (6 * j) + nI 6 = _; rw [nI_add, Nat.mul_add]) (by decide) rfl (fun ls hl => ?_)
      refine lv_goto (tgt := 18) hx hb dL_law_1187 (by decide) ?_
      exact ih (j + 1) (by omega) (by omega) (kc + 117) (ks + 2444) (by omega) (by omega) H locs ls (hSt.upd hl)
