/-! making arrays; what a constructor promises -/
section NW
variable {p : Program} {l : Launch} {e : Env} {R : Room} {s : State} {m : MethodId} {args : Array Value} {below : List Frame} {meth : Method} {c : Code} {H : Heap} {locs : List Loc} {cells slots : Nat} {Q : State → Prop} {cc : ByteArray} {pc : Nat} {ls : Array Slot} {A : Nat → Prop} {D : va_G} {cI cJ cZ cQ : ClassId} {ws : va_W} {H0 : Heap} {rest : List Value}
theorem nwI (hx : p.tables.exec = Jvm.exec) (hb : c.code = cc) (harr : (Cond.arrayClass .int).before args s = true) (hK : va_K D vwCl (gT cI cJ cZ cQ) s) (hP : va_P D vwCl ws H) (hD : va_D A ws) (hS : va_S A H0 H locs) (hA : ∀ q, H0.size ≤ q → A q) {n : Int32} {N : Nat} (hn : ¬ n < 0) (hN : n.toNatClampNeg = N) (hbytes : N * componentBytes .int ≤ 536870912) (hcells : cells + 1 ≤ R.cells) (hslots : slots + N ≤ R.slots) (hdg : decode cc pc = .ok (.newarray .int, 2))
    (kk : ∀ (q : Nat) (H1 : Heap), va_P D vwCl (ws ++ [aI cI q N (fun _ => 0)]) H1 → va_D A (ws ++ [aI cI q N (fun _ => 0)]) → va_S A H0 H1 locs → W p l e R s m args below meth c H1 locs (cells + 1) (slots + N) Q (F0 m (pc + 2) ls (.ref q :: rest))) : W p l e R s m args below meth c H locs cells slots Q (F0 m pc ls (.int n :: rest)) := by
  refine va_newa (atype := .int) (ty := .int) hx hb harr rfl hK hP hD hS hA (a0 := (N, .inl (fun _ => 0))) (fun _ => rfl) hn hN hbytes hcells hslots hdg (fun q cA H1 hK1 hP1 hD1 hS1 => ?_)
  have e : cA = cI := Option.some.inj ((hK1.2 4 _ rfl).2.symm.trans (hK.2 0 _ rfl).2)
  subst e
  exact kk q H1 hP1 hD1 hS1
theorem nwJ (hx : p.tables.exec = Jvm.exec) (hb : c.code = cc) (harr : (Cond.arrayClass .long).before args s = true) (hK : va_K D vwCl (gT cI cJ cZ cQ) s) (hP : va_P D vwCl ws H) (hD : va_D A ws) (hS : va_S A H0 H locs) (hA : ∀ q, H0.size ≤ q → A q) {n : Int32} {N : Nat} (hn : ¬ n < 0) (hN : n.toNatClampNeg = N) (hbytes : N * componentBytes .long ≤ 536870912) (hcells : cells + 1 ≤ R.cells) (hslots : slots + N ≤ R.slots) (hdg : decode cc pc = .ok (.newarray .long, 2))
    (kk : ∀ (q : Nat) (H1 : Heap), va_P D vwCl (ws ++ [aJ cJ q N (fun _ => 0)]) H1 → va_D A (ws ++ [aJ cJ q N (fun _ => 0)]) → va_S A H0 H1 locs → W p l e R s m args below meth c H1 locs (cells + 1) (slots + N) Q (F0 m (pc + 2) ls (.ref q :: rest))) : W p l e R s m args below meth c H locs cells slots Q (F0 m pc ls (.int n :: rest)) := by
  refine va_newa (atype := .long) (ty := .long) hx hb harr rfl hK hP hD hS hA (a0 := (N, .inr (.inl (fun _ => 0)))) (fun _ => rfl) hn hN hbytes hcells hslots hdg (fun q cA H1 hK1 hP1 hD1 hS1 => ?_)
  have e : cA = cJ := Option.some.inj ((hK1.2 4 _ rfl).2.symm.trans (hK.2 1 _ rfl).2)
  subst e
  exact kk q H1 hP1 hD1 hS1
theorem nwZ (hx : p.tables.exec = Jvm.exec) (hb : c.code = cc) (harr : (Cond.arrayClass .boolean).before args s = true) (hK : va_K D vwCl (gT cI cJ cZ cQ) s) (hP : va_P D vwCl ws H) (hD : va_D A ws) (hS : va_S A H0 H locs) (hA : ∀ q, H0.size ≤ q → A q) {n : Int32} {N : Nat} (hn : ¬ n < 0) (hN : n.toNatClampNeg = N) (hbytes : N * componentBytes .boolean ≤ 536870912) (hcells : cells + 1 ≤ R.cells) (hslots : slots + N ≤ R.slots) (hdg : decode cc pc = .ok (.newarray .boolean, 2))
    (kk : ∀ (q : Nat) (H1 : Heap), va_P D vwCl (ws ++ [aI cZ q N (fun _ => 0)]) H1 → va_D A (ws ++ [aI cZ q N (fun _ => 0)]) → va_S A H0 H1 locs → W p l e R s m args below meth c H1 locs (cells + 1) (slots + N) Q (F0 m (pc + 2) ls (.ref q :: rest))) : W p l e R s m args below meth c H locs cells slots Q (F0 m pc ls (.int n :: rest)) := by
  refine va_newa (atype := .boolean) (ty := .boolean) hx hb harr rfl hK hP hD hS hA (a0 := (N, .inl (fun _ => 0))) (fun _ => rfl) hn hN hbytes hcells hslots hdg (fun q cA H1 hK1 hP1 hD1 hS1 => ?_)
  have e : cA = cZ := Option.some.inj ((hK1.2 4 _ rfl).2.symm.trans (hK.2 2 _ rfl).2)
  subst e
  exact kk q H1 hP1 hD1 hS1
theorem nwQ {own : String} {index : Nat} (hx : p.tables.exec = Jvm.exec) (hb : c.code = cc) (hown : s.vm.findClass own = some m.cls) (hcl : (Cond.classLink own index RX0).before args s = true) (hao : va_AO RX0 s) (hK : va_K D vwCl (gT cI cJ cZ cQ) s) (hP : va_P D vwCl ws H) (hD : va_D A ws) (hS : va_S A H0 H locs) (hA : ∀ q, H0.size ≤ q → A q) {n : Int32} {N : Nat} (hn : ¬ n < 0) (hN : n.toNatClampNeg = N) (hbytes : N * 4 ≤ 536870912) (hcells : cells + 1 ≤ R.cells) (hslots : slots + N ≤ R.slots) (hdg : decode cc pc = .ok (.anewarray index, 3))
    (kk : ∀ (q : Nat) (H1 : Heap), va_P D vwCl (ws ++ [aQ cQ q N (fun _ => none)]) H1 → va_D A (ws ++ [aQ cQ q N (fun _ => none)]) → va_S A H0 H1 locs → W p l e R s m args below meth c H1 locs (cells + 1) (slots + N) Q (F0 m (pc + 3) ls (.ref q :: rest))) : W p l e R s m args below meth c H locs cells slots Q (F0 m pc ls (.int n :: rest)) := by
  refine va_newq (C := RX0) hx hb hown hcl hao hK hP hD hS hA hn hN hbytes hcells hslots hdg (fun q cA H1 hK1 hP1 hD1 hS1 => ?_)
  obtain ⟨_, _, _, _, _, h1⟩ := (hK1.2 4 _ rfl).2
  obtain ⟨_, _, _, _, _, h2⟩ := (hK.2 3 _ rfl).2
  have e : cA = cQ := Option.some.inj (h1.symm.trans h2)
  subst e
  exact kk q H1 hP1 hD1 hS1
/-- what a constructor of rows promises: addresses of its rows, and what they hold -/
abbrev QnV {S : Type} (D : va_G) (h0 : Nat) (z : S) (wm : (Nat → Nat) → S → va_W) (A : Nat → Prop) : Array Value → State → Outcome → State → Prop := va_Qv (fun b : Nat → Nat => b 0 = h0) (fun b t => va_P D vwCl (wm b z) t.heap ∧ va_D A (wm b z)) A
theorem rInit {S : Type} {z u : S} {wm : (Nat → Nat) → S → va_W} {b : Nat → Nat} {h0 : Nat} (hx : p.tables.exec = Jvm.exec) (hb : c.code = cc) (hr : meth.sig.returnType = none) (hS : va_S A s.heap H locs) (hdg : decode cc pc = .ok (.return_, 1)) (hP : va_P D vwCl (wm b u) H) (hD : va_D A (wm b u)) (hv : u = z) (hb0 : b 0 = h0) (hlocks : meth.locks = false) : W p l e R s m args below meth c H locs cells slots (MQ below (QnV D h0 z wm A) args s cells slots A) (F0 m pc ls []) := by
  subst hv
  exact W.vret hx hb hr (fun t ht hW => ⟨⟨b, rfl, hb0, (show va_P D vwCl (wm b u) t.heap by rw [ht]; exact hP), hD⟩, hS.F ht⟩) hS.2.2 hdg hlocks
end NW
noncomputable def L_X0_init_67  : Nat → Int32 → (Nat → Int32) → Option ((Nat → Int32))
  | 0, _, _ => none
  | n + 1, v1, b_kinds => if 6 ≤ v1 then (some (b_kinds)) else (if ib v1 6 = true then ((some (upd b_kinds v1.toNatClampNeg 14 : Nat → Int32)).bind (fun h2a => (some (v1 + 1 : Int32)).bind (fun y3 => L_X0_init_67 n y3 h2a))) else none)
noncomputable def L_X0_init_89  : Nat → Int32 → (Nat → Int32) → Option ((Nat → Int32))
  | 0, _, _ => none
  | n + 1, v1, b_weights => if 8 ≤ v1 then (some (b_weights)) else (if ib v1 8 = true then ((some (upd b_weights v1.toNatClampNeg (v1 / (2 : Int32)) : Nat → Int32)).bind (fun h7a => (some (v1 + 1 : Int32)).bind (fun y8 => L_X0_init_89 n y8 h7a))) else none)
noncomputable def f_X0_init : Option ((Nat → Int32) × (Nat → Int32) × (Nat → Int32) × (Nat → Int64) × (Nat → Int32) × (Nat → Int32) × (Nat → Int32) × (Nat → Int32) × Int32 × Int32 × Int32 × Int64) := (L_X0_init_67 4000 0 (fun _ => 0)).bind (fun z4 => (L_X0_init_89 4000 0 (fun _ => 0)).bind (fun z9 => some ((z4, (fun _ => 0), (fun _ => 0), (fun _ => 0), z9, (fun _ => 0), (fun _ => 0), (fun _ => 0), 0, 0, 9, 0))))
set_option maxHeartbeats 4000000 in
set_option maxRecDepth 100000 in
theorem c_X0_init (l : Launch) (D : va_G) (cI cJ cZ cQ : ClassId) (bs sz : Nat) (h0 : Nat) (zr : (Nat → Int32) × (Nat → Int32) × (Nat → Int32) × (Nat → Int64) × (Nat → Int32) × (Nat → Int32) × (Nat → Int32) × (Nat → Int32) × Int32 × Int32 × Int32 × Int64) (hf : f_X0_init = some zr) : Met l yX0_init wsX0_init { frames := 1, cells := 8, slots := 176, locals := 20 } (va_Pc [.ref h0] (Pr D cI cJ cZ cQ bs sz [(h0, .inr (0, [.null, .null, .null, .null, .null, .null, .null, .null, .int 0, .int 0, .int 0, .long 0]))])) (QnV D h0 zr (fun b u => [oX0 b u.2.2.2.2.2.2.2.2.1 u.2.2.2.2.2.2.2.2.2.1 u.2.2.2.2.2.2.2.2.2.2.1 u.2.2.2.2.2.2.2.2.2.2.2, aI cI (b 1) 6 u.1, aI cI (b 2) 6 u.2.1, aI cI (b 3) 72 u.2.2.1, aJ cJ (b 4) 72 u.2.2.2.1, aI cI (b 5) 8 u.2.2.2.2.1, aI cI (b 6) 4 u.2.2.2.2.2.1, aI cI (b 7) 4 u.2.2.2.2.2.2.1, aI cI (b 8) 4 u.2.2.2.2.2.2.2.1]) (va_A [(h0, .inr (0, [.null, .null, .null, .null, .null, .null, .null, .null, .int 0, .int 0, .int 0, .long 0]))] sz)) 8 176 (va_A [(h0, .inr (0, [.null, .null, .null, .null, .null, .null, .null, .null, .int 0, .int 0, .int 0, .long 0]))] sz) := by
  refine stW (cc := cX0_init) (maxL := 2) (ret := none) (Qf := fun A => QnV D h0 zr (fun b u => [oX0 b u.2.2.2.2.2.2.2.2.1 u.2.2.2.2.2.2.2.2.2.1 u.2.2.2.2.2.2.2.2.2.2.1 u.2.2.2.2.2.2.2.2.2.2.2, aI cI (b 1) 6 u.1, aI cI (b 2) 6 u.2.1, aI cI (b 3) 72 u.2.2.1, aJ cJ (b 4) 72 u.2.2.2.1, aI cI (b 5) 8 u.2.2.2.2.1, aI cI (b 6) 4 u.2.2.2.2.2.1, aI cI (b 7) 4 u.2.2.2.2.2.2.1, aI cI (b 8) 4 u.2.2.2.2.2.2.2.1]) A) (by decide +kernel) rfl (Nat.le_of_ble_eq_true rfl) ?_
  intro p e s m args below meth c A C0 hr hlocks hin hsz hP hD hA hAb hE ls hl
  have hin : meth.name = "<init>" := hin
  obtain ⟨hx, hb, hml, hown, hts⟩ := id C0
  have hown : s.vm.findClass RX0 = some m.cls := hown
  obtain ⟨hK, hNW, -, tw, hZ, hT⟩ := id hE
  have hl : lv_has ls 2 [(0, .ref h0)] := hl
  have hS : va_S A s.heap s.heap [] := va_S.rf
  have hI_X0 := (show ∀ w ∈ wsX00, w ∈ wsX0_init by decide +kernel)
  have gl3 := hts (.methodLink RX0 3 objectInit) (by decide +kernel)
  have go2 := hts (.instanceMethod objectInit) (by decide +kernel)
  have go3 := hts (.code objectInit ⟨#[0xb1]⟩ 1 none) (by decide +kernel)
  have gaint := hts (.arrayClass .int) (by decide +kernel)
  have gf9 := hts (.fieldLink RX0 9 "RowRanks$Bench" "kinds" "[I") (by decide +kernel)
  have gf15 := hts (.fieldLink RX0 15 "RowRanks$Bench" "sizes" "[I") (by decide +kernel)
  have gf18 := hts (.fieldLink RX0 18 "RowRanks$Bench" "sorts" "[I") (by decide +kernel)
  have galong := hts (.arrayClass .long) (by decide +kernel)
  have gf21 := hts (.fieldLink RX0 21 "RowRanks$Bench" "numbers" "[J") (by decide +kernel)
  have gf25 := hts (.fieldLink RX0 25 "RowRanks$Bench" "weights" "[I") (by decide +kernel)
  have gf28 := hts (.fieldLink RX0 28 "RowRanks$Bench" "keySlots" "[I") (by decide +kernel)
  have gf31 := hts (.fieldLink RX0 31 "RowRanks$Bench" "keyBys" "[I") (by decide +kernel)
  have gf34 := hts (.fieldLink RX0 34 "RowRanks$Bench" "keyWays" "[I") (by decide +kernel)
  have gf37 := hts (.fieldLink RX0 37 "RowRanks$Bench" "handSort" "I") (by decide +kernel)
  unfold f_X0_init at hf
  refine lv_aload_n hx hb dX0_init_0 rfl (lv_at hl 0 rfl) ?_
  refine W.objInit hx hb hown gl3 go2 go3 rfl (by rw [hml]; exact hl.1) rfl dX0_init_1 (Nat.le_of_ble_eq_true rfl) (Nat.le_of_ble_eq_true rfl) ?_
  refine W.eq (g2 := F0 m 4 ls []) rfl ?_
  refine lv_aload_n hx hb dX0_init_4 rfl (lv_at hl 0 rfl) ?_
  refine lv_bipush (v := 6) hx hb dX0_init_5 (by decide) ?_
  refine nwI hx hb gaint hK hP hD hS hA (N := 6) (by decide) (by decide) (Nat.le_of_ble_eq_true rfl) (Nat.le_of_ble_eq_true rfl) (Nat.le_of_ble_eq_true rfl) dX0_init_7 (fun q1 H hP hD hS => ?_)
  have hP : va_P D vwCl [(h0, .inr (0, [.null, .null, .null, .null, .null, .null, .null, .null, .int 0, .int 0, .int 0, .long 0])), aI cI q1 6 (fun _ => 0)] H := hP
  have hD : va_D A [(h0, .inr (0, [.null, .null, .null, .null, .null, .null, .null, .null, .int 0, .int 0, .int 0, .long 0])), aI cI q1 6 (fun _ => 0)] := hD
  refine va_putF (D := D) (ci := 0) (v := .ref q1) (ty := .array .int) (C := RX0) (T := TX0) (N := 12) hx hb hts hI_X0 tyX0 tyX0_ok nmX0 hown hK hP hD hS 0 rfl rfl 0 (by decide) gf9 (fun _ h9 => h9) rfl hin rfl (by decide +kernel) rfl rfl (Nat.le_of_ble_eq_true rfl) dX0_init_9 (fun H locs hP hD hS => ?_)
  have hP : va_P D vwCl [(h0, .inr (0, [.ref q1, .null, .null, .null, .null, .null, .null, .null, .int 0, .int 0, .int 0, .long 0])), aI cI q1 6 (fun _ => 0)] H := hP
  have hD : va_D A [(h0, .inr (0, [.ref q1, .null, .null, .null, .null, .null, .null, .null, .int 0, .int 0, .int 0, .long 0])), aI cI q1 6 (fun _ => 0)] := hD
  refine lv_aload_n hx hb dX0_init_12 rfl (lv_at hl 0 rfl) ?_
  refine lv_bipush (v := 6) hx hb dX0_init_13 (by decide) ?_
  refine nwI hx hb gaint hK hP hD hS hA (N := 6) (by decide) (by decide) (Nat.le_of_ble_eq_true rfl) (Nat.le_of_ble_eq_true rfl) (Nat.le_of_ble_eq_true rfl) dX0_init_15 (fun q2 H hP hD hS => ?_)
  have hP : va_P D vwCl [(h0, .inr (0, [.ref q1, .null, .null, .null, .null, .null, .null, .null, .int 0, .int 0, .int 0, .long 0])), aI cI q1 6 (fun _ => 0), aI cI q2 6 (fun _ => 0)] H := hP
  have hD : va_D A [(h0, .inr (0, [.ref q1, .null, .null, .null, .null, .null, .null, .null, .int 0, .int 0, .int 0, .long 0])), aI cI q1 6 (fun _ => 0), aI cI q2 6 (fun _ => 0)] := hD
  refine va_putF (D := D) (ci := 0) (v := .ref q2) (ty := .array .int) (C := RX0) (T := TX0) (N := 12) hx hb hts hI_X0 tyX0 tyX0_ok nmX0 hown hK hP hD hS 0 rfl rfl 1 (by decide) gf15 (fun _ h9 => h9) rfl hin rfl (by decide +kernel) rfl rfl (Nat.le_of_ble_eq_true rfl) dX0_init_17 (fun H locs hP hD hS => ?_)
  have hP : va_P D vwCl [(h0, .inr (0, [.ref q1, .ref q2, .null, .null, .null, .null, .null, .null, .int 0, .int 0, .int 0, .long 0])), aI cI q1 6 (fun _ => 0), aI cI q2 6 (fun _ => 0)] H := hP
  have hD : va_D A [(h0, .inr (0, [.ref q1, .ref q2, .null, .null, .null, .null, .null, .null, .int 0, .int 0, .int 0, .long 0])), aI cI q1 6 (fun _ => 0), aI cI q2 6 (fun _ => 0)] := hD
  refine lv_aload_n hx hb dX0_init_20 rfl (lv_at hl 0 rfl) ?_
  refine lv_bipush (v := 72) hx hb dX0_init_21 (by decide) ?_
  refine nwI hx hb gaint hK hP hD hS hA (N := 72) (by decide) (by decide) (Nat.le_of_ble_eq_true rfl) (Nat.le_of_ble_eq_true rfl) (Nat.le_of_ble_eq_true rfl) dX0_init_23 (fun q3 H hP hD hS => ?_)
  have hP : va_P D vwCl [(h0, .inr (0, [.ref q1, .ref q2, .null, .null, .null, .null, .null, .null, .int 0, .int 0, .int 0, .long 0])), aI cI q1 6 (fun _ => 0), aI cI q2 6 (fun _ => 0), aI cI q3 72 (fun _ => 0)] H := hP
  have hD : va_D A [(h0, .inr (0, [.ref q1, .ref q2, .null, .null, .null, .null, .null, .null, .int 0, .int 0, .int 0, .long 0])), aI cI q1 6 (fun _ => 0), aI cI q2 6 (fun _ => 0), aI cI q3 72 (fun _ => 0)] := hD
  refine va_putF (D := D) (ci := 0) (v := .ref q3) (ty := .array .int) (C := RX0) (T := TX0) (N := 12) hx hb hts hI_X0 tyX0 tyX0_ok nmX0 hown hK hP hD hS 0 rfl rfl 2 (by decide) gf18 (fun _ h9 => h9) rfl hin rfl (by decide +kernel) rfl rfl (Nat.le_of_ble_eq_true rfl) dX0_init_25 (fun H locs hP hD hS => ?_)
  have hP : va_P D vwCl [(h0, .inr (0, [.ref q1, .ref q2, .ref q3, .null, .null, .null, .null, .null, .int 0, .int 0, .int 0, .long 0])), aI cI q1 6 (fun _ => 0), aI cI q2 6 (fun _ => 0), aI cI q3 72 (fun _ => 0)] H := hP
  have hD : va_D A [(h0, .inr (0, [.ref q1, .ref q2, .ref q3, .null, .null, .null, .null, .null, .int 0, .int 0, .int 0, .long 0])), aI cI q1 6 (fun _ => 0), aI cI q2 6 (fun _ => 0), aI cI q3 72 (fun _ => 0)] := hD
  refine lv_aload_n hx hb dX0_init_28 rfl (lv_at hl 0 rfl) ?_
  refine lv_bipush (v := 72) hx hb dX0_init_29 (by decide) ?_
  refine nwJ hx hb galong hK hP hD hS hA (N := 72) (by decide) (by decide) (Nat.le_of_ble_eq_true rfl) (Nat.le_of_ble_eq_true rfl) (Nat.le_of_ble_eq_true rfl) dX0_init_31 (fun q4 H hP hD hS => ?_)
  have hP : va_P D vwCl [(h0, .inr (0, [.ref q1, .ref q2, .ref q3, .null, .null, .null, .null, .null, .int 0, .int 0, .int 0, .long 0])), aI cI q1 6 (fun _ => 0), aI cI q2 6 (fun _ => 0), aI cI q3 72 (fun _ => 0), aJ cJ q4 72 (fun _ => 0)] H := hP
  have hD : va_D A [(h0, .inr (0, [.ref q1, .ref q2, .ref q3, .null, .null, .null, .null, .null, .int 0, .int 0, .int 0, .long 0])), aI cI q1 6 (fun _ => 0), aI cI q2 6 (fun _ => 0), aI cI q3 72 (fun _ => 0), aJ cJ q4 72 (fun _ => 0)] := hD
  refine va_putF (D := D) (ci := 0) (v := .ref q4) (ty := .array .long) (C := RX0) (T := TX0) (N := 12) hx hb hts hI_X0 tyX0 tyX0_ok nmX0 hown hK hP hD hS 0 rfl rfl 3 (by decide) gf21 (fun _ h9 => h9) rfl hin rfl (by decide +kernel) rfl rfl (Nat.le_of_ble_eq_true rfl) dX0_init_33 (fun H locs hP hD hS => ?_)
  have hP : va_P D vwCl [(h0, .inr (0, [.ref q1, .ref q2, .ref q3, .ref q4, .null, .null, .null, .null, .int 0, .int 0, .int 0, .long 0])), aI cI q1 6 (fun _ => 0), aI cI q2 6 (fun _ => 0), aI cI q3 72 (fun _ => 0), aJ cJ q4 72 (fun _ => 0)] H := hP
  have hD : va_D A [(h0, .inr (0, [.ref q1, .ref q2, .ref q3, .ref q4, .null, .null, .null, .null, .int 0, .int 0, .int 0, .long 0])), aI cI q1 6 (fun _ => 0), aI cI q2 6 (fun _ => 0), aI cI q3 72 (fun _ => 0), aJ cJ q4 72 (fun _ => 0)] := hD
  refine lv_aload_n hx hb dX0_init_36 rfl (lv_at hl 0 rfl) ?_
  refine lv_bipush (v := 8) hx hb dX0_init_37 (by decide) ?_
  refine nwI hx hb gaint hK hP hD hS hA (N := 8) (by decide) (by decide) (Nat.le_of_ble_eq_true rfl) (Nat.le_of_ble_eq_true rfl) (Nat.le_of_ble_eq_true rfl) dX0_init_39 (fun q5 H hP hD hS => ?_)
  have hP : va_P D vwCl [(h0, .inr (0, [.ref q1, .ref q2, .ref q3, .ref q4, .null, .null, .null, .null, .int 0, .int 0, .int 0, .long 0])), aI cI q1 6 (fun _ => 0), aI cI q2 6 (fun _ => 0), aI cI q3 72 (fun _ => 0), aJ cJ q4 72 (fun _ => 0), aI cI q5 8 (fun _ => 0)] H := hP
  have hD : va_D A [(h0, .inr (0, [.ref q1, .ref q2, .ref q3, .ref q4, .null, .null, .null, .null, .int 0, .int 0, .int 0, .long 0])), aI cI q1 6 (fun _ => 0), aI cI q2 6 (fun _ => 0), aI cI q3 72 (fun _ => 0), aJ cJ q4 72 (fun _ => 0), aI cI q5 8 (fun _ => 0)] := hD
  refine va_putF (D := D) (ci := 0) (v := .ref q5) (ty := .array .int) (C := RX0) (T := TX0) (N := 12) hx hb hts hI_X0 tyX0 tyX0_ok nmX0 hown hK hP hD hS 0 rfl rfl 4 (by decide) gf25 (fun _ h9 => h9) rfl hin rfl (by decide +kernel) rfl rfl (Nat.le_of_ble_eq_true rfl) dX0_init_41 (fun H locs hP hD hS => ?_)
  have hP : va_P D vwCl [(h0, .inr (0, [.ref q1, .ref q2, .ref q3, .ref q4, .ref q5, .null, .null, .null, .int 0, .int 0, .int 0, .long 0])), aI cI q1 6 (fun _ => 0), aI cI q2 6 (fun _ => 0), aI cI q3 72 (fun _ => 0), aJ cJ q4 72 (fun _ => 0), aI cI q5 8 (fun _ => 0)] H := hP
  have hD : va_D A [(h0, .inr (0, [.ref q1, .ref q2, .ref q3, .ref q4, .ref q5, .null, .null, .null, .int 0, .int 0, .int 0, .long 0])), aI cI q1 6 (fun _ => 0), aI cI q2 6 (fun _ => 0), aI cI q3 72 (fun _ => 0), aJ cJ q4 72 (fun _ => 0), aI cI q5 8 (fun _ => 0)] := hD
  refine lv_aload_n hx hb dX0_init_44 rfl (lv_at hl 0 rfl) ?_
  refine lv_iconst (v := 4) hx hb dX0_init_45 (by decide) ?_
  refine nwI hx hb gaint hK hP hD hS hA (N := 4) (by decide) (by decide) (Nat.le_of_ble_eq_true rfl) (Nat.le_of_ble_eq_true rfl) (Nat.le_of_ble_eq_true rfl) dX0_init_46 (fun q6 H hP hD hS => ?_)
  have hP : va_P D vwCl [(h0, .inr (0, [.ref q1, .ref q2, .ref q3, .ref q4, .ref q5, .null, .null, .null, .int 0, .int 0, .int 0, .long 0])), aI cI q1 6 (fun _ => 0), aI cI q2 6 (fun _ => 0), aI cI q3 72 (fun _ => 0), aJ cJ q4 72 (fun _ => 0), aI cI q5 8 (fun _ => 0), aI cI q6 4 (fun _ => 0)] H := hP
  have hD : va_D A [(h0, .inr (0, [.ref q1, .ref q2, .ref q3, .ref q4, .ref q5, .null, .null, .null, .int 0, .int 0, .int 0, .long 0])), aI cI q1 6 (fun _ => 0), aI cI q2 6 (fun _ => 0), aI cI q3 72 (fun _ => 0), aJ cJ q4 72 (fun _ => 0), aI cI q5 8 (fun _ => 0), aI cI q6 4 (fun _ => 0)] := hD
  refine va_putF (D := D) (ci := 0) (v := .ref q6) (ty := .array .int) (C := RX0) (T := TX0) (N := 12) hx hb hts hI_X0 tyX0 tyX0_ok nmX0 hown hK hP hD hS 0 rfl rfl 5 (by decide) gf28 (fun _ h9 => h9) rfl hin rfl (by decide +kernel) rfl rfl (Nat.le_of_ble_eq_true rfl) dX0_init_48 (fun H locs hP hD hS => ?_)
  have hP : va_P D vwCl [(h0, .inr (0, [.ref q1, .ref q2, .ref q3, .ref q4, .ref q5, .ref q6, .null, .null, .int 0, .int 0, .int 0, .long 0])), aI cI q1 6 (fun _ => 0), aI cI q2 6 (fun _ => 0), aI cI q3 72 (fun _ => 0), aJ cJ q4 72 (fun _ => 0), aI cI q5 8 (fun _ => 0), aI cI q6 4 (fun _ => 0)] H := hP
  have hD : va_D A [(h0, .inr (0, [.ref q1, .ref q2, .ref q3, .ref q4, .ref q5, .ref q6, .null, .null, .int 0, .int 0, .int 0, .long 0])), aI cI q1 6 (fun _ => 0), aI cI q2 6 (fun _ => 0), aI cI q3 72 (fun _ => 0), aJ cJ q4 72 (fun _ => 0), aI cI q5 8 (fun _ => 0), aI cI q6 4 (fun _ => 0)] := hD
  refine lv_aload_n hx hb dX0_init_51 rfl (lv_at hl 0 rfl) ?_
  refine lv_iconst (v := 4) hx hb dX0_init_52 (by decide) ?_
  refine nwI hx hb gaint hK hP hD hS hA (N := 4) (by decide) (by decide) (Nat.le_of_ble_eq_true rfl) (Nat.le_of_ble_eq_true rfl) (Nat.le_of_ble_eq_true rfl) dX0_init_53 (fun q7 H hP hD hS => ?_)
  have hP : va_P D vwCl [(h0, .inr (0, [.ref q1, .ref q2, .ref q3, .ref q4, .ref q5, .ref q6, .null, .null, .int 0, .int 0, .int 0, .long 0])), aI cI q1 6 (fun _ => 0), aI cI q2 6 (fun _ => 0), aI cI q3 72 (fun _ => 0), aJ cJ q4 72 (fun _ => 0), aI cI q5 8 (fun _ => 0), aI cI q6 4 (fun _ => 0), aI cI q7 4 (fun _ => 0)] H := hP
  have hD : va_D A [(h0, .inr (0, [.ref q1, .ref q2, .ref q3, .ref q4, .ref q5, .ref q6, .null, .null, .int 0, .int 0, .int 0, .long 0])), aI cI q1 6 (fun _ => 0), aI cI q2 6 (fun _ => 0), aI cI q3 72 (fun _ => 0), aJ cJ q4 72 (fun _ => 0), aI cI q5 8 (fun _ => 0), aI cI q6 4 (fun _ => 0), aI cI q7 4 (fun _ => 0)] := hD
  refine va_putF (D := D) (ci := 0) (v := .ref q7) (ty := .array .int) (C := RX0) (T := TX0) (N := 12) hx hb hts hI_X0 tyX0 tyX0_ok nmX0 hown hK hP hD hS 0 rfl rfl 6 (by decide) gf31 (fun _ h9 => h9) rfl hin rfl (by decide +kernel) rfl rfl (Nat.le_of_ble_eq_true rfl) dX0_init_55 (fun H locs hP hD hS => ?_)
  have hP : va_P D vwCl [(h0, .inr (0, [.ref q1, .ref q2, .ref q3, .ref q4, .ref q5, .ref q6, .ref q7, .null, .int 0, .int 0, .int 0, .long 0])), aI cI q1 6 (fun _ => 0), aI cI q2 6 (fun _ => 0), aI cI q3 72 (fun _ => 0), aJ cJ q4 72 (fun _ => 0), aI cI q5 8 (fun _ => 0), aI cI q6 4 (fun _ => 0), aI cI q7 4 (fun _ => 0)] H := hP
  have hD : va_D A [(h0, .inr (0, [.ref q1, .ref q2, .ref q3, .ref q4, .ref q5, .ref q6, .ref q7, .null, .int 0, .int 0, .int 0, .long 0])), aI cI q1 6 (fun _ => 0), aI cI q2 6 (fun _ => 0), aI cI q3 72 (fun _ => 0), aJ cJ q4 72 (fun _ => 0), aI cI q5 8 (fun _ => 0), aI cI q6 4 (fun _ => 0), aI cI q7 4 (fun _ => 0)] := hD
  refine lv_aload_n hx hb dX0_init_58 rfl (lv_at hl 0 rfl) ?_
  refine lv_iconst (v := 4) hx hb dX0_init_59 (by decide) ?_
  refine nwI hx hb gaint hK hP hD hS hA (N := 4) (by decide) (by decide) (Nat.le_of_ble_eq_true rfl) (Nat.le_of_ble_eq_true rfl) (Nat.le_of_ble_eq_true rfl) dX0_init_60 (fun q8 H hP hD hS => ?_)
  have hP : va_P D vwCl [(h0, .inr (0, [.ref q1, .ref q2, .ref q3, .ref q4, .ref q5, .ref q6, .ref q7, .null, .int 0, .int 0, .int 0, .long 0])), aI cI q1 6 (fun _ => 0), aI cI q2 6 (fun _ => 0), aI cI q3 72 (fun _ => 0), aJ cJ q4 72 (fun _ => 0), aI cI q5 8 (fun _ => 0), aI cI q6 4 (fun _ => 0), aI cI q7 4 (fun _ => 0), aI cI q8 4 (fun _ => 0)] H := hP
  have hD : va_D A [(h0, .inr (0, [.ref q1, .ref q2, .ref q3, .ref q4, .ref q5, .ref q6, .ref q7, .null, .int 0, .int 0, .int 0, .long 0])), aI cI q1 6 (fun _ => 0), aI cI q2 6 (fun _ => 0), aI cI q3 72 (fun _ => 0), aJ cJ q4 72 (fun _ => 0), aI cI q5 8 (fun _ => 0), aI cI q6 4 (fun _ => 0), aI cI q7 4 (fun _ => 0), aI cI q8 4 (fun _ => 0)] := hD
  refine va_putF (D := D) (ci := 0) (v := .ref q8) (ty := .array .int) (C := RX0) (T := TX0) (N := 12) hx hb hts hI_X0 tyX0 tyX0_ok nmX0 hown hK hP hD hS 0 rfl rfl 7 (by decide) gf34 (fun _ h9 => h9) rfl hin rfl (by decide +kernel) rfl rfl (Nat.le_of_ble_eq_true rfl) dX0_init_62 (fun H locs hP hD hS => ?_)
  have hP : va_P D vwCl [(h0, .inr (0, [.ref q1, .ref q2, .ref q3, .ref q4, .ref q5, .ref q6, .ref q7, .ref q8, .int 0, .int 0, .int 0, .long 0])), aI cI q1 6 (fun _ => 0), aI cI q2 6 (fun _ => 0), aI cI q3 72 (fun _ => 0), aJ cJ q4 72 (fun _ => 0), aI cI q5 8 (fun _ => 0), aI cI q6 4 (fun _ => 0), aI cI q7 4 (fun _ => 0), aI cI q8 4 (fun _ => 0)] H := hP
  have hD : va_D A [(h0, .inr (0, [.ref q1, .ref q2, .ref q3, .ref q4, .ref q5, .ref q6, .ref q7, .ref q8, .int 0, .int 0, .int 0, .long 0])), aI cI q1 6 (fun _ => 0), aI cI q2 6 (fun _ => 0), aI cI q3 72 (fun _ => 0), aJ cJ q4 72 (fun _ => 0), aI cI q5 8 (fun _ => 0), aI cI q6 4 (fun _ => 0), aI cI q7 4 (fun _ => 0), aI cI q8 4 (fun _ => 0)] := hD
  obtain ⟨b, hb0, e1, e2, e3, e4, e5, e6, e7, e8⟩ : ∃ b : Nat → Nat, b 0 = h0 ∧ b 1 = q1 ∧ b 2 = q2 ∧ b 3 = q3 ∧ b 4 = q4 ∧ b 5 = q5 ∧ b 6 = q6 ∧ b 7 = q7 ∧ b 8 = q8 := ⟨fun k => ([h0, q1, q2, q3, q4, q5, q6, q7, q8] : List Nat).getD k 0, rfl, rfl, rfl, rfl, rfl, rfl, rfl, rfl, rfl⟩
  have hP : va_P D vwCl [oX0 b 0 0 0 0, aI cI (b 1) 6 (fun _ => 0), aI cI (b 2) 6 (fun _ => 0), aI cI (b 3) 72 (fun _ => 0), aJ cJ (b 4) 72 (fun _ => 0), aI cI (b 5) 8 (fun _ => 0), aI cI (b 6) 4 (fun _ => 0), aI cI (b 7) 4 (fun _ => 0), aI cI (b 8) 4 (fun _ => 0)] H := by subst hb0 e1 e2 e3 e4 e5 e6 e7 e8; exact hP
  have hD : va_D A [oX0 b 0 0 0 0, aI cI (b 1) 6 (fun _ => 0), aI cI (b 2) 6 (fun _ => 0), aI cI (b 3) 72 (fun _ => 0), aJ cJ (b 4) 72 (fun _ => 0), aI cI (b 5) 8 (fun _ => 0), aI cI (b 6) 4 (fun _ => 0), aI cI (b 7) 4 (fun _ => 0), aI cI (b 8) 4 (fun _ => 0)] := by subst hb0 e1 e2 e3 e4 e5 e6 e7 e8; exact hD
  refine W.widen (k := 8) (n := 176) (by decide) (by decide) ?_
  have hl : lv_has ls 2 [(0, .ref (b 0))] := by rw [hb0]; exact hl
  have W67 : ∀ (n : Nat) (v1 : Int32) (b_kinds : Nat → Int32) (b_sizes : Nat → Int32) (b_sorts : Nat → Int32) (b_numbers : Nat → Int64) (b_weights : Nat → Int32) (b_keySlots : Nat → Int32) (b_keyBys : Nat → Int32) (b_keyWays : Nat → Int32) (b_keyCount : Int32) (b_sheetSet : Int32) (b_handSort : Int32) (b_handNumber : Int64) (H : Heap) (locs : List Loc) (ls : Array Slot) (z : (Nat → Int32)), va_P D vwCl [oX0 b b_keyCount b_sheetSet b_handSort b_handNumber, aI cI (b 1) 6 b_kinds, aI cI (b 2) 6 b_sizes, aI cI (b 3) 72 b_sorts, aJ cJ (b 4) 72 b_numbers, aI cI (b 5) 8 b_weights, aI cI (b 6) 4 b_keySlots, aI cI (b 7) 4 b_keyBys, aI cI (b 8) 4 b_keyWays] H → va_S A s.heap H locs → lv_has ls 2 [(0, .ref (b 0)), (1, .int v1)] → L_X0_init_67 n v1 b_kinds = some z → (∀ (H : Heap) (locs : List Loc) (ls : Array Slot), va_P D vwCl [oX0 b b_keyCount b_sheetSet b_handSort b_handNumber, aI cI (b 1) 6 z, aI cI (b 2) 6 b_sizes, aI cI (b 3) 72 b_sorts, aJ cJ (b 4) 72 b_numbers, aI cI (b 5) 8 b_weights, aI cI (b 6) 4 b_keySlots, aI cI (b 7) 4 b_keyBys, aI cI (b 8) 4 b_keyWays] H → va_S A s.heap H locs → lv_has ls 2 [(0, .ref (b 0))] → W p l e { frames := 1, cells := 8, slots := 176, locals := 20 } s m args below meth c H locs 8 176 (MQ below (QnV D h0 zr (fun b u => [oX0 b u.2.2.2.2.2.2.2.2.1 u.2.2.2.2.2.2.2.2.2.1 u.2.2.2.2.2.2.2.2.2.2.1 u.2.2.2.2.2.2.2.2.2.2.2, aI cI (b 1) 6 u.1, aI cI (b 2) 6 u.2.1, aI cI (b 3) 72 u.2.2.1, aJ cJ (b 4) 72 u.2.2.2.1, aI cI (b 5) 8 u.2.2.2.2.1, aI cI (b 6) 4 u.2.2.2.2.2.1, aI cI (b 7) 4 u.2.2.2.2.2.2.1, aI cI (b 8) 4 u.2.2.2.2.2.2.2.1]) A) args s 8 176 A) (F0 m 87 ls [])) → W p l e { frames := 1, cells := 8, slots := 176, locals := 20 } s m args below meth c H locs 8 176 (MQ below (QnV D h0 zr (fun b u => [oX0 b u.2.2.2.2.2.2.2.2.1 u.2.2.2.2.2.2.2.2.2.1 u.2.2.2.2.2.2.2.2.2.2.1 u.2.2.2.2.2.2.2.2.2.2.2, aI cI (b 1) 6 u.1, aI cI (b 2) 6 u.2.1, aI cI (b 3) 72 u.2.2.1, aJ cJ (b 4) 72 u.2.2.2.1, aI cI (b 5) 8 u.2.2.2.2.1, aI cI (b 6) 4 u.2.2.2.2.2.1, aI cI (b 7) 4 u.2.2.2.2.2.2.1, aI cI (b 8) 4 u.2.2.2.2.2.2.2.1]) A) args s 8 176 A) (F0 m 67 ls []) := by
    intro n
    induction n with
    | zero =>
      intro v1 b_kinds b_sizes b_sorts b_numbers b_weights b_keySlots b_keyBys b_keyWays b_keyCount b_sheetSet b_handSort b_handNumber H locs ls z hP hS hl hf
      exact absurd (show (none : Option ((Nat → Int32))) = some z from hf) (fun h => by cases h)
    | succ n ih =>
      intro v1 b_kinds b_sizes b_sorts b_numbers b_weights b_keySlots b_keyBys b_keyWays b_keyCount b_sheetSet b_handSort b_handNumber H locs ls z hP hS hl hf K
      rw [L_X0_init_67] at hf
      refine lv_iload_n hx hb dX0_init_67 rfl (lv_at hl 1 rfl) ?_
      refine lv_bipush (v := 6) hx hb dX0_init_68 (by decide) ?_
      refine lv_icmp_ge (tgt := 87) hx hb dX0_init_70 (by decide) (fun c1 => ?_) (fun c1 => ?_)
      · replace hf := oif c1 hf
        have hf := Option.some.inj hf
        subst hf
        exact K H locs ls hP hS (lv_sub hl [0] rfl)
      · replace hf := oel c1 hf
        refine lv_aload_n hx hb dX0_init_73 rfl (lv_at hl 0 rfl) ?_
        refine va_get (D := D) (ci := 0) (v := .ref (b 1)) (C := RX0) (T := TX0) (N := 12) hx hb hts hI_X0 hown hK hP 0 rfl rfl 0 (by decide) gf9 (fun _ h9 => h9) rfl dX0_init_74 ?_
        refine lv_iload_n hx hb dX0_init_77 rfl (lv_at hl 1 rfl) ?_
        refine lv_bipush (v := 14) hx hb dX0_init_78 (by decide) ?_
        obtain ⟨h2, hf⟩ := ogd hf
        refine va_iast hx hb hK hP (hD.addr rfl) hS 1 0 rfl rfl (ib_in h2) dX0_init_80 (fun H locs hP _ hS => ?_)
        obtain ⟨h2a, eh2a⟩ : ∃ y : Nat → Int32, y = upd b_kinds v1.toNatClampNeg 14 := ⟨_, rfl⟩
        replace hf := onm eh2a hf
        have hP : va_P D vwCl [oX0 b b_keyCount b_sheetSet b_handSort b_handNumber, aI cI (b 1) 6 h2a, aI cI (b 2) 6 b_sizes, aI cI (b 3) 72 b_sorts, aJ cJ (b 4) 72 b_numbers, aI cI (b 5) 8 b_weights, aI cI (b 6) 4 b_keySlots, aI cI (b 7) 4 b_keyBys, aI cI (b 8) 4 b_keyWays] H := by rw [eh2a]; exact hP
        obtain ⟨y3, ey3⟩ : ∃ y : Int32, y = v1 + 1 := ⟨_, rfl⟩
        replace hf := onm ey3 hf
        refine lv_iinc (v := y3) (lv' := [(1, .int y3), (0, .ref (b 0))]) hx hb dX0_init_81 hl (k := 1) rfl (by rw [ey3]; rfl) (by decide) rfl (fun ls hl => ?_)
        refine lv_goto (tgt := 67) hx hb dX0_init_84 (by decide) ?_
        exact ih y3 h2a b_sizes b_sorts b_numbers b_weights b_keySlots b_keyBys b_keyWays b_keyCount b_sheetSet b_handSort b_handNumber H locs ls z hP hS (lv_sub hl [1, 0] rfl) hf K
  have W89 : ∀ (n : Nat) (v1 : Int32) (b_kinds : Nat → Int32) (b_sizes : Nat → Int32) (b_sorts : Nat → Int32) (b_numbers : Nat → Int64) (b_weights : Nat → Int32) (b_keySlots : Nat → Int32) (b_keyBys : Nat → Int32) (b_keyWays : Nat → Int32) (b_keyCount : Int32) (b_sheetSet : Int32) (b_handSort : Int32) (b_handNumber : Int64) (H : Heap) (locs : List Loc) (ls : Array Slot) (z : (Nat → Int32)), va_P D vwCl [oX0 b b_keyCount b_sheetSet b_handSort b_handNumber, aI cI (b 1) 6 b_kinds, aI cI (b 2) 6 b_sizes, aI cI (b 3) 72 b_sorts, aJ cJ (b 4) 72 b_numbers, aI cI (b 5) 8 b_weights, aI cI (b 6) 4 b_keySlots, aI cI (b 7) 4 b_keyBys, aI cI (b 8) 4 b_keyWays] H → va_S A s.heap H locs → lv_has ls 2 [(0, .ref (b 0)), (1, .int v1)] → L_X0_init_89 n v1 b_weights = some z → (∀ (H : Heap) (locs : List Loc) (ls : Array Slot), va_P D vwCl [oX0 b b_keyCount b_sheetSet b_handSort b_handNumber, aI cI (b 1) 6 b_kinds, aI cI (b 2) 6 b_sizes, aI cI (b 3) 72 b_sorts, aJ cJ (b 4) 72 b_numbers, aI cI (b 5) 8 z, aI cI (b 6) 4 b_keySlots, aI cI (b 7) 4 b_keyBys, aI cI (b 8) 4 b_keyWays] H → va_S A s.heap H locs → lv_has ls 2 [(0, .ref (b 0))] → W p l e { frames := 1, cells := 8, slots := 176, locals := 20 } s m args below meth c H locs 8 176 (MQ below (QnV D h0 zr (fun b u => [oX0 b u.2.2.2.2.2.2.2.2.1 u.2.2.2.2.2.2.2.2.2.1 u.2.2.2.2.2.2.2.2.2.2.1 u.2.2.2.2.2.2.2.2.2.2.2, aI cI (b 1) 6 u.1, aI cI (b 2) 6 u.2.1, aI cI (b 3) 72 u.2.2.1, aJ cJ (b 4) 72 u.2.2.2.1, aI cI (b 5) 8 u.2.2.2.2.1, aI cI (b 6) 4 u.2.2.2.2.2.1, aI cI (b 7) 4 u.2.2.2.2.2.2.1, aI cI (b 8) 4 u.2.2.2.2.2.2.2.1]) A) args s 8 176 A) (F0 m 110 ls [])) → W p l e { frames := 1, cells := 8, slots := 176, locals := 20 } s m args below meth c H locs 8 176 (MQ below (QnV D h0 zr (fun b u => [oX0 b u.2.2.2.2.2.2.2.2.1 u.2.2.2.2.2.2.2.2.2.1 u.2.2.2.2.2.2.2.2.2.2.1 u.2.2.2.2.2.2.2.2.2.2.2, aI cI (b 1) 6 u.1, aI cI (b 2) 6 u.2.1, aI cI (b 3) 72 u.2.2.1, aJ cJ (b 4) 72 u.2.2.2.1, aI cI (b 5) 8 u.2.2.2.2.1, aI cI (b 6) 4 u.2.2.2.2.2.1, aI cI (b 7) 4 u.2.2.2.2.2.2.1, aI cI (b 8) 4 u.2.2.2.2.2.2.2.1]) A) args s 8 176 A) (F0 m 89 ls []) := by
    intro n
    induction n with
    | zero =>
      intro v1 b_kinds b_sizes b_sorts b_numbers b_weights b_keySlots b_keyBys b_keyWays b_keyCount b_sheetSet b_handSort b_handNumber H locs ls z hP hS hl hf
      exact absurd (show (none : Option ((Nat → Int32))) = some z from hf) (fun h => by cases h)
    | succ n ih =>
      intro v1 b_kinds b_sizes b_sorts b_numbers b_weights b_keySlots b_keyBys b_keyWays b_keyCount b_sheetSet b_handSort b_handNumber H locs ls z hP hS hl hf K
      rw [L_X0_init_89] at hf
      refine lv_iload_n hx hb dX0_init_89 rfl (lv_at hl 1 rfl) ?_
      refine lv_bipush (v := 8) hx hb dX0_init_90 (by decide) ?_
      refine lv_icmp_ge (tgt := 110) hx hb dX0_init_92 (by decide) (fun c5 => ?_) (fun c5 => ?_)
      · replace hf := oif c5 hf
        have hf := Option.some.inj hf
        subst hf
        exact K H locs ls hP hS (lv_sub hl [0] rfl)
      · replace hf := oel c5 hf
        refine lv_aload_n hx hb dX0_init_95 rfl (lv_at hl 0 rfl) ?_
        refine va_get (D := D) (ci := 0) (v := .ref (b 5)) (C := RX0) (T := TX0) (N := 12) hx hb hts hI_X0 hown hK hP 0 rfl rfl 4 (by decide) gf25 (fun _ h9 => h9) rfl dX0_init_96 ?_
        refine lv_iload_n hx hb dX0_init_99 rfl (lv_at hl 1 rfl) ?_
        refine lv_iload_n hx hb dX0_init_100 rfl (lv_at hl 1 rfl) ?_
        refine lv_iconst (v := 2) hx hb dX0_init_101 (by decide) ?_
        refine lv_idiv hx hb dX0_init_102 (by decide) ?_
        obtain ⟨h7, hf⟩ := ogd hf
        refine va_iast hx hb hK hP (hD.addr rfl) hS 5 0 rfl rfl (ib_in h7) dX0_init_103 (fun H locs hP _ hS => ?_)
        obtain ⟨h7a, eh7a⟩ : ∃ y : Nat → Int32, y = upd b_weights v1.toNatClampNeg (v1 / (2 : Int32)) := ⟨_, rfl⟩
        replace hf := onm eh7a hf
        have hP : va_P D vwCl [oX0 b b_keyCount b_sheetSet b_handSort b_handNumber, aI cI (b 1) 6 b_kinds, aI cI (b 2) 6 b_sizes, aI cI (b 3) 72 b_sorts, aJ cJ (b 4) 72 b_numbers, aI cI (b 5) 8 h7a, aI cI (b 6) 4 b_keySlots, aI cI (b 7) 4 b_keyBys, aI cI (b 8) 4 b_keyWays] H := by rw [eh7a]; exact hP
        obtain ⟨y8, ey8⟩ : ∃ y : Int32, y = v1 + 1 := ⟨_, rfl⟩
        replace hf := onm ey8 hf
        refine lv_iinc (v := y8) (lv' := [(1, .int y8), (0, .ref (b 0))]) hx hb dX0_init_104 hl (k := 1) rfl (by rw [ey8]; rfl) (by decide) rfl (fun ls hl => ?_)
        refine lv_goto (tgt := 89) hx hb dX0_init_107 (by decide) ?_
        exact ih y8 b_kinds b_sizes b_sorts b_numbers h7a b_keySlots b_keyBys b_keyWays b_keyCount b_sheetSet b_handSort b_handNumber H locs ls z hP hS (lv_sub hl [1, 0] rfl) hf K
  refine lv_iconst (v := 0) hx hb dX0_init_65 (by decide) ?_
  refine lv_istore_n (lv' := [(1, .int 0), (0, .ref (b 0))]) hx hb dX0_init_66 rfl hl (by decide) rfl (fun ls hl => ?_)
  obtain ⟨z4, hz4, hf⟩ := obd hf
  refine W67 4000 0 (fun _ => 0) (fun _ => 0) (fun _ => 0) (fun _ => 0) (fun _ => 0) (fun _ => 0) (fun _ => 0) (fun _ => 0) 0 0 0 0 H locs ls z4 hP hS (lv_sub hl [1, 0] rfl) hz4 (fun H locs ls hP hS hl => ?_)
  refine lv_iconst (v := 0) hx hb dX0_init_87 (by decide) ?_
  refine lv_istore_n (lv' := [(1, .int 0), (0, .ref (b 0))]) hx hb dX0_init_88 rfl hl (by decide) rfl (fun ls hl => ?_)
  obtain ⟨z9, hz9, hf⟩ := obd hf
  refine W89 4000 0 z4 (fun _ => 0) (fun _ => 0) (fun _ => 0) (fun _ => 0) (fun _ => 0) (fun _ => 0) (fun _ => 0) 0 0 0 0 H locs ls z9 hP hS (lv_sub hl [1, 0] rfl) hz9 (fun H locs ls hP hS hl => ?_)
  refine lv_aload_n hx hb dX0_init_110 rfl (lv_at hl 0 rfl) ?_
  refine lv_bipush (v := 9) hx hb dX0_init_111 (by decide) ?_
  refine va_put (D := D) (ci := 0) (v := .int 9) (ty := .int) (C := RX0) (T := TX0) (N := 12) hx hb hts hI_X0 tyX0 tyX0_ok nmX0 hown hK hP (hD.addr rfl) hS 0 rfl rfl 10 (by decide) gf37 (fun _ h9 => h9) rfl (by decide +kernel) rfl rfl (Nat.le_of_ble_eq_true rfl) dX0_init_113 (fun H locs hP _ hS => ?_)
  have hP : va_P D vwCl [oX0 b 0 0 9 0, aI cI (b 1) 6 z4, aI cI (b 2) 6 (fun _ => 0), aI cI (b 3) 72 (fun _ => 0), aJ cJ (b 4) 72 (fun _ => 0), aI cI (b 5) 8 z9, aI cI (b 6) 4 (fun _ => 0), aI cI (b 7) 4 (fun _ => 0), aI cI (b 8) 4 (fun _ => 0)] H := hP
  have er := Option.some.inj hf
  exact rInit (b := b) (wm := (fun b u => [oX0 b u.2.2.2.2.2.2.2.2.1 u.2.2.2.2.2.2.2.2.2.1 u.2.2.2.2.2.2.2.2.2.2.1 u.2.2.2.2.2.2.2.2.2.2.2, aI cI (b 1) 6 u.1, aI cI (b 2) 6 u.2.1, aI cI (b 3) 72 u.2.2.1, aJ cJ (b 4) 72 u.2.2.2.1, aI cI (b 5) 8 u.2.2.2.2.1, aI cI (b 6) 4 u.2.2.2.2.2.1, aI cI (b 7) 4 u.2.2.2.2.2.2.1, aI cI (b 8) 4 u.2.2.2.2.2.2.2.1])) hx hb hr hS dX0_init_116 hP (hD.addr rfl) er hb0 hlocks
noncomputable def f_X1_init : Option ((Nat → Int32) × (Nat → Int32) × Int32) := some (((fun _ => 0), (fun _ => 0), 0))
set_option maxHeartbeats 4000000 in
set_option maxRecDepth 100000 in
theorem c_X1_init (l : Launch) (D : va_G) (cI cJ cZ cQ : ClassId) (bs sz : Nat) (h0 : Nat) (zr : (Nat → Int32) × (Nat → Int32) × Int32) (hf : f_X1_init = some zr) : Met l yX1_init wsX1_init { frames := 1, cells := 2, slots := 40, locals := 20 } (va_Pc [.ref h0] (Pr D cI cJ cZ cQ bs sz [(h0, .inr (1, [.null, .null, .int 0]))])) (QnV D h0 zr (fun k u => [oX1 k u.2.2, aI cI (k 1) 20 u.1, aI cI (k 2) 20 u.2.1]) (va_A [(h0, .inr (1, [.null, .null, .int 0]))] sz)) 2 40 (va_A [(h0, .inr (1, [.null, .null, .int 0]))] sz) := by
  refine stW (cc := cX1_init) (maxL := 1) (ret := none) (Qf := fun A => QnV D h0 zr (fun k u => [oX1 k u.2.2, aI cI (k 1) 20 u.1, aI cI (k 2) 20 u.2.1]) A) (by decide +kernel) rfl (Nat.le_of_ble_eq_true rfl) ?_
  intro p e s m args below meth c A C0 hr hlocks hin hsz hP hD hA hAb hE ls hl
  have hin : meth.name = "<init>" := hin
  obtain ⟨hx, hb, hml, hown, hts⟩ := id C0
  have hown : s.vm.findClass RX1 = some m.cls := hown
  obtain ⟨hK, hNW, -, tw, hZ, hT⟩ := id hE
  have hl : lv_has ls 1 [(0, .ref h0)] := hl
  have hS : va_S A s.heap s.heap [] := va_S.rf
  have hI_X1 := (show ∀ w ∈ wsX10, w ∈ wsX1_init by decide +kernel)
  have gl3 := hts (.methodLink RX1 3 objectInit) (by decide +kernel)
  have go2 := hts (.instanceMethod objectInit) (by decide +kernel)
  have go3 := hts (.code objectInit ⟨#[0xb1]⟩ 1 none) (by decide +kernel)
  have gaint := hts (.arrayClass .int) (by decide +kernel)
  have gf9 := hts (.fieldLink RX1 9 "RowRanks$Book" "places" "[I") (by decide +kernel)
  have gf15 := hts (.fieldLink RX1 15 "RowRanks$Book" "positions" "[I") (by decide +kernel)
  unfold f_X1_init at hf
  refine lv_aload_n hx hb dX1_init_0 rfl (lv_at hl 0 rfl) ?_
  refine W.objInit hx hb hown gl3 go2 go3 rfl (by rw [hml]; exact hl.1) rfl dX1_init_1 (Nat.le_of_ble_eq_true rfl) (Nat.le_of_ble_eq_true rfl) ?_
  refine W.eq (g2 := F0 m 4 ls []) rfl ?_
  refine lv_aload_n hx hb dX1_init_4 rfl (lv_at hl 0 rfl) ?_
  refine lv_bipush (v := 20) hx hb dX1_init_5 (by decide) ?_
  refine nwI hx hb gaint hK hP hD hS hA (N := 20) (by decide) (by decide) (Nat.le_of_ble_eq_true rfl) (Nat.le_of_ble_eq_true rfl) (Nat.le_of_ble_eq_true rfl) dX1_init_7 (fun q1 H hP hD hS => ?_)
  have hP : va_P D vwCl [(h0, .inr (1, [.null, .null, .int 0])), aI cI q1 20 (fun _ => 0)] H := hP
  have hD : va_D A [(h0, .inr (1, [.null, .null, .int 0])), aI cI q1 20 (fun _ => 0)] := hD
  refine va_putF (D := D) (ci := 1) (v := .ref q1) (ty := .array .int) (C := RX1) (T := TX1) (N := 3) hx hb hts hI_X1 tyX1 tyX1_ok nmX1 hown hK hP hD hS 0 rfl rfl 0 (by decide) gf9 (fun _ h9 => h9) rfl hin rfl (by decide +kernel) rfl rfl (Nat.le_of_ble_eq_true rfl) dX1_init_9 (fun H locs hP hD hS => ?_)
  have hP : va_P D vwCl [(h0, .inr (1, [.ref q1, .null, .int 0])), aI cI q1 20 (fun _ => 0)] H := hP
  have hD : va_D A [(h0, .inr (1, [.ref q1, .null, .int 0])), aI cI q1 20 (fun _ => 0)] := hD
  refine lv_aload_n hx hb dX1_init_12 rfl (lv_at hl 0 rfl) ?_
  refine lv_bipush (v := 20) hx hb dX1_init_13 (by decide) ?_
  refine nwI hx hb gaint hK hP hD hS hA (N := 20) (by decide) (by decide) (Nat.le_of_ble_eq_true rfl) (Nat.le_of_ble_eq_true rfl) (Nat.le_of_ble_eq_true rfl) dX1_init_15 (fun q2 H hP hD hS => ?_)
  have hP : va_P D vwCl [(h0, .inr (1, [.ref q1, .null, .int 0])), aI cI q1 20 (fun _ => 0), aI cI q2 20 (fun _ => 0)] H := hP
  have hD : va_D A [(h0, .inr (1, [.ref q1, .null, .int 0])), aI cI q1 20 (fun _ => 0), aI cI q2 20 (fun _ => 0)] := hD
  refine va_putF (D := D) (ci := 1) (v := .ref q2) (ty := .array .int) (C := RX1) (T := TX1) (N := 3) hx hb hts hI_X1 tyX1 tyX1_ok nmX1 hown hK hP hD hS 0 rfl rfl 1 (by decide) gf15 (fun _ h9 => h9) rfl hin rfl (by decide +kernel) rfl rfl (Nat.le_of_ble_eq_true rfl) dX1_init_17 (fun H locs hP hD hS => ?_)
  have hP : va_P D vwCl [(h0, .inr (1, [.ref q1, .ref q2, .int 0])), aI cI q1 20 (fun _ => 0), aI cI q2 20 (fun _ => 0)] H := hP
  have hD : va_D A [(h0, .inr (1, [.ref q1, .ref q2, .int 0])), aI cI q1 20 (fun _ => 0), aI cI q2 20 (fun _ => 0)] := hD
  obtain ⟨k, hb0, e1, e2⟩ : ∃ b : Nat → Nat, b 0 = h0 ∧ b 1 = q1 ∧ b 2 = q2 := ⟨fun k => ([h0, q1, q2] : List Nat).getD k 0, rfl, rfl, rfl⟩
  have hP : va_P D vwCl [oX1 k 0, aI cI (k 1) 20 (fun _ => 0), aI cI (k 2) 20 (fun _ => 0)] H := by subst hb0 e1 e2; exact hP
  have hD : va_D A [oX1 k 0, aI cI (k 1) 20 (fun _ => 0), aI cI (k 2) 20 (fun _ => 0)] := by subst hb0 e1 e2; exact hD
  refine W.widen (k := 2) (n := 40) (by decide) (by decide) ?_
  have hl : lv_has ls 1 [(0, .ref (k 0))] := by rw [hb0]; exact hl
  have er := Option.some.inj hf
  exact rInit (b := k) (wm := (fun k u => [oX1 k u.2.2, aI cI (k 1) 20 u.1, aI cI (k 2) 20 u.2.1])) hx hb hr hS dX1_init_20 hP (hD.addr rfl) er hb0 hlocks
noncomputable def f_X2_init : Option ((Nat → Option Nat) × Int32 × Int32) := some (((fun _ => none), 0, 0))
set_option maxHeartbeats 4000000 in
set_option maxRecDepth 100000 in
theorem c_X2_init (l : Launch) (D : va_G) (cI cJ cZ cQ : ClassId) (bs sz : Nat) (h0 : Nat) (zr : (Nat → Option Nat) × Int32 × Int32) (hf : f_X2_init = some zr) : Met l yX2_init wsX2_init { frames := 1, cells := 1, slots := 16, locals := 20 } (va_Pc [.ref h0] (Pr D cI cJ cZ cQ bs sz [(h0, .inr (2, [.null, .int 0, .int 0]))])) (QnV D h0 zr (fun h u => [oX2 h u.2.1 u.2.2, aQ cQ (h 1) 16 u.1]) (va_A [(h0, .inr (2, [.null, .int 0, .int 0]))] sz)) 1 16 (va_A [(h0, .inr (2, [.null, .int 0, .int 0]))] sz) := by
  refine stW (cc := cX2_init) (maxL := 1) (ret := none) (Qf := fun A => QnV D h0 zr (fun h u => [oX2 h u.2.1 u.2.2, aQ cQ (h 1) 16 u.1]) A) (by decide +kernel) rfl (Nat.le_of_ble_eq_true rfl) ?_
  intro p e s m args below meth c A C0 hr hlocks hin hsz hP hD hA hAb hE ls hl
  have hin : meth.name = "<init>" := hin
  obtain ⟨hx, hb, hml, hown, hts⟩ := id C0
  have hown : s.vm.findClass RX2 = some m.cls := hown
  obtain ⟨hK, hNW, -, tw, hZ, hT⟩ := id hE
  have hl : lv_has ls 1 [(0, .ref h0)] := hl
  have hS : va_S A s.heap s.heap [] := va_S.rf
  have hI_X2 := (show ∀ w ∈ wsX20, w ∈ wsX2_init by decide +kernel)
  have gl3 := hts (.methodLink RX2 3 objectInit) (by decide +kernel)
  have go2 := hts (.instanceMethod objectInit) (by decide +kernel)
  have go3 := hts (.code objectInit ⟨#[0xb1]⟩ 1 none) (by decide +kernel)
  have gc9 := hts (.classLink RX2 9 RX0) (by decide +kernel)
  have gf11 := hts (.fieldLink RX2 11 "RowRanks$History" "before" "[LRowRanks$Bench;") (by decide +kernel)
  unfold f_X2_init at hf
  refine lv_aload_n hx hb dX2_init_0 rfl (lv_at hl 0 rfl) ?_
  refine W.objInit hx hb hown gl3 go2 go3 rfl (by rw [hml]; exact hl.1) rfl dX2_init_1 (Nat.le_of_ble_eq_true rfl) (Nat.le_of_ble_eq_true rfl) ?_
  refine W.eq (g2 := F0 m 4 ls []) rfl ?_
  refine lv_aload_n hx hb dX2_init_4 rfl (lv_at hl 0 rfl) ?_
  refine lv_bipush (v := 16) hx hb dX2_init_5 (by decide) ?_
  refine nwQ hx hb hown gc9 hE.2.2.1.2 hK hP hD hS hA (N := 16) (by decide) (by decide) (Nat.le_of_ble_eq_true rfl) (Nat.le_of_ble_eq_true rfl) (Nat.le_of_ble_eq_true rfl) dX2_init_7 (fun q1 H hP hD hS => ?_)
  have hP : va_P D vwCl [(h0, .inr (2, [.null, .int 0, .int 0])), aQ cQ q1 16 (fun _ => none)] H := hP
  have hD : va_D A [(h0, .inr (2, [.null, .int 0, .int 0])), aQ cQ q1 16 (fun _ => none)] := hD
  refine va_putF (D := D) (ci := 2) (v := .ref q1) (ty := .array (.object "RowRanks$Bench")) (C := RX2) (T := TX2) (N := 3) hx hb hts hI_X2 tyX2 tyX2_ok nmX2 hown hK hP hD hS 0 rfl rfl 0 (by decide) gf11 (fun _ h9 => h9) rfl hin rfl (by decide +kernel) rfl rfl (Nat.le_of_ble_eq_true rfl) dX2_init_10 (fun H locs hP hD hS => ?_)
  have hP : va_P D vwCl [(h0, .inr (2, [.ref q1, .int 0, .int 0])), aQ cQ q1 16 (fun _ => none)] H := hP
  have hD : va_D A [(h0, .inr (2, [.ref q1, .int 0, .int 0])), aQ cQ q1 16 (fun _ => none)] := hD
  obtain ⟨h, hb0, e1⟩ : ∃ b : Nat → Nat, b 0 = h0 ∧ b 1 = q1 := ⟨fun k => ([h0, q1] : List Nat).getD k 0, rfl, rfl⟩
  have hP : va_P D vwCl [oX2 h 0 0, aQ cQ (h 1) 16 (fun _ => none)] H := by subst hb0 e1; exact hP
  have hD : va_D A [oX2 h 0 0, aQ cQ (h 1) 16 (fun _ => none)] := by subst hb0 e1; exact hD
  refine W.widen (k := 1) (n := 16) (by decide) (by decide) ?_
  have hl : lv_has ls 1 [(0, .ref (h 0))] := by rw [hb0]; exact hl
  have er := Option.some.inj hf
  exact rInit (b := h) (wm := (fun h u => [oX2 h u.2.1 u.2.2, aQ cQ (h 1) 16 u.1])) hx hb hr hS dX2_init_13 hP (hD.addr rfl) er hb0 hlocks
noncomputable def f_X3_init : Option ((Nat → Int32) × (Nat → Int32) × (Nat → Int64) × Int32) := some (((fun _ => 0), (fun _ => 0), (fun _ => 0), 0))
set_option maxHeartbeats 4000000 in
set_option maxRecDepth 100000 in
theorem c_X3_init (l : Launch) (D : va_G) (cI cJ cZ cQ : ClassId) (bs sz : Nat) (h0 : Nat) (zr : (Nat → Int32) × (Nat → Int32) × (Nat → Int64) × Int32) (hf : f_X3_init = some zr) : Met l yX3_init wsX3_init { frames := 1, cells := 3, slots := 36, locals := 20 } (va_Pc [.ref h0] (Pr D cI cJ cZ cQ bs sz [(h0, .inr (3, [.null, .null, .null, .int 0]))])) (QnV D h0 zr (fun v u => [oX3 v u.2.2.2, aI cI (v 1) 12 u.1, aI cI (v 2) 12 u.2.1, aJ cJ (v 3) 12 u.2.2.1]) (va_A [(h0, .inr (3, [.null, .null, .null, .int 0]))] sz)) 3 36 (va_A [(h0, .inr (3, [.null, .null, .null, .int 0]))] sz) := by
  refine stW (cc := cX3_init) (maxL := 1) (ret := none) (Qf := fun A => QnV D h0 zr (fun v u => [oX3 v u.2.2.2, aI cI (v 1) 12 u.1, aI cI (v 2) 12 u.2.1, aJ cJ (v 3) 12 u.2.2.1]) A) (by decide +kernel) rfl (Nat.le_of_ble_eq_true rfl) ?_
  intro p e s m args below meth c A C0 hr hlocks hin hsz hP hD hA hAb hE ls hl
  have hin : meth.name = "<init>" := hin
  obtain ⟨hx, hb, hml, hown, hts⟩ := id C0
  have hown : s.vm.findClass RX3 = some m.cls := hown
  obtain ⟨hK, hNW, -, tw, hZ, hT⟩ := id hE
  have hl : lv_has ls 1 [(0, .ref h0)] := hl
  have hS : va_S A s.heap s.heap [] := va_S.rf
  have hI_X3 := (show ∀ w ∈ wsX30, w ∈ wsX3_init by decide +kernel)
  have gl3 := hts (.methodLink RX3 3 objectInit) (by decide +kernel)
  have go2 := hts (.instanceMethod objectInit) (by decide +kernel)
  have go3 := hts (.code objectInit ⟨#[0xb1]⟩ 1 none) (by decide +kernel)
  have gaint := hts (.arrayClass .int) (by decide +kernel)
  have gf9 := hts (.fieldLink RX3 9 "RowRanks$Moves" "from" "[I") (by decide +kernel)
  have gf15 := hts (.fieldLink RX3 15 "RowRanks$Moves" "oldSorts" "[I") (by decide +kernel)
  have galong := hts (.arrayClass .long) (by decide +kernel)
  have gf18 := hts (.fieldLink RX3 18 "RowRanks$Moves" "oldNumbers" "[J") (by decide +kernel)
  unfold f_X3_init at hf
  refine lv_aload_n hx hb dX3_init_0 rfl (lv_at hl 0 rfl) ?_
  refine W.objInit hx hb hown gl3 go2 go3 rfl (by rw [hml]; exact hl.1) rfl dX3_init_1 (Nat.le_of_ble_eq_true rfl) (Nat.le_of_ble_eq_true rfl) ?_
  refine W.eq (g2 := F0 m 4 ls []) rfl ?_
  refine lv_aload_n hx hb dX3_init_4 rfl (lv_at hl 0 rfl) ?_
  refine lv_bipush (v := 12) hx hb dX3_init_5 (by decide) ?_
  refine nwI hx hb gaint hK hP hD hS hA (N := 12) (by decide) (by decide) (Nat.le_of_ble_eq_true rfl) (Nat.le_of_ble_eq_true rfl) (Nat.le_of_ble_eq_true rfl) dX3_init_7 (fun q1 H hP hD hS => ?_)
  have hP : va_P D vwCl [(h0, .inr (3, [.null, .null, .null, .int 0])), aI cI q1 12 (fun _ => 0)] H := hP
  have hD : va_D A [(h0, .inr (3, [.null, .null, .null, .int 0])), aI cI q1 12 (fun _ => 0)] := hD
  refine va_putF (D := D) (ci := 3) (v := .ref q1) (ty := .array .int) (C := RX3) (T := TX3) (N := 4) hx hb hts hI_X3 tyX3 tyX3_ok nmX3 hown hK hP hD hS 0 rfl rfl 0 (by decide) gf9 (fun _ h9 => h9) rfl hin rfl (by decide +kernel) rfl rfl (Nat.le_of_ble_eq_true rfl) dX3_init_9 (fun H locs hP hD hS => ?_)
  have hP : va_P D vwCl [(h0, .inr (3, [.ref q1, .null, .null, .int 0])), aI cI q1 12 (fun _ => 0)] H := hP
  have hD : va_D A [(h0, .inr (3, [.ref q1, .null, .null, .int 0])), aI cI q1 12 (fun _ => 0)] := hD
  refine lv_aload_n hx hb dX3_init_12 rfl (lv_at hl 0 rfl) ?_
  refine lv_bipush (v := 12) hx hb dX3_init_13 (by decide) ?_
  refine nwI hx hb gaint hK hP hD hS hA (N := 12) (by decide) (by decide) (Nat.le_of_ble_eq_true rfl) (Nat.le_of_ble_eq_true rfl) (Nat.le_of_ble_eq_true rfl) dX3_init_15 (fun q2 H hP hD hS => ?_)
  have hP : va_P D vwCl [(h0, .inr (3, [.ref q1, .null, .null, .int 0])), aI cI q1 12 (fun _ => 0), aI cI q2 12 (fun _ => 0)] H := hP
  have hD : va_D A [(h0, .inr (3, [.ref q1, .null, .null, .int 0])), aI cI q1 12 (fun _ => 0), aI cI q2 12 (fun _ => 0)] := hD
  refine va_putF (D := D) (ci := 3) (v := .ref q2) (ty := .array .int) (C := RX3) (T := TX3) (N := 4) hx hb hts hI_X3 tyX3 tyX3_ok nmX3 hown hK hP hD hS 0 rfl rfl 1 (by decide) gf15 (fun _ h9 => h9) rfl hin rfl (by decide +kernel) rfl rfl (Nat.le_of_ble_eq_true rfl) dX3_init_17 (fun H locs hP hD hS => ?_)
  have hP : va_P D vwCl [(h0, .inr (3, [.ref q1, .ref q2, .null, .int 0])), aI cI q1 12 (fun _ => 0), aI cI q2 12 (fun _ => 0)] H := hP
  have hD : va_D A [(h0, .inr (3, [.ref q1, .ref q2, .null, .int 0])), aI cI q1 12 (fun _ => 0), aI cI q2 12 (fun _ => 0)] := hD
  refine lv_aload_n hx hb dX3_init_20 rfl (lv_at hl 0 rfl) ?_
  refine lv_bipush (v := 12) hx hb dX3_init_21 (by decide) ?_
  refine nwJ hx hb galong hK hP hD hS hA (N := 12) (by decide) (by decide) (Nat.le_of_ble_eq_true rfl) (Nat.le_of_ble_eq_true rfl) (Nat.le_of_ble_eq_true rfl) dX3_init_23 (fun q3 H hP hD hS => ?_)
  have hP : va_P D vwCl [(h0, .inr (3, [.ref q1, .ref q2, .null, .int 0])), aI cI q1 12 (fun _ => 0), aI cI q2 12 (fun _ => 0), aJ cJ q3 12 (fun _ => 0)] H := hP
  have hD : va_D A [(h0, .inr (3, [.ref q1, .ref q2, .null, .int 0])), aI cI q1 12 (fun _ => 0), aI cI q2 12 (fun _ => 0), aJ cJ q3 12 (fun _ => 0)] := hD
  refine va_putF (D := D) (ci := 3) (v := .ref q3) (ty := .array .long) (C := RX3) (T := TX3) (N := 4) hx hb hts hI_X3 tyX3 tyX3_ok nmX3 hown hK hP hD hS 0 rfl rfl 2 (by decide) gf18 (fun _ h9 => h9) rfl hin rfl (by decide +kernel) rfl rfl (Nat.le_of_ble_eq_true rfl) dX3_init_25 (fun H locs hP hD hS => ?_)
  have hP : va_P D vwCl [(h0, .inr (3, [.ref q1, .ref q2, .ref q3, .int 0])), aI cI q1 12 (fun _ => 0), aI cI q2 12 (fun _ => 0), aJ cJ q3 12 (fun _ => 0)] H := hP
  have hD : va_D A [(h0, .inr (3, [.ref q1, .ref q2, .ref q3, .int 0])), aI cI q1 12 (fun _ => 0), aI cI q2 12 (fun _ => 0), aJ cJ q3 12 (fun _ => 0)] := hD
  obtain ⟨v, hb0, e1, e2, e3⟩ : ∃ b : Nat → Nat, b 0 = h0 ∧ b 1 = q1 ∧ b 2 = q2 ∧ b 3 = q3 := ⟨fun k => ([h0, q1, q2, q3] : List Nat).getD k 0, rfl, rfl, rfl, rfl⟩
  have hP : va_P D vwCl [oX3 v 0, aI cI (v 1) 12 (fun _ => 0), aI cI (v 2) 12 (fun _ => 0), aJ cJ (v 3) 12 (fun _ => 0)] H := by subst hb0 e1 e2 e3; exact hP
  have hD : va_D A [oX3 v 0, aI cI (v 1) 12 (fun _ => 0), aI cI (v 2) 12 (fun _ => 0), aJ cJ (v 3) 12 (fun _ => 0)] := by subst hb0 e1 e2 e3; exact hD
  refine W.widen (k := 3) (n := 36) (by decide) (by decide) ?_
  have hl : lv_has ls 1 [(0, .ref (v 0))] := by rw [hb0]; exact hl
  have er := Option.some.inj hf
  exact rInit (b := v) (wm := (fun v u => [oX3 v u.2.2.2, aI cI (v 1) 12 u.1, aI cI (v 2) 12 u.2.1, aJ cJ (v 3) 12 u.2.2.1])) hx hb hr hS dX3_init_28 hP (hD.addr rfl) er hb0 hlocks
noncomputable def f_X4_init : Option ((Nat → Int32) × (Nat → Int32) × (Nat → Int32) × (Nat → Int32) × Int32) := some (((fun _ => 0), (fun _ => 0), (fun _ => 0), (fun _ => 0), 0))
set_option maxHeartbeats 4000000 in
set_option maxRecDepth 100000 in
theorem c_X4_init (l : Launch) (D : va_G) (cI cJ cZ cQ : ClassId) (bs sz : Nat) (h0 : Nat) (zr : (Nat → Int32) × (Nat → Int32) × (Nat → Int32) × (Nat → Int32) × Int32) (hf : f_X4_init = some zr) : Met l yX4_init wsX4_init { frames := 1, cells := 4, slots := 48, locals := 20 } (va_Pc [.ref h0] (Pr D cI cJ cZ cQ bs sz [(h0, .inr (4, [.null, .null, .null, .null, .int 0]))])) (QnV D h0 zr (fun r u => [oX4 r u.2.2.2.2, aI cI (r 1) 12 u.1, aI cI (r 2) 12 u.2.1, aI cI (r 3) 12 u.2.2.1, aI cI (r 4) 12 u.2.2.2.1]) (va_A [(h0, .inr (4, [.null, .null, .null, .null, .int 0]))] sz)) 4 48 (va_A [(h0, .inr (4, [.null, .null, .null, .null, .int 0]))] sz) := by
  refine stW (cc := cX4_init) (maxL := 1) (ret := none) (Qf := fun A => QnV D h0 zr (fun r u => [oX4 r u.2.2.2.2, aI cI (r 1) 12 u.1, aI cI (r 2) 12 u.2.1, aI cI (r 3) 12 u.2.2.1, aI cI (r 4) 12 u.2.2.2.1]) A) (by decide +kernel) rfl (Nat.le_of_ble_eq_true rfl) ?_
  intro p e s m args below meth c A C0 hr hlocks hin hsz hP hD hA hAb hE ls hl
  have hin : meth.name = "<init>" := hin
  obtain ⟨hx, hb, hml, hown, hts⟩ := id C0
  have hown : s.vm.findClass RX4 = some m.cls := hown
  obtain ⟨hK, hNW, -, tw, hZ, hT⟩ := id hE
  have hl : lv_has ls 1 [(0, .ref h0)] := hl
  have hS : va_S A s.heap s.heap [] := va_S.rf
  have hI_X4 := (show ∀ w ∈ wsX40, w ∈ wsX4_init by decide +kernel)
  have gl3 := hts (.methodLink RX4 3 objectInit) (by decide +kernel)
  have go2 := hts (.instanceMethod objectInit) (by decide +kernel)
  have go3 := hts (.code objectInit ⟨#[0xb1]⟩ 1 none) (by decide +kernel)
  have gaint := hts (.arrayClass .int) (by decide +kernel)
  have gf9 := hts (.fieldLink RX4 9 "RowRanks$Ranking" "lesser" "[I") (by decide +kernel)
  have gf15 := hts (.fieldLink RX4 15 "RowRanks$Ranking" "positions" "[I") (by decide +kernel)
  have gf18 := hts (.fieldLink RX4 18 "RowRanks$Ranking" "places" "[I") (by decide +kernel)
  have gf21 := hts (.fieldLink RX4 21 "RowRanks$Ranking" "longest" "[I") (by decide +kernel)
  unfold f_X4_init at hf
  refine lv_aload_n hx hb dX4_init_0 rfl (lv_at hl 0 rfl) ?_
  refine W.objInit hx hb hown gl3 go2 go3 rfl (by rw [hml]; exact hl.1) rfl dX4_init_1 (Nat.le_of_ble_eq_true rfl) (Nat.le_of_ble_eq_true rfl) ?_
  refine W.eq (g2 := F0 m 4 ls []) rfl ?_
  refine lv_aload_n hx hb dX4_init_4 rfl (lv_at hl 0 rfl) ?_
  refine lv_bipush (v := 12) hx hb dX4_init_5 (by decide) ?_
  refine nwI hx hb gaint hK hP hD hS hA (N := 12) (by decide) (by decide) (Nat.le_of_ble_eq_true rfl) (Nat.le_of_ble_eq_true rfl) (Nat.le_of_ble_eq_true rfl) dX4_init_7 (fun q1 H hP hD hS => ?_)
  have hP : va_P D vwCl [(h0, .inr (4, [.null, .null, .null, .null, .int 0])), aI cI q1 12 (fun _ => 0)] H := hP
  have hD : va_D A [(h0, .inr (4, [.null, .null, .null, .null, .int 0])), aI cI q1 12 (fun _ => 0)] := hD
  refine va_putF (D := D) (ci := 4) (v := .ref q1) (ty := .array .int) (C := RX4) (T := TX4) (N := 5) hx hb hts hI_X4 tyX4 tyX4_ok nmX4 hown hK hP hD hS 0 rfl rfl 0 (by decide) gf9 (fun _ h9 => h9) rfl hin rfl (by decide +kernel) rfl rfl (Nat.le_of_ble_eq_true rfl) dX4_init_9 (fun H locs hP hD hS => ?_)
  have hP : va_P D vwCl [(h0, .inr (4, [.ref q1, .null, .null, .null, .int 0])), aI cI q1 12 (fun _ => 0)] H := hP
  have hD : va_D A [(h0, .inr (4, [.ref q1, .null, .null, .null, .int 0])), aI cI q1 12 (fun _ => 0)] := hD
  refine lv_aload_n hx hb dX4_init_12 rfl (lv_at hl 0 rfl) ?_
  refine lv_bipush (v := 12) hx hb dX4_init_13 (by decide) ?_
  refine nwI hx hb gaint hK hP hD hS hA (N := 12) (by decide) (by decide) (Nat.le_of_ble_eq_true rfl) (Nat.le_of_ble_eq_true rfl) (Nat.le_of_ble_eq_true rfl) dX4_init_15 (fun q2 H hP hD hS => ?_)
  have hP : va_P D vwCl [(h0, .inr (4, [.ref q1, .null, .null, .null, .int 0])), aI cI q1 12 (fun _ => 0), aI cI q2 12 (fun _ => 0)] H := hP
  have hD : va_D A [(h0, .inr (4, [.ref q1, .null, .null, .null, .int 0])), aI cI q1 12 (fun _ => 0), aI cI q2 12 (fun _ => 0)] := hD
  refine va_putF (D := D) (ci := 4) (v := .ref q2) (ty := .array .int) (C := RX4) (T := TX4) (N := 5) hx hb hts hI_X4 tyX4 tyX4_ok nmX4 hown hK hP hD hS 0 rfl rfl 1 (by decide) gf15 (fun _ h9 => h9) rfl hin rfl (by decide +kernel) rfl rfl (Nat.le_of_ble_eq_true rfl) dX4_init_17 (fun H locs hP hD hS => ?_)
  have hP : va_P D vwCl [(h0, .inr (4, [.ref q1, .ref q2, .null, .null, .int 0])), aI cI q1 12 (fun _ => 0), aI cI q2 12 (fun _ => 0)] H := hP
  have hD : va_D A [(h0, .inr (4, [.ref q1, .ref q2, .null, .null, .int 0])), aI cI q1 12 (fun _ => 0), aI cI q2 12 (fun _ => 0)] := hD
  refine lv_aload_n hx hb dX4_init_20 rfl (lv_at hl 0 rfl) ?_
  refine lv_bipush (v := 12) hx hb dX4_init_21 (by decide) ?_
  refine nwI hx hb gaint hK hP hD hS hA (N := 12) (by decide) (by decide) (Nat.le_of_ble_eq_true rfl) (Nat.le_of_ble_eq_true rfl) (Nat.le_of_ble_eq_true rfl) dX4_init_23 (fun q3 H hP hD hS => ?_)
  have hP : va_P D vwCl [(h0, .inr (4, [.ref q1, .ref q2, .null, .null, .int 0])), aI cI q1 12 (fun _ => 0), aI cI q2 12 (fun _ => 0), aI cI q3 12 (fun _ => 0)] H := hP
  have hD : va_D A [(h0, .inr (4, [.ref q1, .ref q2, .null, .null, .int 0])), aI cI q1 12 (fun _ => 0), aI cI q2 12 (fun _ => 0), aI cI q3 12 (fun _ => 0)] := hD
  refine va_putF (D := D) (ci := 4) (v := .ref q3) (ty := .array .int) (C := RX4) (T := TX4) (N := 5) hx hb hts hI_X4 tyX4 tyX4_ok nmX4 hown hK hP hD hS 0 rfl rfl 2 (by decide) gf18 (fun _ h9 => h9) rfl hin rfl (by decide +kernel) rfl rfl (Nat.le_of_ble_eq_true rfl) dX4_init_25 (fun H locs hP hD hS => ?_)
  have hP : va_P D vwCl [(h0, .inr (4, [.ref q1, .ref q2, .ref q3, .null, .int 0])), aI cI q1 12 (fun _ => 0), aI cI q2 12 (fun _ => 0), aI cI q3 12 (fun _ => 0)] H := hP
  have hD : va_D A [(h0, .inr (4, [.ref q1, .ref q2, .ref q3, .null, .int 0])), aI cI q1 12 (fun _ => 0), aI cI q2 12 (fun _ => 0), aI cI q3 12 (fun _ => 0)] := hD
  refine lv_aload_n hx hb dX4_init_28 rfl (lv_at hl 0 rfl) ?_
  refine lv_bipush (v := 12) hx hb dX4_init_29 (by decide) ?_
  refine nwI hx hb gaint hK hP hD hS hA (N := 12) (by decide) (by decide) (Nat.le_of_ble_eq_true rfl) (Nat.le_of_ble_eq_true rfl) (Nat.le_of_ble_eq_true rfl) dX4_init_31 (fun q4 H hP hD hS => ?_)
  have hP : va_P D vwCl [(h0, .inr (4, [.ref q1, .ref q2, .ref q3, .null, .int 0])), aI cI q1 12 (fun _ => 0), aI cI q2 12 (fun _ => 0), aI cI q3 12 (fun _ => 0), aI cI q4 12 (fun _ => 0)] H := hP
  have hD : va_D A [(h0, .inr (4, [.ref q1, .ref q2, .ref q3, .null, .int 0])), aI cI q1 12 (fun _ => 0), aI cI q2 12 (fun _ => 0), aI cI q3 12 (fun _ => 0), aI cI q4 12 (fun _ => 0)] := hD
  refine va_putF (D := D) (ci := 4) (v := .ref q4) (ty := .array .int) (C := RX4) (T := TX4) (N := 5) hx hb hts hI_X4 tyX4 tyX4_ok nmX4 hown hK hP hD hS 0 rfl rfl 3 (by decide) gf21 (fun _ h9 => h9) rfl hin rfl (by decide +kernel) rfl rfl (Nat.le_of_ble_eq_true rfl) dX4_init_33 (fun H locs hP hD hS => ?_)
  have hP : va_P D vwCl [(h0, .inr (4, [.ref q1, .ref q2, .ref q3, .ref q4, .int 0])), aI cI q1 12 (fun _ => 0), aI cI q2 12 (fun _ => 0), aI cI q3 12 (fun _ => 0), aI cI q4 12 (fun _ => 0)] H := hP
  have hD : va_D A [(h0, .inr (4, [.ref q1, .ref q2, .ref q3, .ref q4, .int 0])), aI cI q1 12 (fun _ => 0), aI cI q2 12 (fun _ => 0), aI cI q3 12 (fun _ => 0), aI cI q4 12 (fun _ => 0)] := hD
  obtain ⟨r, hb0, e1, e2, e3, e4⟩ : ∃ b : Nat → Nat, b 0 = h0 ∧ b 1 = q1 ∧ b 2 = q2 ∧ b 3 = q3 ∧ b 4 = q4 := ⟨fun k => ([h0, q1, q2, q3, q4] : List Nat).getD k 0, rfl, rfl, rfl, rfl, rfl⟩
  have hP : va_P D vwCl [oX4 r 0, aI cI (r 1) 12 (fun _ => 0), aI cI (r 2) 12 (fun _ => 0), aI cI (r 3) 12 (fun _ => 0), aI cI (r 4) 12 (fun _ => 0)] H := by subst hb0 e1 e2 e3 e4; exact hP
  have hD : va_D A [oX4 r 0, aI cI (r 1) 12 (fun _ => 0), aI cI (r 2) 12 (fun _ => 0), aI cI (r 3) 12 (fun _ => 0), aI cI (r 4) 12 (fun _ => 0)] := by subst hb0 e1 e2 e3 e4; exact hD
  refine W.widen (k := 4) (n := 48) (by decide) (by decide) ?_
  have hl : lv_has ls 1 [(0, .ref (r 0))] := by rw [hb0]; exact hl
  have er := Option.some.inj hf
  exact rInit (b := r) (wm := (fun r u => [oX4 r u.2.2.2.2, aI cI (r 1) 12 u.1, aI cI (r 2) 12 u.2.1, aI cI (r 3) 12 u.2.2.1, aI cI (r 4) 12 u.2.2.2.1])) hx hb hr hS dX4_init_36 hP (hD.addr rfl) er hb0 hlocks
