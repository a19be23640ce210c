/-! the start: what the Statement gives; (the rows of the kit's skeleton stand first) -/
/-! THE CLAIM OUT OF ONE WALK OF THE LAW'S BODY. Your part is whole_start (and what it stands on); all else here is the same for every law, but numbers. -/
def R_law : String := "RowRanksLaw"
def lw_P (b : Addr) (xs : List Int32) (args : Array Value) (s : State) : Prop := args = #[.ref b] ∧ s.IntsAt b xs ∧ xs.length ≤ 3072 ∧ (Jvm.Cond.and given_1 narrow_1).before args s = true
def lw_Q (_ : Array Value) (s : State) (o : Outcome) (t : State) : Prop := o = .returned (some (.int 1)) ∧ Framed s o t [] 600000 7302250
def lw_Z (below : List Frame) (a : Array Value) (s : State) : State → Prop := fun t => ∃ o, t.status = .running ∧ Ended t below o ∧ lw_Q a s o t
/-- the law's own end, with 1 on the stack, nothing written that was there before, its room as the claim has it -/
theorem lw_ret {p : Program} {l : Launch} {e : Env} {s : State} {m : MethodId} {below : List Frame} {meth : Method} {c : Code} {b : Nat} (hx : p.tables.exec = Jvm.exec) (hb : c.code = code) (hr : meth.sig.returnType = ret) (hlocks : meth.locks = false) {pc : Nat} {H : Heap} {ls : Array Slot} (hdg : decode code pc = .ok (.ireturn, 1)) : W p l e room_1 s m #[Value.ref b] below meth c H [] 600000 7302250 (lw_Z below #[Value.ref b] s) (F0 m pc ls [.int 1]) := by
  intro T hT X
  obtain ⟨fs, hret, hrun, hended, hW, hframe⟩ := X.leave (v := some (.int 1)) (hlocks := hlocks) (fun h => by rw [hr] at h; cases h)
  have hmeth' : T.vm.method? m = some meth := X.method'
  refine ⟨T.setFrames fs, ?_, .returned (some (.int 1)), hrun, hended, rfl, ⟨_, rfl⟩, hW, hframe⟩
  jvm_step X.here [X.here.top, hx, hb, hdg, hmeth', hr, ret, narrow_b1]
  (try refine ⟨rfl, ?_⟩); (try refine ⟨rfl, ?_⟩)
  first | (intro acts; rw [hret _ acts rfl rfl rfl]) | rw [hret _ _ rfl rfl rfl]
  exact Steps.refl _
/-- what holds at the law's entry: the machine, the code, the tables' words (any of lw_tbl by 'hts w (by decide +kernel)'), the script of L ints xs at the cell b, what the Statement gives of the start (any of its parts by flat_of_before) -/
def lw_At (p : Program) (s : State) (m : MethodId) (meth : Method) (c : Code) (b L : Nat) (xs : Nat → Int32) : Prop :=
  p.tables.exec = Jvm.exec ∧ c.code = code ∧ meth.sig.returnType = ret ∧ c.maxLocals = 4 ∧ s.vm.findClass R_law = some m.cls ∧ (∀ w ∈ lw_tbl, w.before #[Value.ref b] s = true) ∧ va_X b L xs s s.heap ∧ b < s.heap.size ∧ meth.locks = false ∧ (Jvm.Cond.and given_1 narrow_1).before #[Value.ref b] s = true
theorem mem_at {w : Cond} (i : Nat) (h : lw_tbl[i]? = some w) : w ∈ lw_tbl := List.mem_of_getElem? h
set_option maxRecDepth 20000 in
theorem nest_in : ∀ w ∈ nestW, w ∈ lw_tbl := by
  have h : nestW = ([134, 153, 170, 193, 274, 326, 450, 469, 523, 568, 96, 98, 100, 102, 104, 143, 160, 179] : List Nat).filterMap (fun i => lw_tbl[i]?) := by decide +kernel
  intro w hw
  rw [h] at hw
  obtain ⟨i, -, hi⟩ := List.mem_filterMap.mp hw
  exact List.mem_of_getElem? hi
set_option maxRecDepth 20000 in
theorem in_instX0 : Cond.instantiable RX0 12 ∈ lw_tbl := mem_at 83 (by decide +kernel)
set_option maxRecDepth 20000 in
theorem in_instX1 : Cond.instantiable RX1 3 ∈ lw_tbl := mem_at 152 (by decide +kernel)
set_option maxRecDepth 20000 in
theorem in_instX2 : Cond.instantiable RX2 3 ∈ lw_tbl := mem_at 133 (by decide +kernel)
set_option maxRecDepth 20000 in
theorem in_instX3 : Cond.instantiable RX3 4 ∈ lw_tbl := mem_at 192 (by decide +kernel)
set_option maxRecDepth 20000 in
theorem in_instX4 : Cond.instantiable RX4 5 ∈ lw_tbl := mem_at 169 (by decide +kernel)
set_option maxRecDepth 20000 in
theorem in_instX5 : Cond.instantiable RX5 9 ∈ lw_tbl := mem_at 75 (by decide +kernel)
set_option maxRecDepth 20000 in
theorem in_instX6 : Cond.instantiable RX6 12 ∈ lw_tbl := mem_at 739 (by decide +kernel)
set_option maxRecDepth 20000 in
theorem in_lays : Cond.laysStatic RX5 "WIDENS" "[I" ∈ lw_tbl := mem_at 278 (by decide +kernel)
set_option maxRecDepth 20000 in
theorem in_ini5 : Cond.initialized RX5 ∈ lw_tbl := mem_at 63 (by decide +kernel)
set_option maxRecDepth 20000 in
theorem in_arI : Cond.arrayClass .int ∈ lw_tbl := mem_at 130 (by decide +kernel)
set_option maxRecDepth 20000 in
theorem in_arJ : Cond.arrayClass .long ∈ lw_tbl := mem_at 131 (by decide +kernel)
set_option maxRecDepth 20000 in
theorem in_arZ : Cond.arrayClass .boolean ∈ lw_tbl := mem_at 783 (by decide +kernel)
set_option maxRecDepth 20000 in
theorem in_over : Cond.arrayOver (.object RX0) ∈ lw_tbl := mem_at 139 (by decide +kernel)
theorem arrP {s : State} {args : Array Value} {ty : FieldType} (h : (Cond.arrayClass ty).before args s = true) : ∃ cA : ClassId, ArrOfT s cA ty ∧ s.vm.findClass ("[" ++ ty.toString) = some cA := by
  obtain ⟨cA, kA, comp, h1, h2, h3⟩ := Cond.arrayClass_spec h
  exact ⟨cA, fun n z => ⟨fun k h => (by cases h), kA, h2, comp, h3⟩, h1⟩
theorem arrQ {s : State} {args : Array Value} {C : String} (h : (Cond.arrayOver (.object C)).before args s = true) : ∃ cA : ClassId, ArrOfT s cA (.object C) ∧ va_RA s cA (.object C) := by
  obtain ⟨comp, cA, kA, h1, -, h3, h4, h5⟩ := Cond.arrayOver_spec h
  exact ⟨cA, fun n z => ⟨fun k h => (by cases h), kA, h3, comp, h4⟩, kA, comp, h3, h4, h1, h5⟩
theorem wd_start {s : State} {b : Nat} (hts : ∀ w ∈ lw_tbl, w.before #[Value.ref b] s = true) (hgv : (Jvm.Cond.and given_1 narrow_1).before #[Value.ref b] s = true) : ∃ t : Nat, va_Z RX5 "WIDENS" "[I" (.ref t) (fun q => s.heap.size ≤ q) s s.heap ∧ va_T .int t 10 (fun j => .int (wdF j)) (fun q => s.heap.size ≤ q) s s.heap := by
  have hs := flat_of_before _ hgv
  have hA : ∀ a : Nat, a < s.heap.size → ¬ s.heap.size ≤ a := fun a h => Nat.not_le.mpr h
  have harr : (Cond.arrayOf (.static "RowRanks" "WIDENS" "[I") .int).before #[Value.ref b] s = true := hs _ (by decide +kernel)
  have hlen : (Term.length (.static "RowRanks" "WIDENS" "[I")).eval #[Value.ref b] s none [] s = some (.int (Int32.ofNat 10)) := va_eqt (z := 10) (hs (Cond.eq (.length (.static "RowRanks" "WIDENS" "[I")) (.int 10)) (by decide +kernel))
  have hel : ∀ j : Nat, j < 10 → (Term.elem (.static "RowRanks" "WIDENS" "[I") (.int (Int32.ofNat j))).eval #[Value.ref b] s none [] s = some (.int (wdF j)) := by
    intro j hj
    rcases (show j = 0 ∨ j = 1 ∨ j = 2 ∨ j = 3 ∨ j = 4 ∨ j = 5 ∨ j = 6 ∨ j = 7 ∨ j = 8 ∨ j = 9 by omega) with rfl | rfl | rfl | rfl | rfl | rfl | rfl | rfl | rfl | rfl
    · exact va_eqt (z := 1) (hs (Cond.eq (.elem (.static "RowRanks" "WIDENS" "[I") (.int 0)) (.int 1)) (by decide +kernel))
    · exact va_eqt (z := 250) (hs (Cond.eq (.elem (.static "RowRanks" "WIDENS" "[I") (.int 1)) (.int 250)) (by decide +kernel))
    · exact va_eqt (z := 244) (hs (Cond.eq (.elem (.static "RowRanks" "WIDENS" "[I") (.int 2)) (.int 244)) (by decide +kernel))
    · exact va_eqt (z := 248) (hs (Cond.eq (.elem (.static "RowRanks" "WIDENS" "[I") (.int 3)) (.int 248)) (by decide +kernel))
    · exact va_eqt (z := 240) (hs (Cond.eq (.elem (.static "RowRanks" "WIDENS" "[I") (.int 4)) (.int 240)) (by decide +kernel))
    · exact va_eqt (z := 224) (hs (Cond.eq (.elem (.static "RowRanks" "WIDENS" "[I") (.int 5)) (.int 224)) (by decide +kernel))
    · exact va_eqt (z := 192) (hs (Cond.eq (.elem (.static "RowRanks" "WIDENS" "[I") (.int 6)) (.int 192)) (by decide +kernel))
    · exact va_eqt (z := 128) (hs (Cond.eq (.elem (.static "RowRanks" "WIDENS" "[I") (.int 7)) (.int 128)) (by decide +kernel))
    · exact va_eqt (z := 0) (hs (Cond.eq (.elem (.static "RowRanks" "WIDENS" "[I") (.int 8)) (.int 0)) (by decide +kernel))
    · exact va_eqt (z := 0) (hs (Cond.eq (.elem (.static "RowRanks" "WIDENS" "[I") (.int 9)) (.int 0)) (by decide +kernel))
  obtain ⟨t, h1, h2⟩ := va_Tof (N := 10) (f := fun j => .int (wdF j)) (A := fun q => s.heap.size ≤ q) (by decide) harr hlen hel hA
  exact ⟨t, va_Zof (hts _ in_lays) (hts _ in_ini5) h1 hA, h2⟩
theorem ev_start {s : State} {b : Nat} (hts : ∀ w ∈ lw_tbl, w.before #[Value.ref b] s = true) (hgv : (Jvm.Cond.and given_1 narrow_1).before #[Value.ref b] s = true) : ∃ (D : va_G) (cI cJ cZ cQ : ClassId), Ev D cI cJ cZ cQ s.heap.size s := by
  obtain ⟨c0, i0, k0⟩ := u_known (C := RX0) (T := TX0) (N := 12) (n := 12) hts inX0 (hts _ in_instX0)
  obtain ⟨c1, i1, k1⟩ := u_known (C := RX1) (T := TX1) (N := 3) (n := 3) hts inX1 (hts _ in_instX1)
  obtain ⟨c2, i2, k2⟩ := u_known (C := RX2) (T := TX2) (N := 3) (n := 3) hts inX2 (hts _ in_instX2)
  obtain ⟨c3, i3, k3⟩ := u_known (C := RX3) (T := TX3) (N := 4) (n := 4) hts inX3 (hts _ in_instX3)
  obtain ⟨c4, i4, k4⟩ := u_known (C := RX4) (T := TX4) (N := 5) (n := 5) hts inX4 (hts _ in_instX4)
  obtain ⟨c5, i5, k5⟩ := u_known (C := RX5) (T := TX5) (N := 9) (n := 9) hts inX5 (hts _ in_instX5)
  obtain ⟨c6, i6, k6⟩ := u_known (C := RX6) (T := TX6) (N := 12) (n := 12) hts inX6 (hts _ in_instX6)
  obtain ⟨dC, dI, hKc⟩ : ∃ (dC : Nat → ClassId) (dI : Nat → Nat → Nat), ∀ (k : Nat) (q : vw_C), vwCl[k]? = some q → u_Kn s q.1 q.2.1 q.2.2 (dC k) (dI k) := by
    refine ⟨fun k => if k = 0 then c0 else if k = 1 then c1 else if k = 2 then c2 else if k = 3 then c3 else if k = 4 then c4 else if k = 5 then c5 else c6, fun k => if k = 0 then i0 else if k = 1 then i1 else if k = 2 then i2 else if k = 3 then i3 else if k = 4 then i4 else if k = 5 then i5 else i6, ?_⟩
    intro k q hq
    match k, hq with
    | 0, hq => cases hq; exact k0
    | 1, hq => cases hq; exact k1
    | 2, hq => cases hq; exact k2
    | 3, hq => cases hq; exact k3
    | 4, hq => cases hq; exact k4
    | 5, hq => cases hq; exact k5
    | 6, hq => cases hq; exact k6
    | k + 7, hq => simp [vwCl] at hq
  obtain ⟨cI, a1, b1⟩ := arrP (hts _ in_arI)
  obtain ⟨cJ, a2, b2⟩ := arrP (hts _ in_arJ)
  obtain ⟨cZ, a3, b3⟩ := arrP (hts _ in_arZ)
  obtain ⟨cQ, a4, b4⟩ := arrQ (hts _ in_over)
  obtain ⟨t, t1, t2⟩ := wd_start hts hgv
  refine ⟨(dC, dI), cI, cJ, cZ, cQ, ⟨hKc, ?_⟩, fun w hw => va_Nw.of (isN_tab (nestW_N w hw)) (hts w (nest_in w hw)), ⟨Nat.le_refl _, va_AO.of (hts _ in_over)⟩, t, t1, t2⟩
  intro k q hq
  match k, hq with
  | 0, hq => cases hq; exact ⟨a1, b1⟩
  | 1, hq => cases hq; exact ⟨a2, b2⟩
  | 2, hq => cases hq; exact ⟨a3, b3⟩
  | 3, hq => cases hq; exact ⟨a4, b4⟩
  | k + 4, hq => simp [gT] at hq
