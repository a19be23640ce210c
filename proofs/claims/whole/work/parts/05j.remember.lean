/-! what a method of the pool promises -/
def sI (p q : PT) : Prop := ∀ i, 16 ≤ i → p i = q i
theorem sI.rf {p : PT} : sI p p := fun _ _ => rfl
theorem sI.tr {p q r : PT} (h1 : sI p q) (h2 : sI q r) : sI p r := fun i hi => (h1 i hi).trans (h2 i hi)
theorem sI_iB {p q : PT} (h : sI p q) : iB p = iB q := by
  funext j
  unfold iB
  rw [h (16 + j) (by omega)]
abbrev HT : Type := Nat → Option BT
abbrev QpV {S : Type} (D : va_G) (z : S) (sel : S → HT) (wm : S → PT → va_W) (pl0 : PT) (A : Nat → Prop) : Array Value → State → Outcome → State → Prop := va_Qv (fun pl' : PT => hsOf pl' = sel z ∧ sI pl' pl0) (fun pl' t => va_P D vwCl (wm z pl') t.heap ∧ va_D A (wm z pl')) A
abbrev QpI {S : Type} (D : va_G) (z : Int32 × S) (sel : S → HT) (wm : S → PT → va_W) (pl0 : PT) (A : Nat → Prop) : Array Value → State → Outcome → State → Prop := va_Qi (fun r (pl' : PT) => r = z.1 ∧ hsOf pl' = sel z.2 ∧ sI pl' pl0) (fun pl' t => va_P D vwCl (wm z.2 pl') t.heap ∧ va_D A (wm z.2 pl')) A
section PO
variable {p : Program} {l : Launch} {e : Env} {R : Room} {s : State} {m : MethodId} {args : Array Value} {below : List Frame} {meth : Method} {c : Code} {H : Heap} {locs : List Loc} {cells slots : Nat} {Q : State → Prop} {cc : ByteArray} {pc : Nat} {ls : Array Slot} {A : Nat → Prop} {D : va_G} {cI cJ cZ cQ : ClassId} {bs : Nat}
theorem rpV {S : Type} {z u : S} {sel : S → HT} {wm : S → PT → va_W} {pl0 pl' : PT} (hx : p.tables.exec = Jvm.exec) (hb : c.code = cc) (hr : meth.sig.returnType = none) (hS : va_S A s.heap H locs) (hdg : decode cc pc = .ok (.return_, 1)) (hP : va_P D vwCl (wm u pl') H) (hD : va_D A (wm u pl')) (hv : u = z) (hh : hsOf pl' = sel u) (hi : sI pl' pl0) (hlocks : meth.locks = false) : W p l e R s m args below meth c H locs cells slots (MQ below (QpV D z sel wm pl0 A) args s cells slots A) (F0 m pc ls []) := by
  subst hv
  exact W.vret hx hb hr (fun t ht hW => ⟨⟨pl', rfl, ⟨hh, hi⟩, (show va_P D vwCl (wm u pl') t.heap by rw [ht]; exact hP), hD⟩, hS.F ht⟩) hS.2.2 hdg hlocks
theorem rpI {S : Type} {v : Int32} {u : S} {z : Int32 × S} {sel : S → HT} {wm : S → PT → va_W} {pl0 pl' : PT} (hx : p.tables.exec = Jvm.exec) (hb : c.code = cc) (hr : meth.sig.returnType = some .int) (hS : va_S A s.heap H locs) (hdg : decode cc pc = .ok (.ireturn, 1)) (hP : va_P D vwCl (wm u pl') H) (hD : va_D A (wm u pl')) (hv : (v, u) = z) (hh : hsOf pl' = sel u) (hi : sI pl' pl0) (hlocks : meth.locks = false) : W p l e R s m args below meth c H locs cells slots (MQ below (QpI D z sel wm pl0 A) args s cells slots A) (F0 m pc ls [.int v]) := by
  subst hv
  exact W.iret hx hb hr (fun t ht hW => ⟨⟨v, pl', rfl, ⟨rfl, hh, hi⟩, (show va_P D vwCl (wm u pl') t.heap by rw [ht]; exact hP), hD⟩, hS.F ht⟩) hS.2.2 hdg hlocks
variable {a : Array Value} {H0 : Heap} {mc ms : Nat} {rest st0 : List Value}
theorem kpV {S : Type} {E t0 WC : va_W} {z : S} {sel : S → HT} {w1 : S → PT → va_W} {pl0 : PT} (hr : va_Run p l e R s m args below meth c H locs cells slots mc ms (F0 m pc ls st0) rest (QpV D z sel (fun u q => w1 u q ++ plW cI cJ q 18) pl0 (va_A (WC ++ t0) H.size) a) (va_A (WC ++ t0) H.size)) (hS : va_S A H0 H locs) (hP : va_P D vwCl (E ++ t0) H) (hD : va_D A (E ++ t0)) (hA : ∀ q, H0.size ≤ q → A q) (isC : List Nat) (hC : isC.map (fun i => E[i]?) = WC.map some) (hfree : ∀ q, va_A (WC ++ t0) H.size q → A q) (hl : ∀ q, (w1 z q).length = isC.length) (hw : ∀ q, (w1 z q).map Prod.fst = WC.map Prod.fst) {E2 : PT → va_W} (hs : ∀ q, setAll E (isC.zip (w1 z q)) = E2 q) (ha : ∀ q, (E2 q).map Prod.fst = E.map Prod.fst)
    (kk : ∀ (pl' : PT) (H1 : Heap) (locs1 : List Loc), hsOf pl' = sel z → sI pl' pl0 → va_P D vwCl (E2 pl' ++ plW cI cJ pl' 18) H1 → va_D A (E2 pl' ++ plW cI cJ pl' 18) → va_S A H0 H1 locs1 → W p l e R s m args below meth c H1 locs1 (cells + mc) (slots + ms) Q (F0 m (pc + 3) ls rest)) : W p l e R s m args below meth c H locs cells slots Q (F0 m pc ls st0) :=
  va_callv hr hS (fun q _ h => hfree q h) hfree (fun u t H1 locs1 ht _ hp hB _ hk hS1 => by
    have j := joinT hP hD isC hC hk hfree (by rw [← ht]; exact hB.1) hB.2 (hl u) (hw u) (hs u) (ha u)
    exact kk u H1 locs1 hp.1 hp.2 j.1 j.2 hS1)
theorem kpI {S : Type} {E t0 WC : va_W} {z : Int32 × S} {sel : S → HT} {w1 : S → PT → va_W} {pl0 : PT} (hr : va_Run p l e R s m args below meth c H locs cells slots mc ms (F0 m pc ls st0) rest (QpI D z sel (fun u q => w1 u q ++ plW cI cJ q 18) pl0 (va_A (WC ++ t0) H.size) a) (va_A (WC ++ t0) H.size)) (hS : va_S A H0 H locs) (hP : va_P D vwCl (E ++ t0) H) (hD : va_D A (E ++ t0)) (hA : ∀ q, H0.size ≤ q → A q) (isC : List Nat) (hC : isC.map (fun i => E[i]?) = WC.map some) (hfree : ∀ q, va_A (WC ++ t0) H.size q → A q) (hl : ∀ q, (w1 z.2 q).length = isC.length) (hw : ∀ q, (w1 z.2 q).map Prod.fst = WC.map Prod.fst) {E2 : PT → va_W} (hs : ∀ q, setAll E (isC.zip (w1 z.2 q)) = E2 q) (ha : ∀ q, (E2 q).map Prod.fst = E.map Prod.fst)
    (kk : ∀ (pl' : PT) (H1 : Heap) (locs1 : List Loc), hsOf pl' = sel z.2 → sI pl' pl0 → va_P D vwCl (E2 pl' ++ plW cI cJ pl' 18) H1 → va_D A (E2 pl' ++ plW cI cJ pl' 18) → va_S A H0 H1 locs1 → W p l e R s m args below meth c H1 locs1 (cells + mc) (slots + ms) Q (F0 m (pc + 3) ls (.int z.1 :: rest))) : W p l e R s m args below meth c H locs cells slots Q (F0 m pc ls st0) :=
  va_calli hr hS (fun q _ h => hfree q h) hfree (fun r u t H1 locs1 ht _ hp hB _ hk hS1 => by
    have j := joinT hP hD isC hC hk hfree (by rw [← ht]; exact hB.1) hB.2 (hl u) (hw u) (hs u) (ha u)
    obtain ⟨hp1, hp2, hp3⟩ := hp
    subst hp1
    exact kk u H1 locs1 hp2 hp3 j.1 j.2 hS1)
theorem freeT {E t0 WC : va_W} (hD : va_D A (E ++ t0)) (hS : va_S A H0 H locs) (hA : ∀ q, H0.size ≤ q → A q) (isC : List Nat) (hC : isC.map (fun i => E[i]?) = WC.map some) : ∀ q, va_A (WC ++ t0) H.size q → A q := by
  rintro q (⟨k, e, h⟩ | h)
  · rcases List.mem_append.mp (List.mem_of_getElem? h) with h1 | h1
    · obtain ⟨i, -, hi⟩ := mem_wc isC hC h1
      exact hD.al q (by rw [List.map_append]; exact List.mem_append_left _ (List.mem_map_of_mem (f := Prod.fst) (List.mem_of_getElem? hi)))
    · exact hD.al q (by rw [List.map_append]; exact List.mem_append_right _ (List.mem_map_of_mem (f := Prod.fst) h1))
  · exact hA q (Nat.le_trans hS.1 h)
/-- a callee that is handed the tail too -/
theorem prGoT {E t0 WC : va_W} (hE : Ev D cI cJ cZ cQ bs s) (hAb : ∀ q, A q → bs ≤ q) (hP : va_P D vwCl (E ++ t0) H) (hD : va_D A (E ++ t0)) (hS : va_S A s.heap H locs) (isC : List Nat) (hn1 : va_nd isC = true) (hC : isC.map (fun i => E[i]?) = WC.map some) : ∀ U : State, U.heap = H → s.WarmedH U.vm → Pr D cI cJ cZ cQ bs H.size (WC ++ t0) U := by
  intro U hU hW
  have hPE : va_P D vwCl E H := fun k q hk => hP k q (by rw [List.getElem?_append_left (List.getElem?_eq_some_iff.mp hk).1]; exact hk)
  have hn := hD.nod
  rw [List.map_append, List.nodup_append] at hn
  have hDE : va_D A E := va_D.mk' hn.1 (fun a h => hD.al a (by rw [List.map_append]; exact List.mem_append_left _ h))
  have hDW : va_D A WC := hDE.sub isC hn1 hC
  refine ⟨by rw [hU], ?_, ?_, hE.next hS hAb hU hW⟩
  · intro k q hk
    rw [hU]
    rcases List.mem_append.mp (List.mem_of_getElem? hk) with h1 | h1
    · obtain ⟨i, -, hi⟩ := mem_wc isC hC h1
      exact hPE i q hi
    · obtain ⟨i, hi⟩ := List.getElem?_of_mem (List.mem_append_right E h1)
      exact hP i q hi
  · refine va_D.mk' ?_ ?_
    · rw [List.map_append, List.nodup_append]
      refine ⟨hDW.nod, hn.2.1, fun a ha b hb => hn.2.2 a ?_ b hb⟩
      obtain ⟨q, hq, rfl⟩ := List.mem_map.mp ha
      obtain ⟨i, -, hi⟩ := mem_wc isC hC hq
      exact List.mem_map_of_mem (List.mem_of_getElem? hi)
    · intro a ha
      rw [List.map_append] at ha
      rcases List.mem_append.mp ha with h1 | h1
      · exact hAb _ (hDW.al a h1)
      · exact hAb _ (hD.al a (by rw [List.map_append]; exact List.mem_append_right _ h1))
variable {y : MethodName} {bytes : ByteArray} {maxL nL n index : Nat} {ret : Option FieldType} {wsy : List Cond} {rm : Room} {Qc : Array Value → State → Outcome → State → Prop} {free : Addr → Prop} {Ts : List Cond} {own C : String} {T : u_T} {N ci b : Nat} {fs : List Value} {As : List Value}
theorem runVT {E t0 WC : va_W} (C0 : CallFix p m c cc nL s args Ts own) (hE : Ev D cI cJ cZ cQ bs s) (hAb : ∀ q, A q → bs ≤ q) (hP : va_P D vwCl (E ++ t0) H) (hD : va_D A (E ++ t0)) (hS : va_S A s.heap H locs) (isC : List Nat) (hn1 : va_nd isC = true) (hC : isC.map (fun i => E[i]?) = WC.map some) (i0 : Nat) (he : (E ++ t0)[i0]? = some (b, .inr (ci, fs))) (hc : vwCl[ci]? = some (C, T, N))
    (hM : Met l y wsy rm (va_Pc (.ref b :: As) (Pr D cI cJ cZ cQ bs H.size (WC ++ t0))) Qc mc ms free) (cw : CallW R s args own C index y bytes maxL ret wsy rm mc ms n) (hn : As.length = n) (hsize : ls.size = nL) (hst : st0 = As.reverse ++ .ref b :: rest) (hW : (rest.map fun v => v.category).sum ≤ 8) (hdg : decode cc pc = .ok (.invokevirtual index, 3)) (hf : cells + mc ≤ R.cells ∧ slots + ms ≤ R.slots) :
    va_Run p l e R s m args below meth c H locs cells slots mc ms (F0 m pc ls st0) rest (Qc (Value.ref b :: As).toArray) free :=
  va_runV C0 hM cw ⟨Pr.blind, va_recv hE.1 hP hc he, fun U hU hW2 => ⟨rfl, prGoT hE hAb hP hD hS isC hn1 hC U hU hW2⟩⟩ rfl hn hsize hst (lv_room hW) hdg hf
/-- a constructor of an object that was made just now, at the world's end -/
theorem prGo1 {ws : va_W} {q : Nat} {x : va_E} (hE : Ev D cI cJ cZ cQ bs s) (hAb : ∀ q, A q → bs ≤ q) (hP : va_P D vwCl (ws ++ [(q, x)]) H) (hD : va_D A (ws ++ [(q, x)])) (hS : va_S A s.heap H locs) : ∀ U : State, U.heap = H → s.WarmedH U.vm → Pr D cI cJ cZ cQ bs H.size [(q, x)] U := by
  intro U hU hW
  refine ⟨by rw [hU], ?_, ?_, hE.next hS hAb hU hW⟩
  · intro k y hk
    rw [hU]
    obtain ⟨i, hi⟩ := List.getElem?_of_mem (List.mem_append_right ws (List.mem_of_getElem? hk))
    exact hP i y hi
  · refine va_D.mk' (by simp) (fun a ha => hAb _ (hD.al a ?_))
    rw [List.map_append]
    exact List.mem_append_right _ ha
theorem runI1 {ws : va_W} {q : Nat} {x : va_E} (C0 : CallFix p m c cc nL s args Ts own) (hE : Ev D cI cJ cZ cQ bs s) (hAb : ∀ q, A q → bs ≤ q) (hP : va_P D vwCl (ws ++ [(q, x)]) H) (hD : va_D A (ws ++ [(q, x)])) (hS : va_S A s.heap H locs)
    (hM : Met l y wsy rm (va_Pc [.ref q] (Pr D cI cJ cZ cQ bs H.size [(q, x)])) Qc mc ms free) (cw : CallB R s args own index y bytes maxL none wsy rm mc ms 0 ∧ y.name = "<init>" ∧ (Cond.instanceMethod y).before args s = true) (hsize : ls.size = nL) (hst : st0 = .ref q :: rest) (hW : (rest.map fun v => v.category).sum ≤ 8) (hdg : decode cc pc = .ok (.invokespecial index, 3)) (hf : cells + mc ≤ R.cells ∧ slots + ms ≤ R.slots) :
    va_Run p l e R s m args below meth c H locs cells slots mc ms (F0 m pc ls st0) rest (Qc (Value.ref q :: []).toArray) free :=
  va_runI C0 hM cw ⟨Pr.blind, fun U hU hW2 => ⟨rfl, prGo1 hE hAb hP hD hS U hU hW2⟩⟩ rfl rfl hsize hst (lv_room hW) hdg hf
theorem runI1N {host : String} {ws : va_W} {q : Nat} {x : va_E} (C0 : CallFix p m c cc nL s args Ts own) (hE : Ev D cI cJ cZ cQ bs s) (hAb : ∀ q, A q → bs ≤ q) (hP : va_P D vwCl (ws ++ [(q, x)]) H) (hD : va_D A (ws ++ [(q, x)])) (hS : va_S A s.heap H locs)
    (hM : Met l y wsy rm (va_Pc [.ref q] (Pr D cI cJ cZ cQ bs H.size [(q, x)])) Qc mc ms free) (cw : va_CN R s args own index y host bytes maxL none wsy rm mc ms 0) (h1 : y.name = "<init>") (h2 : (Cond.instanceMethod y).before args s = true) (hsize : ls.size = nL) (hst : st0 = .ref q :: rest) (hW : (rest.map fun v => v.category).sum ≤ 8) (hdg : decode cc pc = .ok (.invokespecial index, 3)) (hf : cells + mc ≤ R.cells ∧ slots + ms ≤ R.slots) :
    va_Run p l e R s m args below meth c H locs cells slots mc ms (F0 m pc ls st0) rest (Qc (Value.ref q :: []).toArray) free :=
  va_runIN C0 hM ⟨cw, h1, h2⟩ ⟨Pr.blind, fun U hU hW2 => ⟨rfl, prGo1 hE hAb hP hD hS U hU hW2⟩⟩ rfl rfl hsize hst (lv_room hW) hdg hf
theorem kN {S : Type} {ws : va_W} {q : Nat} {x : va_E} {z : S} {wm : (Nat → Nat) → S → va_W} (hr : va_Run p l e R s m args below meth c H locs cells slots mc ms (F0 m pc ls st0) rest (QnV D q z wm (va_A [(q, x)] H.size) a) (va_A [(q, x)] H.size)) (hS : va_S A H0 H locs) (hP : va_P D vwCl (ws ++ [(q, x)]) H) (hD : va_D A (ws ++ [(q, x)])) (hA : ∀ q, H0.size ≤ q → A q)
    (kk : ∀ (o : Nat → Nat) (H1 : Heap) (locs1 : List Loc), o 0 = q → va_P D vwCl (ws ++ wm o z) H1 → va_D A (ws ++ wm o z) → va_S A H0 H1 locs1 → W p l e R s m args below meth c H1 locs1 (cells + mc) (slots + ms) Q (F0 m (pc + 3) ls rest)) : W p l e R s m args below meth c H locs cells slots Q (F0 m pc ls st0) := by
  have hfree : ∀ a, va_A [(q, x)] H.size a → A a := freeT (WC := []) hD hS hA [] rfl
  refine va_callv hr hS (fun q _ h => hfree q h) hfree (fun u t H1 locs1 ht _ hp hB _ hk hS1 => ?_)
  have j := joinT (WC := []) (w1 := []) (t1 := wm u z) (E' := ws) hP hD [] rfl hk hfree (by rw [← ht]; exact hB.1) hB.2 rfl rfl rfl rfl
  exact kk u H1 locs1 hp j.1 j.2 hS1
end PO
theorem dfX0 : ∀ j, j < 12 → defaultValue (tyX0 j) = vp_V [.null, .null, .null, .null, .null, .null, .null, .null, .int 0, .int 0, .int 0, .long 0] j := by
  intro j hj
  rcases (show j = 0 ∨ j = 1 ∨ j = 2 ∨ j = 3 ∨ j = 4 ∨ j = 5 ∨ j = 6 ∨ j = 7 ∨ j = 8 ∨ j = 9 ∨ j = 10 ∨ j = 11 by omega) with rfl | rfl | rfl | rfl | rfl | rfl | rfl | rfl | rfl | rfl | rfl | rfl <;> rfl
noncomputable def orInit (o : Option BT) : Option BT := match o with
  | none => f_X0_init
  | some u => some u
theorem orS {u : BT} {β : Type} {g : BT → Option β} {r : Option β} (h : (orInit (some u)).bind g = r) : g u = r := h
theorem orN {β : Type} {g : BT → Option β} {r : β} (h : (orInit none).bind g = some r) : ∃ u, f_X0_init = some u ∧ g u = some r := obd h
theorem ib_lt {i : Int32} {n : Nat} (h : ib i n = true) : i.toNatClampNeg < n := Nat.not_le.mp fun q => ib_in h (Or.inr q)
theorem ofWF {l : Launch} {y : MethodName} {ws ws' : List Cond} {rm : Room} {Pc : Array Value → State → Prop} {Qc : Array Value → State → Outcome → State → Prop} {mc ms : Nat} {free : Addr → Prop} {cc : ByteArray} {maxL : Nat} {ret : Option FieldType}
    (hy : plainFor y = true) (hw : ws = Cond.code y cc maxL ret :: ws')
    (body : ∀ p e s m args below meth c s₁, BodyLoose p l y (headSpec ws rm) cc maxL ret e s m args below meth c s₁ → c.maxLocals = maxL → Pc args s →
      W p l e (headSpec ws rm).room s m args below meth c s.heap [] 0 0 (MQ below Qc args s mc ms free) (entryFrame m args maxL)) : Met l y ws rm Pc Qc mc ms free := by
  refine MetFree.of_bodySF (code := cc) (maxLocals := maxL) (ret := ret) hy ?_ ?_
  · intro args s m h hn
    obtain ⟨meth, c, h1, h2, h3, h4, h5, h6, -, -⟩ := Cond.code_spec hn (atoms_spec (ws := ws) h _ (by rw [hw]; exact List.mem_cons_self))
    exact ⟨meth, c, h1, h2, h3, h4, h5, h6⟩
  · intro p e s m args below meth c s₁ B hml hP _
    have hh : s₁.heap = s.heap := by rw [B.state]; rfl
    obtain ⟨t, a1, o, b1, b2, b3⟩ := body p e s m args below meth c s₁ B hml hP s₁ hh (Stand.of_body B)
    exact ⟨t, o, a1, b1, b2, ⟨b3.1, b3.2⟩⟩
theorem stMF {l : Launch} {y : MethodName} {ws ws' : List Cond} {rm : Room} {cc : ByteArray} {maxL : Nat} {ret : Option FieldType} {av : List Value} {D : va_G} {cI cJ cZ cQ : ClassId} {bs sz : Nat} {wl : va_W} {Qc : Array Value → State → Outcome → State → Prop} {mc ms : Nat} {free : Nat → Prop}
    (hy : plainFor y = true) (hw : ws = Cond.code y cc maxL ret :: ws') (hlen : (lg_sl av).length ≤ maxL)
    (body : ∀ (p : Program) (e : Env) (s : State) (m : MethodId) (args : Array Value) (below : List Frame) (meth : Method) (c : Code), CallFix p m c cc maxL s args ws y.cls → meth.sig.returnType = ret → meth.locks = false → meth.name = y.name → s.heap.size = sz → va_P D vwCl wl s.heap → va_D (fun q => bs ≤ q) wl → Ev D cI cJ cZ cQ bs s →
      ∀ ls : Array Slot, lv_has ls maxL (lv_args 0 av) → W p l e rm s m args below meth c s.heap [] 0 0 (MQ below Qc args s mc ms free) (F0 m 0 ls [])) : Met l y ws rm (va_Pc av (Pr D cI cJ cZ cQ bs sz wl)) Qc mc ms free := by
  refine ofWF (cc := cc) (maxL := maxL) (ret := ret) hy hw ?_
  intro p e s m args below meth c s₁ B hml hv
  obtain ⟨rfl, hsz, hP, hD, hE⟩ := hv
  rw [lg_entry_eq]
  exact body p e s m _ below meth c ⟨B.exec, B.bytes, hml, findClass_of_methodNamed B.named, atoms_spec (ws := ws) B.pre⟩ B.returns B.notSynchronized (name_of_methodNamed B.named B.method).1 hsz hP hD hE _ (lv_entry av hlen)
noncomputable def f_J9_floorMod_7cf53 (x0 : Int32) (x1 : Int32) : Option (Int32) := if ¬ x1 = 0 then ((some ((x0 - x0 / x1 * x1) : Int32)).bind (fun y2 => if 0 ≤ (x0 ^^^ x1) then (some (y2)) else (if y2 = 0 then (some (y2)) else (some ((y2 + x1)))))) else none
set_option maxHeartbeats 4000000 in
set_option maxRecDepth 100000 in
theorem c_J9_floorMod_7cf53 (l : Launch) (D : va_G) (cI cJ cZ cQ : ClassId) (bs sz : Nat) (x0 : Int32) (x1 : Int32) (zr : Int32) (hf : f_J9_floorMod_7cf53 x0 x1 = some zr) : Met l yJ9_floorMod_7cf53 wsJ9_floorMod_7cf53 { frames := 0, cells := 0, slots := 0, locals := 0 } (va_Pc [.int x0, .int x1] (Pr D cI cJ cZ cQ bs sz [])) (QrI zr) 0 0 no := by
  refine stMF (cc := cJ9_floorMod_7cf53) (maxL := 3) (ret := (some .int)) (by decide +kernel) rfl (Nat.le_of_ble_eq_true rfl) ?_
  intro p e s m args below meth c C0 hr hlocks hname hsz hP hDb hE ls hl
  have hAb : ∀ q, no q → bs ≤ q := fun _ h => h.elim
  obtain ⟨hx, hb, hml, hown, hts⟩ := id C0
  have hown : s.vm.findClass RJ9 = some m.cls := hown
  obtain ⟨hK, hNW, -, tw, hZ, hT⟩ := id hE
  have hl : lv_has ls 3 [(0, .int x0), (1, .int x1)] := hl
  have hS : va_S no s.heap s.heap [] := va_S.rf
  unfold f_J9_floorMod_7cf53 at hf
  have go : ∀ (H : Heap) (locs : List Loc), va_P D vwCl [] H → va_S no s.heap H locs → W p l e { frames := 0, cells := 0, slots := 0, locals := 0 } s m args below meth c H locs 0 0 (MQ below (QrI zr) args s 0 0 no) (F0 m 0 ls []) := by
    intro H locs hP hS
    refine lv_iload_n hx hb dJ9_floorMod_7cf53_0 rfl (lv_at hl 0 rfl) ?_
    refine lv_iload_n hx hb dJ9_floorMod_7cf53_1 rfl (lv_at hl 1 rfl) ?_
    obtain ⟨h1, hf⟩ := ogd hf
    refine lv_irem hx hb dJ9_floorMod_7cf53_2 h1 ?_
    refine lv_topi (fun y2 ey2 => ?_)
    replace hf := onm ey2 hf
    refine lv_istore_n (lv' := [(2, .int y2), (0, .int x0), (1, .int x1)]) hx hb dJ9_floorMod_7cf53_3 rfl hl (by decide) rfl (fun ls hl => ?_)
    refine lv_iload_n hx hb dJ9_floorMod_7cf53_4 rfl (lv_at hl 1 rfl) ?_
    refine lv_iload_n hx hb dJ9_floorMod_7cf53_5 rfl (lv_at hl 2 rfl) ?_
    refine lv_ixor hx hb dJ9_floorMod_7cf53_6 ?_
    refine lv_if_ge (tgt := 18) hx hb dJ9_floorMod_7cf53_7 (by decide) (fun c3 => ?_) (fun c3 => ?_)
    · replace hf := oif c3 hf
      refine lv_iload_n hx hb dJ9_floorMod_7cf53_18 rfl (lv_at hl 0 rfl) ?_
      have er := Option.some.inj hf
      exact rtI hx hb hr hS dJ9_floorMod_7cf53_19 er hlocks
    · replace hf := oel c3 hf
      refine lv_iload_n hx hb dJ9_floorMod_7cf53_10 rfl (lv_at hl 0 rfl) ?_
      refine lv_if_eq (tgt := 18) hx hb dJ9_floorMod_7cf53_11 (by decide) (fun c4 => ?_) (fun c4 => ?_)
      · replace hf := oif c4 hf
        refine lv_iload_n hx hb dJ9_floorMod_7cf53_18 rfl (lv_at hl 0 rfl) ?_
        have er := Option.some.inj hf
        exact rtI hx hb hr hS dJ9_floorMod_7cf53_19 er hlocks
      · replace hf := oel c4 hf
        refine lv_iload_n hx hb dJ9_floorMod_7cf53_14 rfl (lv_at hl 0 rfl) ?_
        refine lv_iload_n hx hb dJ9_floorMod_7cf53_15 rfl (lv_at hl 2 rfl) ?_
        refine lv_iadd hx hb dJ9_floorMod_7cf53_16 ?_
        have er := Option.some.inj hf
        exact rtI hx hb hr hS dJ9_floorMod_7cf53_17 er hlocks
  exact go s.heap [] hP hS
noncomputable def f_X2_remember (b_kinds : Nat → Int32) (b_sizes : Nat → Int32) (b_sorts : Nat → Int32) (b_numbers : Nat → Int64) (b_weights : Nat → Int32) (b_keySlots : Nat → Int32) (b_keyBys : Nat → Int32) (b_keyWays : Nat → Int32) (b_keyCount : Int32) (b_sheetSet : Int32) (b_handSort : Int32) (b_handNumber : Int64) (h_next h_count : Int32) (P_hs : HT) : Option (Int32 × Int32 × HT) := (f_J9_floorMod_7cf53 h_next 16).bind (fun z1 => if ib z1 16 = true then ((orInit (P_hs z1.toNatClampNeg)).bind (fun u => (f_X0_copyFrom u.1 u.2.1 u.2.2.1 u.2.2.2.1 u.2.2.2.2.1 u.2.2.2.2.2.1 u.2.2.2.2.2.2.1 u.2.2.2.2.2.2.2.1 u.2.2.2.2.2.2.2.2.1 u.2.2.2.2.2.2.2.2.2.1 u.2.2.2.2.2.2.2.2.2.2.1 u.2.2.2.2.2.2.2.2.2.2.2 b_kinds b_sizes b_sorts b_numbers b_weights b_keySlots b_keyBys b_keyWays b_keyCount b_sheetSet b_handSort b_handNumber).bind (fun z2 => some (z1 + 1, (if 16 < h_count + 1 then 16 else h_count + 1), va_up P_hs z1.toNatClampNeg (some z2))))) else none)
set_option maxHeartbeats 4000000 in
set_option maxRecDepth 100000 in
theorem c_X2_remember (l : Launch) (D : va_G) (cI cJ cZ cQ : ClassId) (bs sz : Nat) (b h : Nat → Nat) (b_keyCount : Int32) (b_sheetSet : Int32) (b_handSort : Int32) (b_handNumber : Int64) (b_kinds : Nat → Int32) (b_sizes : Nat → Int32) (b_sorts : Nat → Int32) (b_numbers : Nat → Int64) (b_weights : Nat → Int32) (b_keySlots : Nat → Int32) (b_keyBys : Nat → Int32) (b_keyWays : Nat → Int32) (h_next h_count : Int32) (pl : PT) (P_hs : HT) (hpl : hsOf pl = P_hs) (zr : Int32 × Int32 × HT) (hf : f_X2_remember b_kinds b_sizes b_sorts b_numbers b_weights b_keySlots b_keyBys b_keyWays b_keyCount b_sheetSet b_handSort b_handNumber h_next h_count P_hs = some zr) : Met l yX2_remember wsX2_remember { frames := 2, cells := 9, slots := 188, locals := 59 } (va_Pc [.ref (h 0), .ref (b 0)] (Pr D cI cJ cZ cQ bs sz ([oX0 b b_keyCount b_sheetSet b_handSort b_handNumber, aI cI (b 1) 6 b_kinds, aI cI (b 2) 6 b_sizes, aI cI (b 3) 72 b_sorts, aJ cJ (b 4) 72 b_numbers, aI cI (b 5) 8 b_weights, aI cI (b 6) 4 b_keySlots, aI cI (b 7) 4 b_keyBys, aI cI (b 8) 4 b_keyWays, oX2 h h_next h_count, aQ cQ (h 1) 16 (hB pl)] ++ plW cI cJ pl 18))) (QpV D zr (fun u => u.2.2) (fun u q => [oX0 b b_keyCount b_sheetSet b_handSort b_handNumber, aI cI (b 1) 6 b_kinds, aI cI (b 2) 6 b_sizes, aI cI (b 3) 72 b_sorts, aJ cJ (b 4) 72 b_numbers, aI cI (b 5) 8 b_weights, aI cI (b 6) 4 b_keySlots, aI cI (b 7) 4 b_keyBys, aI cI (b 8) 4 b_keyWays, oX2 h u.1 u.2.1, aQ cQ (h 1) 16 (hB q)] ++ plW cI cJ q 18) pl (va_A ([oX0 b b_keyCount b_sheetSet b_handSort b_handNumber, aI cI (b 1) 6 b_kinds, aI cI (b 2) 6 b_sizes, aI cI (b 3) 72 b_sorts, aJ cJ (b 4) 72 b_numbers, aI cI (b 5) 8 b_weights, aI cI (b 6) 4 b_keySlots, aI cI (b 7) 4 b_keyBys, aI cI (b 8) 4 b_keyWays, oX2 h h_next h_count, aQ cQ (h 1) 16 (hB pl)] ++ plW cI cJ pl 18) sz)) 9 188 (va_A ([oX0 b b_keyCount b_sheetSet b_handSort b_handNumber, aI cI (b 1) 6 b_kinds, aI cI (b 2) 6 b_sizes, aI cI (b 3) 72 b_sorts, aJ cJ (b 4) 72 b_numbers, aI cI (b 5) 8 b_weights, aI cI (b 6) 4 b_keySlots, aI cI (b 7) 4 b_keyBys, aI cI (b 8) 4 b_keyWays, oX2 h h_next h_count, aQ cQ (h 1) 16 (hB pl)] ++ plW cI cJ pl 18) sz) := by
  refine stW (cc := cX2_remember) (maxL := 4) (ret := none) (Qf := fun A => QpV D zr (fun u => u.2.2) (fun u q => [oX0 b b_keyCount b_sheetSet b_handSort b_handNumber, aI cI (b 1) 6 b_kinds, aI cI (b 2) 6 b_sizes, aI cI (b 3) 72 b_sorts, aJ cJ (b 4) 72 b_numbers, aI cI (b 5) 8 b_weights, aI cI (b 6) 4 b_keySlots, aI cI (b 7) 4 b_keyBys, aI cI (b 8) 4 b_keyWays, oX2 h u.1 u.2.1, aQ cQ (h 1) 16 (hB q)] ++ plW cI cJ q 18) pl A) (by decide +kernel) rfl (Nat.le_of_ble_eq_true rfl) ?_
  intro p e s m args below meth c A C0 hr hlocks hname hsz hP hD hA hAb hE ls hl
  obtain ⟨hx, hb, hml, hown, hts⟩ := id C0
  have hown : s.vm.findClass RX2 = some m.cls := hown
  obtain ⟨hK, hNW, -, tw, hZ, hT⟩ := id hE
  have hl : lv_has ls 4 [(0, .ref (h 0)), (1, .ref (b 0))] := hl
  have hS : va_S A s.heap s.heap [] := va_S.rf
  have hI_X2 := (show ∀ w ∈ wsX20, w ∈ wsX2_remember by decide +kernel)
  have hI_X0 := (show ∀ w ∈ wsX00, w ∈ wsX2_remember by decide +kernel)
  have gf17 := hts (.fieldLink RX2 17 "RowRanks$History" "next" "I") (by decide +kernel)
  have gf11 := hts (.fieldLink RX2 11 "RowRanks$History" "before" "[LRowRanks$Bench;") (by decide +kernel)
  have gf32 := hts (.fieldLink RX2 32 "RowRanks$History" "count" "I") (by decide +kernel)
  have gl35 := hts (.methodLink RX2 35 Lib.Math.min.name) (by decide +kernel)
  have gmmin2 := hts (.static Lib.Math.min.name) (by decide +kernel)
  have gmI := hts (.initialized "java/lang/Math") (by decide +kernel)
  have gmmin4 := hts (.code Lib.Math.min.name Lib.Math.min.code 2 (some .int)) (by decide +kernel)
  unfold f_X2_remember at hf
  have J36 : ∀ (z1 : Int32) (o : Nat → Nat) (u : BT) (g : Nat → Option Nat) (H : Heap) (locs : List Loc) (ls : Array Slot), ib z1 16 = true → g = hB (va_up pl z1.toNatClampNeg (some (o, u))) → va_P D vwCl ([oX0 b b_keyCount b_sheetSet b_handSort b_handNumber, aI cI (b 1) 6 b_kinds, aI cI (b 2) 6 b_sizes, aI cI (b 3) 72 b_sorts, aJ cJ (b 4) 72 b_numbers, aI cI (b 5) 8 b_weights, aI cI (b 6) 4 b_keySlots, aI cI (b 7) 4 b_keyBys, aI cI (b 8) 4 b_keyWays, oX2 h h_next h_count, aQ cQ (h 1) 16 g] ++ (wB cI cJ o u ++ plW cI cJ (va_up pl z1.toNatClampNeg none) 18)) H → va_D A ([oX0 b b_keyCount b_sheetSet b_handSort b_handNumber, aI cI (b 1) 6 b_kinds, aI cI (b 2) 6 b_sizes, aI cI (b 3) 72 b_sorts, aJ cJ (b 4) 72 b_numbers, aI cI (b 5) 8 b_weights, aI cI (b 6) 4 b_keySlots, aI cI (b 7) 4 b_keyBys, aI cI (b 8) 4 b_keyWays, oX2 h h_next h_count, aQ cQ (h 1) 16 g] ++ (wB cI cJ o u ++ plW cI cJ (va_up pl z1.toNatClampNeg none) 18)) → va_S A s.heap H locs → lv_has ls 4 [(3, .ref (o 0)), (2, .int z1), (0, .ref (h 0)), (1, .ref (b 0))] → (f_X0_copyFrom u.1 u.2.1 u.2.2.1 u.2.2.2.1 u.2.2.2.2.1 u.2.2.2.2.2.1 u.2.2.2.2.2.2.1 u.2.2.2.2.2.2.2.1 u.2.2.2.2.2.2.2.2.1 u.2.2.2.2.2.2.2.2.2.1 u.2.2.2.2.2.2.2.2.2.2.1 u.2.2.2.2.2.2.2.2.2.2.2 b_kinds b_sizes b_sorts b_numbers b_weights b_keySlots b_keyBys b_keyWays b_keyCount b_sheetSet b_handSort b_handNumber).bind (fun z2 => some (z1 + 1, (if 16 < h_count + 1 then 16 else h_count + 1), va_up P_hs z1.toNatClampNeg (some z2))) = some zr → W p l e { frames := 2, cells := 9, slots := 188, locals := 59 } s m args below meth c H locs 9 188 (MQ below (QpV D zr (fun u => u.2.2) (fun u q => [oX0 b b_keyCount b_sheetSet b_handSort b_handNumber, aI cI (b 1) 6 b_kinds, aI cI (b 2) 6 b_sizes, aI cI (b 3) 72 b_sorts, aJ cJ (b 4) 72 b_numbers, aI cI (b 5) 8 b_weights, aI cI (b 6) 4 b_keySlots, aI cI (b 7) 4 b_keyBys, aI cI (b 8) 4 b_keyWays, oX2 h u.1 u.2.1, aQ cQ (h 1) 16 (hB q)] ++ plW cI cJ q 18) pl A) args s 9 188 A) (F0 m 36 ls []) := by
    intro z1 o u g H locs ls hz1 hg hP hD hS hl hf
    refine lv_aload_n hx hb dX2_remember_36 rfl (lv_at hl 0 rfl) ?_
    refine lv_aload_n hx hb dX2_remember_37 rfl (lv_at hl 3 rfl) ?_
    obtain ⟨z2, hz2, hf⟩ := obd hf
    refine kwV (runV (As := [.ref (b 0)]) (rest := []) C0 hE hAb hP (hD.weaken (fun _ _ _ h9 => hAb _ h9)) hS [11, 12, 13, 14, 15, 16, 17, 18, 19, 0, 1, 2, 3, 4, 5, 6, 7, 8] (wc := [oX0 o u.2.2.2.2.2.2.2.2.1 u.2.2.2.2.2.2.2.2.2.1 u.2.2.2.2.2.2.2.2.2.2.1 u.2.2.2.2.2.2.2.2.2.2.2, aI cI (o 1) 6 u.1, aI cI (o 2) 6 u.2.1, aI cI (o 3) 72 u.2.2.1, aJ cJ (o 4) 72 u.2.2.2.1, aI cI (o 5) 8 u.2.2.2.2.1, aI cI (o 6) 4 u.2.2.2.2.2.1, aI cI (o 7) 4 u.2.2.2.2.2.2.1, aI cI (o 8) 4 u.2.2.2.2.2.2.2.1, oX0 b b_keyCount b_sheetSet b_handSort b_handNumber, aI cI (b 1) 6 b_kinds, aI cI (b 2) 6 b_sizes, aI cI (b 3) 72 b_sorts, aJ cJ (b 4) 72 b_numbers, aI cI (b 5) 8 b_weights, aI cI (b 6) 4 b_keySlots, aI cI (b 7) 4 b_keyBys, aI cI (b 8) 4 b_keyWays]) (by decide) rfl 11 rfl rfl (c_X0_copyFrom l D cI cJ cZ cQ bs H.size o b u.2.2.2.2.2.2.2.2.1 u.2.2.2.2.2.2.2.2.2.1 u.2.2.2.2.2.2.2.2.2.2.1 u.2.2.2.2.2.2.2.2.2.2.2 u.1 u.2.1 u.2.2.1 u.2.2.2.1 u.2.2.2.2.1 u.2.2.2.2.2.1 u.2.2.2.2.2.2.1 u.2.2.2.2.2.2.2.1 b_keyCount b_sheetSet b_handSort b_handNumber b_kinds b_sizes b_sorts b_numbers b_weights b_keySlots b_keyBys b_keyWays z2 hz2) (cwV 1 hts gX2_remember_X0_copyFrom rfl rfl rfl (by decide +kernel) ⟨Nat.le_of_ble_eq_true rfl, Nat.le_of_ble_eq_true rfl⟩) rfl hl.1 rfl (Nat.le_of_ble_eq_true rfl) dX2_remember_38 ⟨Nat.le_of_ble_eq_true rfl, Nat.le_of_ble_eq_true rfl⟩) hS hP hD hA [11, 12, 13, 14, 15, 16, 17, 18, 19, 0, 1, 2, 3, 4, 5, 6, 7, 8] rfl rfl (ws' := [oX0 b b_keyCount b_sheetSet b_handSort b_handNumber, aI cI (b 1) 6 b_kinds, aI cI (b 2) 6 b_sizes, aI cI (b 3) 72 b_sorts, aJ cJ (b 4) 72 b_numbers, aI cI (b 5) 8 b_weights, aI cI (b 6) 4 b_keySlots, aI cI (b 7) 4 b_keyBys, aI cI (b 8) 4 b_keyWays, oX2 h h_next h_count, aQ cQ (h 1) 16 g] ++ (wB cI cJ o z2 ++ plW cI cJ (va_up pl z1.toNatClampNeg none) 18)) rfl rfl (fun H locs hP hS => ?_)
    have hD : va_D A ([oX0 b b_keyCount b_sheetSet b_handSort b_handNumber, aI cI (b 1) 6 b_kinds, aI cI (b 2) 6 b_sizes, aI cI (b 3) 72 b_sorts, aJ cJ (b 4) 72 b_numbers, aI cI (b 5) 8 b_weights, aI cI (b 6) 4 b_keySlots, aI cI (b 7) 4 b_keyBys, aI cI (b 8) 4 b_keyWays, oX2 h h_next h_count, aQ cQ (h 1) 16 g] ++ (wB cI cJ o z2 ++ plW cI cJ (va_up pl z1.toNatClampNeg none) 18)) := hD.addr rfl
    refine lv_aload_n hx hb dX2_remember_41 rfl (lv_at hl 2 rfl) ?_
    refine lv_iload_n hx hb dX2_remember_42 rfl (lv_at hl 1 rfl) ?_
    refine lv_iconst (v := 1) hx hb dX2_remember_43 (by decide) ?_
    refine lv_iadd hx hb dX2_remember_44 ?_
    refine va_put (D := D) (ci := 2) (v := .int (z1 + 1)) (ty := .int) (C := RX2) (T := TX2) (N := 3) hx hb hts hI_X2 tyX2 tyX2_ok nmX2 hown hK hP hD hS 9 rfl rfl 1 (by decide) gf17 (fun _ h9 => h9) rfl (by decide +kernel) rfl rfl (Nat.le_of_ble_eq_true rfl) dX2_remember_45 (fun H locs hP hD hS => ?_)
    have hP : va_P D vwCl ([oX0 b b_keyCount b_sheetSet b_handSort b_handNumber, aI cI (b 1) 6 b_kinds, aI cI (b 2) 6 b_sizes, aI cI (b 3) 72 b_sorts, aJ cJ (b 4) 72 b_numbers, aI cI (b 5) 8 b_weights, aI cI (b 6) 4 b_keySlots, aI cI (b 7) 4 b_keyBys, aI cI (b 8) 4 b_keyWays, oX2 h (z1 + 1) h_count, aQ cQ (h 1) 16 g] ++ (wB cI cJ o z2 ++ plW cI cJ (va_up pl z1.toNatClampNeg none) 18)) H := hP
    have hD : va_D A ([oX0 b b_keyCount b_sheetSet b_handSort b_handNumber, aI cI (b 1) 6 b_kinds, aI cI (b 2) 6 b_sizes, aI cI (b 3) 72 b_sorts, aJ cJ (b 4) 72 b_numbers, aI cI (b 5) 8 b_weights, aI cI (b 6) 4 b_keySlots, aI cI (b 7) 4 b_keyBys, aI cI (b 8) 4 b_keyWays, oX2 h (z1 + 1) h_count, aQ cQ (h 1) 16 g] ++ (wB cI cJ o z2 ++ plW cI cJ (va_up pl z1.toNatClampNeg none) 18)) := hD
    refine lv_aload_n hx hb dX2_remember_48 rfl (lv_at hl 2 rfl) ?_
    refine lv_aload_n hx hb dX2_remember_49 rfl (lv_at hl 2 rfl) ?_
    refine va_get (D := D) (ci := 2) (v := .int h_count) (C := RX2) (T := TX2) (N := 3) hx hb hts hI_X2 hown hK hP 9 rfl rfl 2 (by decide) gf32 (fun _ h9 => h9) rfl dX2_remember_50 ?_
    refine lv_iconst (v := 1) hx hb dX2_remember_53 (by decide) ?_
    refine lv_iadd hx hb dX2_remember_54 ?_
    refine lv_bipush (v := 16) hx hb dX2_remember_55 (by decide) ?_
    refine va_mmin hx hb (hml.trans hl.1.symm) hown gl35 gmmin2 gmI gmmin4 (Nat.le_of_ble_eq_true rfl) (Nat.le_of_ble_eq_true rfl) (Nat.le_of_ble_eq_true rfl) (Nat.le_of_ble_eq_true rfl) dX2_remember_57 ?_
    refine va_put (D := D) (ci := 2) (v := .int (if 16 < h_count + 1 then 16 else h_count + 1)) (ty := .int) (C := RX2) (T := TX2) (N := 3) hx hb hts hI_X2 tyX2 tyX2_ok nmX2 hown hK hP hD hS 9 rfl rfl 2 (by decide) gf32 (fun _ h9 => h9) rfl (by decide +kernel) rfl rfl (Nat.le_of_ble_eq_true rfl) dX2_remember_60 (fun H locs hP hD hS => ?_)
    have hP : va_P D vwCl ([oX0 b b_keyCount b_sheetSet b_handSort b_handNumber, aI cI (b 1) 6 b_kinds, aI cI (b 2) 6 b_sizes, aI cI (b 3) 72 b_sorts, aJ cJ (b 4) 72 b_numbers, aI cI (b 5) 8 b_weights, aI cI (b 6) 4 b_keySlots, aI cI (b 7) 4 b_keyBys, aI cI (b 8) 4 b_keyWays, oX2 h (z1 + 1) (if 16 < h_count + 1 then 16 else h_count + 1), aQ cQ (h 1) 16 g] ++ (wB cI cJ o z2 ++ plW cI cJ (va_up pl z1.toNatClampNeg none) 18)) H := hP
    have hD : va_D A ([oX0 b b_keyCount b_sheetSet b_handSort b_handNumber, aI cI (b 1) 6 b_kinds, aI cI (b 2) 6 b_sizes, aI cI (b 3) 72 b_sorts, aJ cJ (b 4) 72 b_numbers, aI cI (b 5) 8 b_weights, aI cI (b 6) 4 b_keySlots, aI cI (b 7) 4 b_keyBys, aI cI (b 8) 4 b_keyWays, oX2 h (z1 + 1) (if 16 < h_count + 1 then 16 else h_count + 1), aQ cQ (h 1) 16 g] ++ (wB cI cJ o z2 ++ plW cI cJ (va_up pl z1.toNatClampNeg none) 18)) := hD
    have hpp := (plW_put (cI := cI) (cJ := cJ) (pl := pl) (x := (o, z2)) (ib_lt hz1 |> fun q => (show z1.toNatClampNeg < 18 by omega))).symm
    have hg2 : g = hB (va_up pl z1.toNatClampNeg (some (o, z2))) := by rw [hg]; funext i; by_cases hi : i = z1.toNatClampNeg <;> simp [hB, va_up, hi]
    rw [hg2] at hP hD
    exact rpV (pl' := va_up pl z1.toNatClampNeg (some (o, z2))) (sel := fun u => u.2.2) (wm := (fun u q => [oX0 b b_keyCount b_sheetSet b_handSort b_handNumber, aI cI (b 1) 6 b_kinds, aI cI (b 2) 6 b_sizes, aI cI (b 3) 72 b_sorts, aJ cJ (b 4) 72 b_numbers, aI cI (b 5) 8 b_weights, aI cI (b 6) 4 b_keySlots, aI cI (b 7) 4 b_keyBys, aI cI (b 8) 4 b_keyWays, oX2 h u.1 u.2.1, aQ cQ (h 1) 16 (hB q)] ++ plW cI cJ q 18)) hx hb hr hS dX2_remember_63 (hP.perm (List.Perm.append_left _ hpp)) (hD.perm (List.Perm.append_left _ hpp)) (Option.some.inj hf) (by rw [← hpl]; funext i; by_cases hi : i = z1.toNatClampNeg <;> simp [hsOf, va_up, hi]) (fun i hi => va_up_ne _ _ (by have := ib_lt hz1; omega)) hlocks
  have go : ∀ (H : Heap) (locs : List Loc), va_P D vwCl ([oX0 b b_keyCount b_sheetSet b_handSort b_handNumber, aI cI (b 1) 6 b_kinds, aI cI (b 2) 6 b_sizes, aI cI (b 3) 72 b_sorts, aJ cJ (b 4) 72 b_numbers, aI cI (b 5) 8 b_weights, aI cI (b 6) 4 b_keySlots, aI cI (b 7) 4 b_keyBys, aI cI (b 8) 4 b_keyWays, oX2 h h_next h_count, aQ cQ (h 1) 16 (hB pl)] ++ plW cI cJ pl 18) H → va_D A ([oX0 b b_keyCount b_sheetSet b_handSort b_handNumber, aI cI (b 1) 6 b_kinds, aI cI (b 2) 6 b_sizes, aI cI (b 3) 72 b_sorts, aJ cJ (b 4) 72 b_numbers, aI cI (b 5) 8 b_weights, aI cI (b 6) 4 b_keySlots, aI cI (b 7) 4 b_keyBys, aI cI (b 8) 4 b_keyWays, oX2 h h_next h_count, aQ cQ (h 1) 16 (hB pl)] ++ plW cI cJ pl 18) → va_S A s.heap H locs → W p l e { frames := 2, cells := 9, slots := 188, locals := 59 } s m args below meth c H locs 0 0 (MQ below (QpV D zr (fun u => u.2.2) (fun u q => [oX0 b b_keyCount b_sheetSet b_handSort b_handNumber, aI cI (b 1) 6 b_kinds, aI cI (b 2) 6 b_sizes, aI cI (b 3) 72 b_sorts, aJ cJ (b 4) 72 b_numbers, aI cI (b 5) 8 b_weights, aI cI (b 6) 4 b_keySlots, aI cI (b 7) 4 b_keyBys, aI cI (b 8) 4 b_keyWays, oX2 h u.1 u.2.1, aQ cQ (h 1) 16 (hB q)] ++ plW cI cJ q 18) pl A) args s 9 188 A) (F0 m 0 ls []) := by
    intro H locs hP hD hS
    refine lv_aload_n hx hb dX2_remember_0 rfl (lv_at hl 0 rfl) ?_
    refine va_get (D := D) (ci := 2) (v := .int h_next) (C := RX2) (T := TX2) (N := 3) hx hb hts hI_X2 hown hK hP 9 rfl rfl 1 (by decide) gf17 (fun _ h9 => h9) rfl dX2_remember_1 ?_
    refine lv_bipush (v := 16) hx hb dX2_remember_4 (by decide) ?_
    obtain ⟨z1, hz1, hf⟩ := obd hf
    refine kI (runS (As := [.int h_next, .int 16]) (rest := []) C0 hE hAb hP (hD.weaken (fun _ _ _ h9 => hAb _ h9)) hS [] (wc := []) (by decide) rfl (c_J9_floorMod_7cf53 l D cI cJ cZ cQ bs H.size h_next 16 z1 hz1) (va_cwS 2 hts gX2_remember_J9_floorMod_7cf53 rfl rfl rfl (by decide +kernel) ⟨Nat.le_of_ble_eq_true rfl, Nat.le_of_ble_eq_true rfl⟩) rfl hl.1 rfl (Nat.le_of_ble_eq_true rfl) dX2_remember_6 ⟨Nat.le_of_ble_eq_true rfl, Nat.le_of_ble_eq_true rfl⟩) hS hP (fun H locs hP hS => ?_)
    refine lv_istore_n (lv' := [(2, .int z1), (0, .ref (h 0)), (1, .ref (b 0))]) hx hb dX2_remember_9 rfl hl (by decide) rfl (fun ls hl => ?_)
    refine lv_aload_n hx hb dX2_remember_10 rfl (lv_at hl 1 rfl) ?_
    refine va_get (D := D) (ci := 2) (v := .ref (h 1)) (C := RX2) (T := TX2) (N := 3) hx hb hts hI_X2 hown hK hP 9 rfl rfl 0 (by decide) gf11 (fun _ h9 => h9) rfl dX2_remember_11 ?_
    refine lv_iload_n hx hb dX2_remember_14 rfl (lv_at hl 0 rfl) ?_
    obtain ⟨h3, hf⟩ := ogd hf
    have hj := ib_lt h3
    refine va_aldq hx hb hK hP 10 3 rfl rfl (ib_in h3) dX2_remember_15 ?_
    cases hc : pl z1.toNatClampNeg with
    | some x =>
      refine W.eq (g2 := F0 m 16 ls [.ref (x.1 0)]) (by rw [show hB pl z1.toNatClampNeg = some (x.1 0) by simp [hB, hc]]; rfl) ?_
      refine lv_astore_n (lv' := [(3, .ref (x.1 0)), (2, .int z1), (0, .ref (h 0)), (1, .ref (b 0))]) hx hb dX2_remember_16 rfl hl (by decide) rfl (fun ls hl => ?_)
      refine lv_aload_n hx hb dX2_remember_17 rfl (lv_at hl 0 rfl) ?_
      refine lv_ifnonnull (tgt := 36) hx hb dX2_remember_18 (by decide) ?_
      have pp : (plW cI cJ pl 18).Perm (wB cI cJ x.1 x.2 ++ plW cI cJ (va_up pl z1.toNatClampNeg none) 18) := by have q := plW_pick (cI := cI) (cJ := cJ) (pl := pl) (show z1.toNatClampNeg < 18 by omega); rw [hc] at q; exact q
      rw [show P_hs z1.toNatClampNeg = some x.2 by rw [← hpl]; simp [hsOf, hc]] at hf
      replace hf := orS hf
      refine W.widen (k := 9) (n := 188) (by decide) (by decide) ?_
      exact J36 z1 x.1 x.2 (hB pl) H locs ls h3 (by funext i; by_cases hi : i = z1.toNatClampNeg <;> simp [hB, va_up, hi, hc]) (hP.perm (List.Perm.append_left _ pp)) (hD.perm (List.Perm.append_left _ pp)) hS hl hf
    | none =>
      refine W.eq (g2 := F0 m 16 ls [.null]) (by rw [show hB pl z1.toNatClampNeg = none by simp [hB, hc]]; rfl) ?_
      refine lv_astore_nN (lv' := [(3, .null), (2, .int z1), (0, .ref (h 0)), (1, .ref (b 0))]) hx hb dX2_remember_16 rfl hl (by decide) rfl (fun ls hl => ?_)
      refine lv_aload_nN hx hb dX2_remember_17 rfl (lv_at hl 0 rfl) ?_
      refine lv_ifnonnullN hx hb dX2_remember_18 ?_
      rw [show P_hs z1.toNatClampNeg = none by rw [← hpl]; simp [hsOf, hc]] at hf
      obtain ⟨u, hu, hf⟩ := orN hf
      refine va_new (ci := 0) (fs := [.null, .null, .null, .null, .null, .null, .null, .null, .int 0, .int 0, .int 0, .long 0]) (C := RX0) (T := TX0) (N := 12) hx hb hts hI_X0 tyX0 tyX0_ok hown (hts (.classLink RX2 9 RX0) (by decide +kernel)) (hts (.instantiable RX0 12) (by decide +kernel)) (hts (.initialized RX0) (by decide +kernel)) hK hP hD hS hA rfl dfX0 (Nat.le_of_ble_eq_true rfl) (Nat.le_of_ble_eq_true rfl) dX2_remember_21 (fun q H hP hD hS => ?_)
      refine lv_dup hx hb dX2_remember_24 rfl ?_
      refine kN (runI1 (rest := [.ref q]) C0 hE hAb hP hD hS (c_X0_init l D cI cJ cZ cQ bs H.size q u hu) (cwI 0 hts gX2_remember_X0_init rfl rfl rfl (hts (.initialized RX0) (by decide +kernel)) (hts (.methodLink RX2 27 yX0_init) (by decide +kernel)) (hts (.instanceMethod yX0_init) (by decide +kernel)) rfl (by decide +kernel) ⟨Nat.le_of_ble_eq_true rfl, Nat.le_of_ble_eq_true rfl⟩) hl.1 rfl (Nat.le_of_ble_eq_true rfl) dX2_remember_25 ⟨Nat.le_of_ble_eq_true rfl, Nat.le_of_ble_eq_true rfl⟩) hS hP hD hA (fun o H locs ho hP hD hS => ?_)
      refine W.eq (g2 := F0 m 28 ls [.ref (o 0)]) (by rw [ho]) ?_
      refine lv_astore_n (lv' := [(3, .ref (o 0)), (2, .int z1), (0, .ref (h 0)), (1, .ref (b 0))]) hx hb dX2_remember_28 rfl hl (by decide) rfl (fun ls hl => ?_)
      have pp : (([oX0 b b_keyCount b_sheetSet b_handSort b_handNumber, aI cI (b 1) 6 b_kinds, aI cI (b 2) 6 b_sizes, aI cI (b 3) 72 b_sorts, aJ cJ (b 4) 72 b_numbers, aI cI (b 5) 8 b_weights, aI cI (b 6) 4 b_keySlots, aI cI (b 7) 4 b_keyBys, aI cI (b 8) 4 b_keyWays, oX2 h h_next h_count, aQ cQ (h 1) 16 (hB pl)] ++ plW cI cJ pl 18) ++ wB cI cJ o u).Perm ([oX0 b b_keyCount b_sheetSet b_handSort b_handNumber, aI cI (b 1) 6 b_kinds, aI cI (b 2) 6 b_sizes, aI cI (b 3) 72 b_sorts, aJ cJ (b 4) 72 b_numbers, aI cI (b 5) 8 b_weights, aI cI (b 6) 4 b_keySlots, aI cI (b 7) 4 b_keyBys, aI cI (b 8) 4 b_keyWays, oX2 h h_next h_count, aQ cQ (h 1) 16 (hB pl)] ++ (wB cI cJ o u ++ plW cI cJ (va_up pl z1.toNatClampNeg none) 18)) := by rw [List.append_assoc, plW_congr (show ∀ i, i < 18 → pl i = va_up pl z1.toNatClampNeg none i from fun i _ => by by_cases hi : i = z1.toNatClampNeg <;> simp [va_up, hi, hc])]; exact List.Perm.append_left _ List.perm_append_comm
      have hP : va_P D vwCl ([oX0 b b_keyCount b_sheetSet b_handSort b_handNumber, aI cI (b 1) 6 b_kinds, aI cI (b 2) 6 b_sizes, aI cI (b 3) 72 b_sorts, aJ cJ (b 4) 72 b_numbers, aI cI (b 5) 8 b_weights, aI cI (b 6) 4 b_keySlots, aI cI (b 7) 4 b_keyBys, aI cI (b 8) 4 b_keyWays, oX2 h h_next h_count, aQ cQ (h 1) 16 (hB pl)] ++ (wB cI cJ o u ++ plW cI cJ (va_up pl z1.toNatClampNeg none) 18)) H := va_P.perm hP pp
      have hD : va_D A ([oX0 b b_keyCount b_sheetSet b_handSort b_handNumber, aI cI (b 1) 6 b_kinds, aI cI (b 2) 6 b_sizes, aI cI (b 3) 72 b_sorts, aJ cJ (b 4) 72 b_numbers, aI cI (b 5) 8 b_weights, aI cI (b 6) 4 b_keySlots, aI cI (b 7) 4 b_keyBys, aI cI (b 8) 4 b_keyWays, oX2 h h_next h_count, aQ cQ (h 1) 16 (hB pl)] ++ (wB cI cJ o u ++ plW cI cJ (va_up pl z1.toNatClampNeg none) 18)) := va_D.perm hD pp
      refine lv_aload_n hx hb dX2_remember_29 rfl (lv_at hl 2 rfl) ?_
      refine va_get (D := D) (ci := 2) (v := .ref (h 1)) (C := RX2) (T := TX2) (N := 3) hx hb hts hI_X2 hown hK hP 9 rfl rfl 0 (by decide) gf11 (fun _ h9 => h9) rfl dX2_remember_30 ?_
      refine lv_iload_n hx hb dX2_remember_33 rfl (lv_at hl 1 rfl) ?_
      refine lv_aload_n hx hb dX2_remember_34 rfl (lv_at hl 0 rfl) ?_
      refine va_astq (r := (RX0, TX0, 12)) hx hb hK hP hD hS 10 3 11 0 rfl rfl rfl rfl (ib_in h3) dX2_remember_35 (fun H locs hP hD hS => ?_)
      refine W.widen (k := 9) (n := 188) (by decide) (by decide) ?_
      exact J36 z1 o u (va_up (hB pl) z1.toNatClampNeg (some (o 0))) H locs ls h3 (by funext i; by_cases hi : i = z1.toNatClampNeg <;> simp [hB, va_up, hi]) hP hD hS hl hf
  exact go s.heap [] hP hD hS
