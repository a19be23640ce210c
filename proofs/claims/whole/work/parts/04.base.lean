/-! words of this proof: the environment that every method of the class is called in, the cells by name, what a reader and a writer promise -/
def no : Nat → Prop := fun _ => False
abbrev gT (cI cJ cZ cQ : ClassId) : List (ClassId × FieldType) := [(cI, .int), (cJ, .long), (cZ, .boolean), (cQ, .object "RowRanks$Bench")]
/-- links to private members of a nest mate -/
def nestW : List Cond := [.methodLinkNest RX5 18 yX2_init RX5, .methodLinkNest RX5 25 yX1_init RX5, .methodLinkNest RX5 32 yX4_init RX5, .methodLinkNest RX5 42 yX3_init RX5, .methodLinkNest RX0 83 yX5_fits RX5, .methodLinkNest RX0 99 yX5_made RX5, .methodLinkNest RX0 79 yX5_isIn RX5, .methodLinkNest RX0 121 yX5_isTag RX5, .methodLinkNest RX0 165 yX5_relation RX5, .methodLinkNest RX0 61 yX5_isSlot RX5, .fieldLinkNest RX5 59 RX0 "keyCount" "I" RX5, .fieldLinkNest RX5 62 RX0 "sheetSet" "I" RX5, .fieldLinkNest RX3 26 RX0 "sheetSet" "I" RX5, .fieldLinkNest RX5 129 RX0 "handSort" "I" RX5, .fieldLinkNest RX5 132 RX0 "handNumber" "J" RX5, .fieldLinkNest RX5 93 RX2 "count" "I" RX5, .fieldLinkNest RX5 82 RX1 "count" "I" RX5, .fieldLinkNest RX5 240 RX4 "length" "I" RX5]
def isN : Cond → Bool
  | .fieldLinkNest _ _ _ _ _ _ => true
  | .methodLinkNest _ _ _ _ => true
  | _ => false
theorem isN_warm {w : Cond} (h : isN w = true) {s U : State} (hW : s.WarmedH U.vm) (hZ : va_Nw w s) : va_Nw w U := by
  cases w <;> first
    | exact va_Nw.warmF hW hZ
    | exact va_Nw.warmM hW hZ
    | (simp [isN] at h)
theorem isN_tab {w : Cond} (h : isN w = true) : w.onTables = true := by
  cases w <;> first
    | rfl
    | (simp [isN] at h)
def NW (U : State) : Prop := ∀ w ∈ nestW, va_Nw w U
theorem nestW_N : ∀ w ∈ nestW, isN w = true := by decide +kernel
theorem NW.warm {s U : State} (hW : s.WarmedH U.vm) (h : NW s) : NW U := fun w hw => isN_warm (nestW_N w hw) hW (h w hw)
def wdF : Nat → Int32 := fun j => [1, 250, 244, 248, 240, 224, 192, 128, 0, 0].getD j 0
/-- what stands in every call: the tables, the links, the static row of the widenings below bs, where no object of the law lies -/
def Ev (D : va_G) (cI cJ cZ cQ : ClassId) (bs : Nat) (U : State) : Prop :=
  va_K D vwCl (gT cI cJ cZ cQ) U ∧ NW U ∧ (bs ≤ U.heap.size ∧ va_AO RX0 U) ∧ ∃ t : Nat, va_Z RX5 "WIDENS" "[I" (.ref t) (fun q => bs ≤ q) U U.heap ∧ va_T .int t 10 (fun j => .int (wdF j)) (fun q => bs ≤ q) U U.heap
def Pr (D : va_G) (cI cJ cZ cQ : ClassId) (bs sz : Nat) (ws : va_W) (U : State) : Prop :=
  U.heap.size = sz ∧ va_P D vwCl ws U.heap ∧ va_D (fun q => bs ≤ q) ws ∧ Ev D cI cJ cZ cQ bs U
theorem Ev.next {D : va_G} {cI cJ cZ cQ : ClassId} {bs : Nat} {s U : State} {A : Nat → Prop} {H : Heap} {locs : List Loc} (h : Ev D cI cJ cZ cQ bs s) (hS : va_S A s.heap H locs) (hAb : ∀ q, A q → bs ≤ q) (hU : U.heap = H) (hW : s.WarmedH U.vm) : Ev D cI cJ cZ cQ bs U := by
  obtain ⟨h1, h2, h3, t, h4, h5⟩ := h
  have hq : ∀ a : Nat, a < s.heap.size → ¬ bs ≤ a → U.heap[a]? = s.heap[a]? := fun a ha hb => by rw [hU]; exact hS.2.1 a ha (fun x => hb (hAb a x))
  exact ⟨va_K.moved hW.alike h1, NW.warm hW h2, ⟨by rw [hU]; exact Nat.le_trans h3.1 hS.1, va_AO.moved hW.alike h3.2⟩, t, (va_Z.moved hW.alike h4).kept hq, (va_T.moved hW.alike h5).kept hq⟩
theorem Ev.call {D : va_G} {cI cJ cZ cQ : ClassId} {bs : Nat} {U : State} (h : Ev D cI cJ cZ cQ bs U) (g : JFrame) (mk : MethodId) (a : Array Value) : Ev D cI cJ cZ cQ bs (U.calling g mk a) := by
  obtain ⟨h1, h2, h3, t, h4, h5⟩ := h
  exact ⟨va_K.moved (u := U) (U := U.calling g mk a) (Vm.Alike.refl U.vm) h1, fun w hw => va_Nw.same (u := U) (U := U.calling g mk a) (isN_tab (nestW_N w hw)) rfl (h2 w hw), ⟨h3.1, va_AO.moved (u := U) (U := U.calling g mk a) (Vm.Alike.refl U.vm) h3.2⟩, t, va_Z.moved (u := U) (U := U.calling g mk a) (Vm.Alike.refl U.vm) h4, va_T.moved (u := U) (U := U.calling g mk a) (Vm.Alike.refl U.vm) h5⟩
theorem Pr.blind {D : va_G} {cI cJ cZ cQ : ClassId} {bs sz : Nat} {ws : va_W} {av : List Value} : FrameBlind (va_Pc av (Pr D cI cJ cZ cQ bs sz ws)) := by
  intro a U g mk h
  obtain ⟨h0, h1, h2, h3, h4⟩ := h
  exact ⟨h0, h1, h2, h3, h4.call g mk a⟩
/-! options: how the pure words of a method are read along its walk -/
theorem oif {α : Type} {c : Prop} [Decidable c] {a b r : α} (h : c) (e : (if c then a else b) = r) : a = r := by rwa [if_pos h] at e
theorem oel {α : Type} {c : Prop} [Decidable c] {a b r : α} (h : ¬ c) (e : (if c then a else b) = r) : b = r := by rwa [if_neg h] at e
theorem obd {α β : Type} {o : Option α} {g : α → Option β} {r : β} (h : o.bind g = some r) : ∃ z, o = some z ∧ g z = some r := by
  cases o with
  | none => simp at h
  | some x => exact ⟨x, rfl, h⟩
theorem ogd {α : Type} {c : Prop} [Decidable c] {a : Option α} {r : α} (e : (if c then a else none) = some r) : c ∧ a = some r := by
  by_cases h : c
  · exact ⟨h, by rwa [if_pos h] at e⟩
  · rw [if_neg h] at e; cases e
theorem onm {α β : Type} {x y : α} {g : α → Option β} {r : β} (e : y = x) (h : (some x).bind g = some r) : g y = some r := by rw [e]; exact h
/-- an index in its row -/
def ib (i : Int32) (n : Nat) : Bool := !(decide (i < 0) || decide (n ≤ i.toNatClampNeg))
theorem ib_in {i : Int32} {n : Nat} (h : ib i n = true) : vp_in i n := by
  unfold ib at h
  unfold vp_in
  simpa using h
/-! the cells by name -/
abbrev oX0 (b : Nat → Nat) (kc ss hs : Int32) (hn : Int64) : Nat × va_E := (b 0, .inr (0, [.ref (b 1), .ref (b 2), .ref (b 3), .ref (b 4), .ref (b 5), .ref (b 6), .ref (b 7), .ref (b 8), .int kc, .int ss, .int hs, .long hn]))
abbrev oX1 (b : Nat → Nat) (ct : Int32) : Nat × va_E := (b 0, .inr (1, [.ref (b 1), .ref (b 2), .int ct]))
abbrev oX2 (b : Nat → Nat) (nx ct : Int32) : Nat × va_E := (b 0, .inr (2, [.ref (b 1), .int nx, .int ct]))
abbrev oX3 (b : Nat → Nat) (ct : Int32) : Nat × va_E := (b 0, .inr (3, [.ref (b 1), .ref (b 2), .ref (b 3), .int ct]))
abbrev oX4 (b : Nat → Nat) (ln : Int32) : Nat × va_E := (b 0, .inr (4, [.ref (b 1), .ref (b 2), .ref (b 3), .ref (b 4), .int ln]))
abbrev oX5 (x b h k r r2 m : Nat → Nat) (rd : Int32) : Nat × va_E := (x 0, .inr (5, [.ref (b 0), .ref (h 0), .ref (k 0), .ref (r 0), .ref (r2 0), .ref (m 0), .ref (x 1), .ref (x 2), .int rd]))
abbrev oX6 (b : Nat → Nat) (un sd en : Int32) : Nat × va_E := (b 0, .inr (6, [.ref (b 1), .ref (b 2), .ref (b 3), .int un, .int sd, .int en, .ref (b 4), .ref (b 5), .ref (b 6), .ref (b 7), .ref (b 8), .ref (b 9)]))
abbrev aI (cI : ClassId) (q n : Nat) (f : Nat → Int32) : Nat × va_E := (q, .inl (cI, n, .inl f))
abbrev aJ (cJ : ClassId) (q n : Nat) (f : Nat → Int64) : Nat × va_E := (q, .inl (cJ, n, .inr (.inl f)))
abbrev aQ (cQ : ClassId) (q n : Nat) (f : Nat → Option Nat) : Nat × va_E := (q, .inl (cQ, n, .inr (.inr (.inr (.inr f)))))
/-! worlds: what comes back from a call is put into its places -/
def setAll (ws : va_W) (l : List (Nat × (Nat × va_E))) : va_W := l.foldl (fun w p => w.set p.1 p.2) ws
theorem setAll_get : ∀ (l : List (Nat × (Nat × va_E))) (ws : va_W) (k : Nat) (q : Nat × va_E), (setAll ws l)[k]? = some q → (k, q) ∈ l ∨ ((∀ p ∈ l, p.1 ≠ k) ∧ ws[k]? = some q)
  | [], ws, k, q, h => Or.inr ⟨(fun p hp => absurd hp List.not_mem_nil), h⟩
  | p :: l, ws, k, q, h => by
    have h1 := setAll_get l (ws.set p.1 p.2) k q h
    rcases h1 with h1 | ⟨h1, h2⟩
    · exact Or.inl (List.mem_cons_of_mem _ h1)
    · by_cases hk : p.1 = k
      · subst hk
        have hl : p.1 < (ws.set p.1 p.2).length := (List.getElem?_eq_some_iff.mp h2).1
        rw [List.length_set] at hl
        rw [List.getElem?_set_self hl] at h2
        cases h2
        exact Or.inl List.mem_cons_self
      · rw [List.getElem?_set_ne hk] at h2
        refine Or.inr ⟨fun p' hp' => ?_, h2⟩
        rcases List.mem_cons.mp hp' with rfl | hp'
        · exact hk
        · exact h1 p' hp'
theorem va_D.addr {A : Nat → Prop} {ws ws' : va_W} (h : va_D A ws) (he : ws'.map Prod.fst = ws.map Prod.fst) : va_D A ws' := by
  have key : ∀ (k : Nat) (q : Nat × va_E), ws'[k]? = some q → ∃ q0, ws[k]? = some q0 ∧ q0.1 = q.1 := by
    intro k q hq
    have h1 : (ws'.map Prod.fst)[k]? = some q.1 := by rw [List.getElem?_map, hq]; rfl
    rw [he, List.getElem?_map] at h1
    cases h2 : ws[k]? with
    | none => rw [h2] at h1; cases h1
    | some q0 => rw [h2] at h1; exact ⟨q0, rfl, Option.some.inj h1⟩
  refine ⟨fun i j p q hi hj hpq => ?_, fun k q hk => ?_⟩
  · obtain ⟨p0, a1, a2⟩ := key i p hi
    obtain ⟨q0, b1, b2⟩ := key j q hj
    exact h.1 i j p0 q0 a1 b1 (a2.trans (hpq.trans b2.symm))
  · obtain ⟨q0, a1, a2⟩ := key k q hk
    rw [← a2]
    exact h.2 k q0 a1
/-- behind a call that writes: the callee's cells, at their places in the caller's world -/
theorem joinW {D : va_G} {cl : List vw_C} {A0 : Nat → Prop} {ws wc w1 : va_W} {H H1 : Heap} (hP : va_P D cl ws H) (hD : va_D A0 ws) (isC : List Nat) (hC : isC.map (fun i => ws[i]?) = wc.map some)
    (hk : ∀ q : Nat, q < H.size → ¬ va_A wc H.size q → H1[q]? = H[q]?) (hP1 : va_P D cl w1 H1) (hl : w1.length = isC.length) {ws' : va_W} (hs : setAll ws (isC.zip w1) = ws') (ha : ws'.map Prod.fst = ws.map Prod.fst) : va_P D cl ws' H1 ∧ va_D A0 ws' := by
  refine ⟨?_, hD.addr ha⟩
  intro k q hq
  rw [← hs] at hq
  rcases setAll_get _ _ _ _ hq with h | ⟨h1, h2⟩
  · obtain ⟨i, hi⟩ := List.getElem?_of_mem (List.of_mem_zip h).2
    exact hP1 i q hi
  · have hlt := (hP k q h2).lt
    refine (hP k q h2).kept (hk q.1 hlt ?_)
    rintro (⟨j, e, hj⟩ | hj)
    · have h3 : (isC.map (fun i => ws[i]?))[j]? = some (some (q.1, e)) := by rw [hC, List.getElem?_map, hj]; rfl
      rw [List.getElem?_map] at h3
      cases hi : isC[j]? with
      | none => rw [hi] at h3; cases h3
      | some i =>
        rw [hi] at h3
        have h4 : ws[i]? = some (q.1, e) := Option.some.inj h3
        have h5 : k = i := hD.1 k i q (q.1, e) h2 h4 rfl
        have hjl : j < isC.length := (List.getElem?_eq_some_iff.mp hi).1
        have hjw : j < w1.length := by rw [hl]; exact hjl
        have hz : (isC.zip w1)[j]? = some (i, w1[j]) := by
          rw [List.getElem?_zip_eq_some]
          exact ⟨hi, List.getElem?_eq_getElem hjw⟩
        exact h1 _ (List.mem_of_getElem? hz) h5.symm
    · omega
/-! what a reader and a writer promise -/
abbrev QrI (z : Int32) : Array Value → State → Outcome → State → Prop := va_Qi (fun r (_ : Unit) => r = z) (fun _ _ => True) no
abbrev QrZ (z : Int32) : Array Value → State → Outcome → State → Prop := va_Qi (fun r (_ : Unit) => r = z ∧ (r = 0 ∨ r = 1)) (fun _ _ => True) no
abbrev QrJ (z : Int64) : Array Value → State → Outcome → State → Prop := va_Ql (fun r (_ : Unit) => r = z) (fun _ _ => True) no
/-- a method's start -/
theorem stM {l : Launch} {y : MethodName} {ws ws' : List Cond} {rm : Room} {cc : ByteArray} {maxL : Nat} {ret : Option FieldType} {av : List Value} {D : va_G} {cI cJ cZ cQ : ClassId} {bs sz : Nat} {wl : va_W} {Qc : Array Value → State → Outcome → State → Prop} {mc ms : Nat} {free : Nat → Prop}
    (hy : plainName y.cls = true) (hw : ws = Cond.code y cc maxL ret :: ws') (hlen : (lg_sl av).length ≤ maxL)
    (body : ∀ (p : Program) (e : Env) (s : State) (m : MethodId) (args : Array Value) (below : List Frame) (meth : Method) (c : Code), CallFix p m c cc maxL s args ws y.cls → meth.sig.returnType = ret → meth.locks = false → meth.name = y.name → s.heap.size = sz → va_P D vwCl wl s.heap → va_D (fun q => bs ≤ q) wl → Ev D cI cJ cZ cQ bs s →
      ∀ ls : Array Slot, lv_has ls maxL (lv_args 0 av) → W p l e rm s m args below meth c s.heap [] 0 0 (MQ below Qc args s mc ms free) (F0 m 0 ls [])) : Met l y ws rm (va_Pc av (Pr D cI cJ cZ cQ bs sz wl)) Qc mc ms free := by
  refine Met.ofW (cc := cc) (maxL := maxL) (ret := ret) hy hw ?_
  intro p e s m args below meth c s₁ B hml hv
  obtain ⟨rfl, hsz, hP, hD, hE⟩ := hv
  rw [lg_entry_eq]
  exact body p e s m _ below meth c ⟨B.exec, B.bytes, hml, findClass_of_methodNamed B.named, atoms_spec (ws := ws) B.pre⟩ B.returns B.notSynchronized (name_of_methodNamed B.named B.method).1 hsz hP hD hE _ (lv_entry av hlen)
theorem osl {α β γ : Type} {a : α} {f : α → γ} {g : β → γ} {r : γ} (h : Sum.elim f g (Sum.inl a) = r) : f a = r := h
theorem va_A_base {ws : va_W} {sz bs : Nat} (h : va_D (fun q => bs ≤ q) ws) (hb : bs ≤ sz) : ∀ q, va_A ws sz q → bs ≤ q := by
  rintro q (⟨k, e, hk⟩ | hq)
  · exact h.2 k (q, e) hk
  · exact Nat.le_trans hb hq
/-- a start of a method that writes -/
theorem stW {l : Launch} {y : MethodName} {ws ws' : List Cond} {rm : Room} {cc : ByteArray} {maxL : Nat} {ret : Option FieldType} {av : List Value} {D : va_G} {cI cJ cZ cQ : ClassId} {bs sz : Nat} {wl : va_W} {Qf : (Nat → Prop) → Array Value → State → Outcome → State → Prop} {mc ms : Nat}
    (hy : plainName y.cls = true) (hw : ws = Cond.code y cc maxL ret :: ws') (hlen : (lg_sl av).length ≤ maxL)
    (body : ∀ (p : Program) (e : Env) (s : State) (m : MethodId) (args : Array Value) (below : List Frame) (meth : Method) (c : Code) (A : Nat → Prop), CallFix p m c cc maxL s args ws y.cls → meth.sig.returnType = ret → meth.locks = false → meth.name = y.name → s.heap.size = sz → va_P D vwCl wl s.heap → va_D A wl → (∀ q, s.heap.size ≤ q → A q) → (∀ q, A q → bs ≤ q) → Ev D cI cJ cZ cQ bs s →
      ∀ ls : Array Slot, lv_has ls maxL (lv_args 0 av) → W p l e rm s m args below meth c s.heap [] 0 0 (MQ below (Qf A) args s mc ms A) (F0 m 0 ls [])) : Met l y ws rm (va_Pc av (Pr D cI cJ cZ cQ bs sz wl)) (Qf (va_A wl sz)) mc ms (va_A wl sz) := by
  refine stM hy hw hlen ?_
  intro p e s m args below meth c C0 hr hlocks hname hsz hP hD hE ls hl
  exact body p e s m args below meth c (va_A wl sz) C0 hr hlocks hname hsz hP hD.self (fun q h => Or.inr (by rw [← hsz]; exact h)) (va_A_base hD (by rw [← hsz]; exact hE.2.2.1.1)) hE ls hl
section RT
variable {p : Program} {l : Launch} {e : Env} {R : Room} {s : State} {m : MethodId} {args : Array Value} {below : List Frame} {meth : Method} {c : Code} {H : Heap} {locs : List Loc} {cells slots : Nat} {Q : State → Prop} {cc : ByteArray} {pc : Nat} {ls : Array Slot} {A : Nat → Prop} {D : va_G}
theorem cgI {x y : Int32} {rest : List Value} (h : x = y) (k : W p l e R s m args below meth c H locs cells slots Q (F0 m pc ls (.int y :: rest))) : W p l e R s m args below meth c H locs cells slots Q (F0 m pc ls (.int x :: rest)) := by rw [h]; exact k
theorem rtI {v z : Int32} (hx : p.tables.exec = Jvm.exec) (hb : c.code = cc) (hr : meth.sig.returnType = some .int) (hS : va_S no s.heap H locs) (hdg : decode cc pc = .ok (.ireturn, 1)) (hv : v = z) (hlocks : meth.locks = false) : W p l e R s m args below meth c H locs cells slots (MQ below (QrI z) args s cells slots no) (F0 m pc ls [.int v]) :=
  W.iret hx hb hr (fun t ht hW => ⟨⟨v, (), rfl, hv, trivial⟩, hS.F ht⟩) hS.2.2 hdg hlocks
theorem nar01 {v : Int32} (h : v = 0 ∨ v = 1) : narrow .boolean (.int v) = .int v := by rcases h with rfl | rfl <;> rfl
theorem rtZ {v z : Int32} (hx : p.tables.exec = Jvm.exec) (hb : c.code = cc) (hr : meth.sig.returnType = some .boolean) (hS : va_S no s.heap H locs) (hdg : decode cc pc = .ok (.ireturn, 1)) (hv : v = z) (h01 : v = 0 ∨ v = 1) (hlocks : meth.locks = false) : W p l e R s m args below meth c H locs cells slots (MQ below (QrZ z) args s cells slots no) (F0 m pc ls [.int v]) :=
  W.zret hx hb hr (nar01 h01) (fun t ht hW => ⟨⟨v, (), rfl, ⟨hv, h01⟩, trivial⟩, hS.F ht⟩) hS.2.2 hdg hlocks
theorem rtJ {v z : Int64} (hx : p.tables.exec = Jvm.exec) (hb : c.code = cc) (hr : meth.sig.returnType = some .long) (hS : va_S no s.heap H locs) (hdg : decode cc pc = .ok (.lreturn, 1)) (hv : v = z) (hlocks : meth.locks = false) : W p l e R s m args below meth c H locs cells slots (MQ below (QrJ z) args s cells slots no) (F0 m pc ls [.long v]) :=
  W.lret hx hb hr (fun t ht hW => ⟨⟨v, (), rfl, hv, trivial⟩, hS.F ht⟩) hS.2.2 hdg hlocks
end RT
/-! a writer's promise: what its cells hold then -/
abbrev QwV {S : Type} (D : va_G) (z : S) (wm : S → va_W) (A : Nat → Prop) : Array Value → State → Outcome → State → Prop := va_Qv (fun (_ : Unit) => True) (fun _ t => va_P D vwCl (wm z) t.heap) A
abbrev QwI {S : Type} (D : va_G) (z : Int32 × S) (wm : S → va_W) (A : Nat → Prop) : Array Value → State → Outcome → State → Prop := va_Qi (fun r (_ : Unit) => r = z.1) (fun _ t => va_P D vwCl (wm z.2) t.heap) A
abbrev QwZ {S : Type} (D : va_G) (z : Int32 × S) (wm : S → va_W) (A : Nat → Prop) : Array Value → State → Outcome → State → Prop := va_Qi (fun r (_ : Unit) => r = z.1 ∧ (r = 0 ∨ r = 1)) (fun _ t => va_P D vwCl (wm z.2) t.heap) A
abbrev QwJ {S : Type} (D : va_G) (z : Int64 × S) (wm : S → va_W) (A : Nat → Prop) : Array Value → State → Outcome → State → Prop := va_Ql (fun r (_ : Unit) => r = z.1) (fun _ t => va_P D vwCl (wm z.2) t.heap) A
section RW
variable {p : Program} {l : Launch} {e : Env} {R : Room} {s : State} {m : MethodId} {args : Array Value} {below : List Frame} {meth : Method} {c : Code} {H : Heap} {locs : List Loc} {cells slots : Nat} {Q : State → Prop} {cc : ByteArray} {pc : Nat} {ls : Array Slot} {A : Nat → Prop} {D : va_G}
theorem rwV {S : Type} {z u : S} {wm : S → va_W} (hx : p.tables.exec = Jvm.exec) (hb : c.code = cc) (hr : meth.sig.returnType = none) (hS : va_S A s.heap H locs) (hdg : decode cc pc = .ok (.return_, 1)) (hP : va_P D vwCl (wm u) H) (hv : u = z) (hlocks : meth.locks = false) : W p l e R s m args below meth c H locs cells slots (MQ below (QwV D z wm A) args s cells slots A) (F0 m pc ls []) :=
  W.vret hx hb hr (fun t ht hW => ⟨⟨(), rfl, trivial, (show va_P D vwCl (wm z) t.heap by rw [ht, ← hv]; exact hP)⟩, hS.F ht⟩) hS.2.2 hdg hlocks
theorem rwI {S : Type} {v : Int32} {u : S} {z : Int32 × S} {wm : S → va_W} (hx : p.tables.exec = Jvm.exec) (hb : c.code = cc) (hr : meth.sig.returnType = some .int) (hS : va_S A s.heap H locs) (hdg : decode cc pc = .ok (.ireturn, 1)) (hP : va_P D vwCl (wm u) H) (hv : (v, u) = z) (hlocks : meth.locks = false) : W p l e R s m args below meth c H locs cells slots (MQ below (QwI D z wm A) args s cells slots A) (F0 m pc ls [.int v]) :=
  W.iret hx hb hr (fun t ht hW => ⟨⟨v, (), rfl, by rw [← hv], (show va_P D vwCl (wm z.2) t.heap by rw [ht, ← hv]; exact hP)⟩, hS.F ht⟩) hS.2.2 hdg hlocks
theorem rwZ {S : Type} {v : Int32} {u : S} {z : Int32 × S} {wm : S → va_W} (hx : p.tables.exec = Jvm.exec) (hb : c.code = cc) (hr : meth.sig.returnType = some .boolean) (hS : va_S A s.heap H locs) (hdg : decode cc pc = .ok (.ireturn, 1)) (hP : va_P D vwCl (wm u) H) (hv : (v, u) = z) (h01 : v = 0 ∨ v = 1) (hlocks : meth.locks = false) : W p l e R s m args below meth c H locs cells slots (MQ below (QwZ D z wm A) args s cells slots A) (F0 m pc ls [.int v]) :=
  W.zret hx hb hr (nar01 h01) (fun t ht hW => ⟨⟨v, (), rfl, ⟨by rw [← hv], h01⟩, (show va_P D vwCl (wm z.2) t.heap by rw [ht, ← hv]; exact hP)⟩, hS.F ht⟩) hS.2.2 hdg hlocks
theorem rwJ {S : Type} {v : Int64} {u : S} {z : Int64 × S} {wm : S → va_W} (hx : p.tables.exec = Jvm.exec) (hb : c.code = cc) (hr : meth.sig.returnType = some .long) (hS : va_S A s.heap H locs) (hdg : decode cc pc = .ok (.lreturn, 1)) (hP : va_P D vwCl (wm u) H) (hv : (v, u) = z) (hlocks : meth.locks = false) : W p l e R s m args below meth c H locs cells slots (MQ below (QwJ D z wm A) args s cells slots A) (F0 m pc ls [.long v]) :=
  W.lret hx hb hr (fun t ht hW => ⟨⟨v, (), rfl, by rw [← hv], (show va_P D vwCl (wm z.2) t.heap by rw [ht, ← hv]; exact hP)⟩, hS.F ht⟩) hS.2.2 hdg hlocks
end RW
section RUN
variable {p : Program} {l : Launch} {e : Env} {R : Room} {s : State} {m : MethodId} {args : Array Value} {below : List Frame} {meth : Method} {c : Code} {H : Heap} {locs : List Loc} {cells slots : Nat} {Q : State → Prop} {cc : ByteArray} {pc : Nat} {ls : Array Slot} {A : Nat → Prop} {D : va_G} {cI cJ cZ cQ : ClassId} {bs : Nat}
theorem wcP {ws wc : va_W} (hP : va_P D vwCl ws H) (isC : List Nat) (hC : isC.map (fun i => ws[i]?) = wc.map some) : va_P D vwCl wc H := by
  intro k q hk
  have h1 : (isC.map (fun i => ws[i]?))[k]? = some (some q) := by rw [hC, List.getElem?_map, hk]; rfl
  rw [List.getElem?_map] at h1
  cases hi : isC[k]? with
  | none => rw [hi] at h1; cases h1
  | some i => rw [hi] at h1; exact hP i q (Option.some.inj h1)
theorem prGo {ws wc : va_W} (hE : Ev D cI cJ cZ cQ bs s) (hAb : ∀ q, A q → bs ≤ q) (hP : va_P D vwCl ws H) (hD : va_D (fun q => bs ≤ q) ws) (hS : va_S A s.heap H locs) (isC : List Nat) (hn1 : va_nd isC = true) (hC : isC.map (fun i => ws[i]?) = wc.map some) : ∀ U : State, U.heap = H → s.WarmedH U.vm → Pr D cI cJ cZ cQ bs H.size wc U := by
  intro U hU hW
  exact ⟨by rw [hU], by rw [hU]; exact wcP hP isC hC, hD.sub isC hn1 hC, hE.next hS hAb hU hW⟩
variable {y : MethodName} {bytes : ByteArray} {maxL nL mc ms n index : Nat} {ret : Option FieldType} {wsy : List Cond} {rm : Room} {Qc : Array Value → State → Outcome → State → Prop} {free : Addr → Prop} {Ts : List Cond} {own C : String} {T : u_T} {N ci b : Nat} {fs : List Value} {As rest st0 : List Value} {ws wc : va_W}
theorem runV (C0 : CallFix p m c cc nL s args Ts own) (hE : Ev D cI cJ cZ cQ bs s) (hAb : ∀ q, A q → bs ≤ q) (hP : va_P D vwCl ws H) (hD : va_D (fun q => bs ≤ q) ws) (hS : va_S A s.heap H locs) (isC : List Nat) (hn1 : va_nd isC = true) (hC : isC.map (fun i => ws[i]?) = wc.map some) (i0 : Nat) (he : ws[i0]? = some (b, .inr (ci, fs))) (hc : vwCl[ci]? = some (C, T, N))
    (hM : Met l y wsy rm (va_Pc (.ref b :: As) (Pr D cI cJ cZ cQ bs H.size wc)) Qc mc ms free) (cw : CallW R s args own C index y bytes maxL ret wsy rm mc ms n) (hn : As.length = n) (hsize : ls.size = nL) (hst : st0 = As.reverse ++ .ref b :: rest) (hW : (rest.map fun v => v.category).sum ≤ 8) (hdg : decode cc pc = .ok (.invokevirtual index, 3)) (hf : cells + mc ≤ R.cells ∧ slots + ms ≤ R.slots) :
    va_Run p l e R s m args below meth c H locs cells slots mc ms (F0 m pc ls st0) rest (Qc (Value.ref b :: As).toArray) free :=
  va_runV C0 hM cw ⟨Pr.blind, va_recv hE.1 hP hc he, fun U hU hW2 => ⟨rfl, prGo hE hAb hP hD hS isC hn1 hC U hU hW2⟩⟩ rfl hn hsize hst (lv_room hW) hdg hf
theorem runS (C0 : CallFix p m c cc nL s args Ts own) (hE : Ev D cI cJ cZ cQ bs s) (hAb : ∀ q, A q → bs ≤ q) (hP : va_P D vwCl ws H) (hD : va_D (fun q => bs ≤ q) ws) (hS : va_S A s.heap H locs) (isC : List Nat) (hn1 : va_nd isC = true) (hC : isC.map (fun i => ws[i]?) = wc.map some)
    (hM : Met l y wsy rm (va_Pc As (Pr D cI cJ cZ cQ bs H.size wc)) Qc mc ms free) (cw : CallB R s args own index y bytes maxL ret wsy rm mc ms n ∧ (Cond.static y).before args s = true) (hn : As.length = n) (hsize : ls.size = nL) (hst : st0 = As.reverse ++ rest) (hW : (rest.map fun v => v.category).sum ≤ 8) (hdg : decode cc pc = .ok (.invokestatic index, 3)) (hf : cells + mc ≤ R.cells ∧ slots + ms ≤ R.slots) :
    va_Run p l e R s m args below meth c H locs cells slots mc ms (F0 m pc ls st0) rest (Qc As.toArray) free :=
  va_runS C0 hM cw ⟨Pr.blind, fun U hU hW2 => ⟨rfl, prGo hE hAb hP hD hS isC hn1 hC U hU hW2⟩⟩ rfl hn hsize hst (lv_room hW) hdg hf
theorem runSN {host : String} (C0 : CallFix p m c cc nL s args Ts own) (hE : Ev D cI cJ cZ cQ bs s) (hAb : ∀ q, A q → bs ≤ q) (hP : va_P D vwCl ws H) (hD : va_D (fun q => bs ≤ q) ws) (hS : va_S A s.heap H locs) (isC : List Nat) (hn1 : va_nd isC = true) (hC : isC.map (fun i => ws[i]?) = wc.map some)
    (hM : Met l y wsy rm (va_Pc As (Pr D cI cJ cZ cQ bs H.size wc)) Qc mc ms free) (cw : va_CN R s args own index y host bytes maxL ret wsy rm mc ms n) (hst2 : (Cond.static y).before args s = true) (hn : As.length = n) (hsize : ls.size = nL) (hst : st0 = As.reverse ++ rest) (hW : (rest.map fun v => v.category).sum ≤ 8) (hdg : decode cc pc = .ok (.invokestatic index, 3)) (hf : cells + mc ≤ R.cells ∧ slots + ms ≤ R.slots) :
    va_Run p l e R s m args below meth c H locs cells slots mc ms (F0 m pc ls st0) rest (Qc As.toArray) free :=
  va_runSN C0 hM ⟨cw, hst2, trivial⟩ ⟨Pr.blind, fun U hU hW2 => ⟨rfl, prGo hE hAb hP hD hS isC hn1 hC U hU hW2⟩⟩ rfl hn hsize hst (lv_room hW) hdg hf
variable {a : Array Value} {H0 : Heap}
theorem kI {z : Int32} (hr : va_Run p l e R s m args below meth c H locs cells slots 0 0 (F0 m pc ls st0) rest (QrI z a) no) (hS : va_S A H0 H locs) (hP : va_P D vwCl ws H) (kk : ∀ (H1 : Heap) (locs1 : List Loc), va_P D vwCl ws H1 → va_S A H0 H1 locs1 → W p l e R s m args below meth c H1 locs1 cells slots Q (F0 m (pc + 3) ls (.int z :: rest))) : W p l e R s m args below meth c H locs cells slots Q (F0 m pc ls st0) :=
  va_calli hr hS (fun _ _ h => h.elim) (fun _ h => h.elim) (fun r u t H1 locs1 _ _ hw _ _ hk hS1 => by
    subst hw
    exact kk H1 locs1 (hP.kept fun k q hq => hk q.1 (hP k q hq).lt (fun h => h)) hS1)
theorem kZ {z : Int32} (hr : va_Run p l e R s m args below meth c H locs cells slots 0 0 (F0 m pc ls st0) rest (QrZ z a) no) (hS : va_S A H0 H locs) (hP : va_P D vwCl ws H) (kk : (z = 0 ∨ z = 1) → ∀ (H1 : Heap) (locs1 : List Loc), va_P D vwCl ws H1 → va_S A H0 H1 locs1 → W p l e R s m args below meth c H1 locs1 cells slots Q (F0 m (pc + 3) ls (.int z :: rest))) : W p l e R s m args below meth c H locs cells slots Q (F0 m pc ls st0) :=
  va_calli hr hS (fun _ _ h => h.elim) (fun _ h => h.elim) (fun r u t H1 locs1 _ _ hw _ _ hk hS1 => by
    obtain ⟨hw, h01⟩ := hw
    subst hw
    exact kk h01 H1 locs1 (hP.kept fun k q hq => hk q.1 (hP k q hq).lt (fun h => h)) hS1)
theorem kJ {z : Int64} (hr : va_Run p l e R s m args below meth c H locs cells slots 0 0 (F0 m pc ls st0) rest (QrJ z a) no) (hS : va_S A H0 H locs) (hP : va_P D vwCl ws H) (kk : ∀ (H1 : Heap) (locs1 : List Loc), va_P D vwCl ws H1 → va_S A H0 H1 locs1 → W p l e R s m args below meth c H1 locs1 cells slots Q (F0 m (pc + 3) ls (.long z :: rest))) : W p l e R s m args below meth c H locs cells slots Q (F0 m pc ls st0) :=
  va_calll hr hS (fun _ _ h => h.elim) (fun _ h => h.elim) (fun r u t H1 locs1 _ _ hw _ _ hk hS1 => by
    subst hw
    exact kk H1 locs1 (hP.kept fun k q hq => hk q.1 (hP k q hq).lt (fun h => h)) hS1)
variable {S : Type} {wm : S → va_W} {ws' : va_W}
theorem kwV {z : S} (hr : va_Run p l e R s m args below meth c H locs cells slots mc ms (F0 m pc ls st0) rest (QwV D z wm (va_A wc H.size) a) (va_A wc H.size)) (hS : va_S A H0 H locs) (hP : va_P D vwCl ws H) (hD : va_D A ws) (hA : ∀ q, H0.size ≤ q → A q) (isC : List Nat) (hC : isC.map (fun i => ws[i]?) = wc.map some) (hl : (wm z).length = isC.length) (hs : setAll ws (isC.zip (wm z)) = ws') (ha : ws'.map Prod.fst = ws.map Prod.fst)
    (kk : ∀ (H1 : Heap) (locs1 : List Loc), va_P D vwCl ws' H1 → va_S A H0 H1 locs1 → W p l e R s m args below meth c H1 locs1 (cells + mc) (slots + ms) Q (F0 m (pc + 3) ls rest)) : W p l e R s m args below meth c H locs cells slots Q (F0 m pc ls st0) :=
  have hF := va_free hD hS hA isC hC
  va_callv hr hS (fun q _ h => hF q h) hF (fun u t H1 locs1 ht _ _ hB _ hk hS1 => kk H1 locs1 (joinW hP hD isC hC hk (by rw [← ht]; exact hB) hl hs ha).1 hS1)
theorem kwI {z : Int32 × S} (hr : va_Run p l e R s m args below meth c H locs cells slots mc ms (F0 m pc ls st0) rest (QwI D z wm (va_A wc H.size) a) (va_A wc H.size)) (hS : va_S A H0 H locs) (hP : va_P D vwCl ws H) (hD : va_D A ws) (hA : ∀ q, H0.size ≤ q → A q) (isC : List Nat) (hC : isC.map (fun i => ws[i]?) = wc.map some) (hl : (wm z.2).length = isC.length) (hs : setAll ws (isC.zip (wm z.2)) = ws') (ha : ws'.map Prod.fst = ws.map Prod.fst)
    (kk : ∀ (H1 : Heap) (locs1 : List Loc), va_P D vwCl ws' H1 → va_S A H0 H1 locs1 → W p l e R s m args below meth c H1 locs1 (cells + mc) (slots + ms) Q (F0 m (pc + 3) ls (.int z.1 :: rest))) : W p l e R s m args below meth c H locs cells slots Q (F0 m pc ls st0) :=
  have hF := va_free hD hS hA isC hC
  va_calli hr hS (fun q _ h => hF q h) hF (fun r u t H1 locs1 ht _ hw hB _ hk hS1 => by
    subst hw
    exact kk H1 locs1 (joinW hP hD isC hC hk (by rw [← ht]; exact hB) hl hs ha).1 hS1)
theorem kwZ {z : Int32 × S} (hr : va_Run p l e R s m args below meth c H locs cells slots mc ms (F0 m pc ls st0) rest (QwZ D z wm (va_A wc H.size) a) (va_A wc H.size)) (hS : va_S A H0 H locs) (hP : va_P D vwCl ws H) (hD : va_D A ws) (hA : ∀ q, H0.size ≤ q → A q) (isC : List Nat) (hC : isC.map (fun i => ws[i]?) = wc.map some) (hl : (wm z.2).length = isC.length) (hs : setAll ws (isC.zip (wm z.2)) = ws') (ha : ws'.map Prod.fst = ws.map Prod.fst)
    (kk : (z.1 = 0 ∨ z.1 = 1) → ∀ (H1 : Heap) (locs1 : List Loc), va_P D vwCl ws' H1 → va_S A H0 H1 locs1 → W p l e R s m args below meth c H1 locs1 (cells + mc) (slots + ms) Q (F0 m (pc + 3) ls (.int z.1 :: rest))) : W p l e R s m args below meth c H locs cells slots Q (F0 m pc ls st0) :=
  have hF := va_free hD hS hA isC hC
  va_calli hr hS (fun q _ h => hF q h) hF (fun r u t H1 locs1 ht _ hw hB _ hk hS1 => by
    obtain ⟨hw, h01⟩ := hw
    subst hw
    exact kk h01 H1 locs1 (joinW hP hD isC hC hk (by rw [← ht]; exact hB) hl hs ha).1 hS1)
end RUN
