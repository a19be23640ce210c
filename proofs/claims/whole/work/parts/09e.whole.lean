/-! the first state: the class and the reference stand alike -/
def chk0 (zb : BT) : Bool := (List.range 6).all (fun s => decide (zb.1 s = 14) && decide (zb.2.1 s = 0)) && ((List.range 72).all (fun c => decide (zb.2.2.1 c = 0) && decide (zb.2.2.2.1 c = 0)) && ((List.range 8).all (fun t => decide (zb.2.2.2.2.1 t = nI (t / 2))) && ((List.range 4).all (fun k => decide (zb.2.2.2.2.2.1 k = 0) && (decide (zb.2.2.2.2.2.2.1 k = 0) && decide (zb.2.2.2.2.2.2.2.1 k = 0))) && (decide (zb.2.2.2.2.2.2.2.2.1 = 0) && (decide (zb.2.2.2.2.2.2.2.2.2.1 = 0) && (decide (zb.2.2.2.2.2.2.2.2.2.2.1 = 9) && decide (zb.2.2.2.2.2.2.2.2.2.2.2 = 0)))))))
theorem chk0_d : f_X0_init.map chk0 = some true := by decide +kernel
abbrev MT : Type := (Nat → Int64) × (Nat → Int32) × (Nat → Int32) × Int32 × Int32 × Int32 × (Nat → Int32) × (Nat → Int32) × (Nat → Int32) × (Nat → Int32) × (Nat → Int64) × (Nat → Int64)
def chk6 (z : MT) : Bool := (List.range 6).all (fun s => decide (z.1 s = 14)) && ((List.range 164).all (fun j => decide (z.1 (6 + j) = 0)) && (decide (z.1 170 = 9) && (decide (z.1 171 = 0) && ((List.range 8).all (fun t => decide (z.1 (172 + t) = Int32.toInt64 (nI (t / 2)))) && (decide (z.2.2.1 0 = 0) && (decide (z.2.2.1 1 = 0) && (decide (z.2.2.2.1 = 0) && (decide (z.2.2.2.2.1 = 0) && decide (z.2.2.2.2.2.1 = 0)))))))))
theorem chk6_d : (f_X6_init : Option MT).map chk6 = some true := by decide +kernel
theorem first0 : ∃ zb : BT, f_X0_init = some zb ∧ chk0 zb = true := Option.map_eq_some_iff.mp chk0_d
theorem first6 : ∃ z : MT, f_X6_init = some z ∧ chk6 z = true := Option.map_eq_some_iff.mp chk6_d
theorem first_W {zb : BT} (h : chk0 zb = true) : WFu zb := by
  unfold chk0 at h
  simp only [Bool.and_eq_true, decide_eq_true_eq, List.all_eq_true, List.mem_range] at h
  obtain ⟨h1, h2, h3, h4, h5, h6, h7, h8⟩ := h
  have e0 : (0 : Int32).toInt = 0 := rfl
  have e14 : (14 : Int32).toInt = 14 := rfl
  refine ⟨fun s hs => ?_, fun s i hs hi => ⟨?_, fun q => ?_⟩, fun t ht => ?_, fun k hk => ?_, ?_, ?_, ?_⟩
  · obtain ⟨a, b⟩ := h1 s hs
    rw [a, b, e0, e14]
    exact ⟨by omega, by omega, by omega, by omega, fun _ => rfl⟩
  · obtain ⟨a, b⟩ := h2 (12 * s + i) (by omega)
    rw [a, b]
    exact ok_zero (a := 0) (by omega)
  · rw [(h1 s hs).1, e14] at q
    omega
  · rw [h3 t ht, nI_toInt (by omega)]
    omega
  · obtain ⟨a, b, c⟩ := h4 k hk
    rw [a, b, c, e0]
    omega
  · rw [h5, e0]; omega
  · rw [h6, e0]; omega
  · rw [h7, h8]
    exact ok_zero (a := 9) (by omega)
theorem first_B {zb : BT} {z : MT} (h : chk0 zb = true) (g : chk6 z = true) : RBu zb z.1 0 := by
  unfold chk0 at h
  unfold chk6 at g
  simp only [Bool.and_eq_true, decide_eq_true_eq, List.all_eq_true, List.mem_range] at h g
  obtain ⟨h1, h2, h3, h4, h5, h6, h7, h8⟩ := h
  obtain ⟨g1, g2, g3, g4, g5, -⟩ := g
  have far : ∀ j, 6 ≤ j → j < 170 → z.1 (0 + j) = 0 := fun j a b => by
    have := g2 (j - 6) (by omega)
    rw [show 6 + (j - 6) = 0 + j by omega] at this
    exact this
  have z0 : Int32.toInt64 0 = 0 := rfl
  refine ⟨fun s hs => ⟨?_, fun _ => ?_⟩, fun c hc => ⟨?_, ?_⟩, ?_, fun k hk => ⟨?_, ?_, ?_⟩, ?_, ?_, ?_, fun t ht => ?_⟩
  · rw [(h1 s hs).1, Nat.zero_add, g1 s hs]; rfl
  · rw [(h1 s hs).2, z0, Nat.add_assoc]; exact far (6 + s) (by omega) (by omega)
  · rw [(h2 c hc).1, z0, Nat.add_assoc]; exact far (12 + c) (by omega) (by omega)
  · rw [(h2 c hc).2, Nat.add_assoc]; exact far (84 + c) (by omega) (by omega)
  · rw [h5, z0]; exact far 156 (by omega) (by omega)
  · rw [(h4 k hk).1, z0, Nat.add_assoc]; exact far (157 + 3 * k) (by omega) (by omega)
  · rw [(h4 k hk).2.1, z0, Nat.add_assoc]; exact far (158 + 3 * k) (by omega) (by omega)
  · rw [(h4 k hk).2.2, z0, Nat.add_assoc]; exact far (159 + 3 * k) (by omega) (by omega)
  · rw [h6, z0]; exact far 169 (by omega) (by omega)
  · rw [h7, Nat.zero_add, g3]; rfl
  · rw [h8, Nat.zero_add, g4]
  · rw [h3 t ht, Nat.zero_add, g5 t ht]
theorem first_R {zb : BT} {z : MT} (h : chk0 zb = true) (g : chk6 z = true) (kp kq : Nat → Int32) : Rel zb (fun _ => 0) 0 0 0 (hsOf (fun _ => none)) kp kq 0 z.1 z.2.1 z.2.2.1 z.2.2.2.1 z.2.2.2.2.1 z.2.2.2.2.2.1 z.2.2.2.2.2.2.1 z.2.2.2.2.2.2.2.1 := by
  have hW := first_W h
  have hB := first_B h g
  unfold chk6 at g
  simp only [Bool.and_eq_true, decide_eq_true_eq, List.all_eq_true, List.mem_range] at g
  obtain ⟨-, -, -, -, -, k0, k1, u0, s0, e0⟩ := g
  refine ⟨hW, hB, ⟨u0.symm, 0, 0, by omega, by omega, rfl, rfl, fun j hj => by omega⟩, fun i hi => Or.inl ⟨?_, rfl⟩, ⟨s0, by decide⟩, ⟨e0.symm, 0, by omega, e0, fun j hj => by omega⟩⟩
  rcases (show i = 0 ∨ i = 1 by omega) with rfl | rfl
  · exact k0
  · exact k1
/-! the law from its entry -/
theorem dgX5 : ∀ j, j < 9 → defaultValue (tyX5 j) = vp_V [.null, .null, .null, .null, .null, .null, .null, .null, .int 0] j := by
  intro j hj
  rcases (show j = 0 ∨ j = 1 ∨ j = 2 ∨ j = 3 ∨ j = 4 ∨ j = 5 ∨ j = 6 ∨ j = 7 ∨ j = 8 by omega) with rfl | rfl | rfl | rfl | rfl | rfl | rfl | rfl | rfl <;> rfl
theorem dgX6 : ∀ j, j < 12 → defaultValue (tyX6 j) = vp_V [.null, .null, .null, .int 0, .int 0, .int 0, .null, .null, .null, .null, .null, .null] j := by
  intro j hj
  rcases (show j = 0 ∨ j = 1 ∨ j = 2 ∨ j = 3 ∨ j = 4 ∨ j = 5 ∨ j = 6 ∨ j = 7 ∨ j = 8 ∨ j = 9 ∨ j = 10 ∨ j = 11 by omega) with rfl | rfl | rfl | rfl | rfl | rfl | rfl | rfl | rfl | rfl | rfl | rfl <;> rfl
theorem kNA {p : Program} {l : Launch} {e : Env} {R : Room} {s : State} {m : MethodId} {args : Array Value} {below : List Frame} {meth : Method} {c : Code} {H : Heap} {locs : List Loc} {cells slots : Nat} {Q : State → Prop} {pc : Nat} {ls : Array Slot} {A : Nat → Prop} {D : va_G} {a : Array Value} {H0 : Heap} {mc ms : Nat} {rest st0 : List Value} {α : Type} {ws : va_W} {q : Nat} {x : va_E} {sel : α → Prop} {wm : α → va_W} (hr : va_Run p l e R s m args below meth c H locs cells slots mc ms (F0 m pc ls st0) rest (va_Qv sel (fun u t => va_P D vwCl (wm u) t.heap ∧ va_D (va_A [(q, x)] H.size) (wm u)) (va_A [(q, x)] H.size) a) (va_A [(q, x)] H.size)) (hS : va_S A H0 H locs) (hP : va_P D vwCl (ws ++ [(q, x)]) H) (hD : va_D A (ws ++ [(q, x)])) (hA : ∀ q, H0.size ≤ q → A q)
    (kk : ∀ (u : α) (H1 : Heap) (locs1 : List Loc), sel u → va_P D vwCl (ws ++ wm u) H1 → va_D A (ws ++ wm u) → va_S A H0 H1 locs1 → W p l e R s m args below meth c H1 locs1 (cells + mc) (slots + ms) Q (F0 m (pc + 3) ls rest)) : W p l e R s m args below meth c H locs cells slots Q (F0 m pc ls st0) := by
  have hfree : ∀ a, va_A [(q, x)] H.size a → A a := freeT (WC := []) hD hS hA [] rfl
  refine va_callv hr hS (fun q _ h => hfree q h) hfree (fun u t H1 locs1 ht _ hp hB _ hk hS1 => ?_)
  have j := joinT (WC := []) (w1 := []) (t1 := wm u) (E' := ws) hP hD [] rfl hk hfree (by rw [← ht]; exact hB.1) hB.2 rfl rfl rfl rfl
  exact kk u H1 locs1 hp j.1 j.2 hS1
set_option maxHeartbeats 8000000 in
set_option maxRecDepth 100000 in
/-- from the entry, for every script of at most 3072 ints, the law comes to its end with true -/
theorem whole_start {p : Program} {e : Env} {s : State} {m : MethodId} {below : List Frame} {meth : Method} {c : Code} (l : Launch) (hflags : l.flags = flags0) {b L : Nat} {xs : Nat → Int32} (hL : L ≤ 3072) (C0 : lw_At p s m meth c b L xs) : W p l e room_1 s m #[Value.ref b] below meth c s.heap [] 0 0 (lw_Z below #[Value.ref b] s) (entryFrame m ([Value.ref b] : List Value).toArray 4) := by
  obtain ⟨hx, hb, hr, hml, hown, htb, hX, hbl, hlocks, hgv⟩ := id C0
  have hown : s.vm.findClass RL = some m.cls := hown
  obtain ⟨D, cI, cJ, cZ, cQ, hE⟩ := ev_start htb hgv
  have hts : ∀ w ∈ wsL_law, w.before #[Value.ref b] s = true := fun w h => htb w (wsL_law_in w h)
  have CF : CallFix p m c code 4 s #[Value.ref b] wsL_law RL := ⟨hx, hb, hml, hown, hts⟩
  have hAb : ∀ q, (fun q : Nat => s.heap.size ≤ q) q → s.heap.size ≤ q := fun _ h => h
  have hA : ∀ q : Nat, s.heap.size ≤ q → (fun q : Nat => s.heap.size ≤ q) q := fun _ h => h
  have hK := hE.1
  have hS : va_S (fun q : Nat => s.heap.size ≤ q) s.heap s.heap [] := va_S.rf
  have hP : va_P D vwCl [] s.heap := fun k q h => by simp at h
  have hD : va_D (fun q : Nat => s.heap.size ≤ q) [] := ⟨fun i j p q h => by simp at h, fun k q h => by simp at h⟩
  obtain ⟨zb, hzb, cz0⟩ := first0
  obtain ⟨z, hz, cz6⟩ := first6
  have hl := lv_entry ([.ref b]) (n := 4) (Nat.le_of_ble_eq_true rfl)
  rw [lg_entry_eq]
  generalize (lg_sl ([.ref b]) ++ List.replicate (4 - (lg_sl ([.ref b])).length) Slot.unset).toArray = ls at hl ⊢
  have hl : lv_has ls 4 [(0, .ref b)] := hl
  refine va_new (ci := 5) (fs := [.null, .null, .null, .null, .null, .null, .null, .null, .int 0]) (C := RX5) (T := TX5) (N := 9) hx hb htb inX5 tyX5 tyX5_ok hown (hts _ gk_cl5) (hts _ gk_in5) (hts _ gk_ini5) hK hP hD hS hA rfl dgX5 (Nat.le_of_ble_eq_true rfl) (Nat.le_of_ble_eq_true rfl) dL_law_0 (fun q5 H hP hD hS => ?_)
  refine lv_dup hx hb dL_law_3 rfl ?_
  refine kNA (ws := []) (sel := fun a : ADT => a.1 0 = q5) (wm := fun a => wX5a cI cJ cQ zb a) (runI1 (ws := []) (rest := [.ref q5]) CF hE hAb hP hD hS (c_X5_init l D cI cJ cZ cQ s.heap.size H.size q5 zb hzb) (cwI 0 hts gL_law_X5_init rfl rfl rfl (hts _ gk_ini5) (hts _ gk_ml5) (hts _ gk_im5) rfl (by decide +kernel) ⟨Nat.le_of_ble_eq_true rfl, Nat.le_of_ble_eq_true rfl⟩) hl.1 rfl (Nat.le_of_ble_eq_true rfl) dL_law_4 ⟨Nat.le_of_ble_eq_true rfl, Nat.le_of_ble_eq_true rfl⟩) hS hP hD hA (fun ad H locs hx0 hP1 hD1 hS => ?_)
  obtain ⟨x, b1, h, k, r, q, v⟩ := ad
  have hx0 : x 0 = q5 := hx0
  subst hx0
  have hP : va_P D vwCl (wX5 cI cJ cQ zb x b1 h k r q v) H := hP1
  have hD : va_D (fun q : Nat => s.heap.size ≤ q) (wX5 cI cJ cQ zb x b1 h k r q v) := hD1
  refine lv_astore_n (lv' := [(1, .ref (x 0)), (0, .ref b)]) hx hb dL_law_7 rfl hl (by decide) rfl (fun ls hl => ?_)
  refine va_new (ci := 6) (fs := [.null, .null, .null, .int 0, .int 0, .int 0, .null, .null, .null, .null, .null, .null]) (C := RX6) (T := TX6) (N := 12) hx hb htb inX6 tyX6 tyX6_ok hown (hts _ gk_cl6) (hts _ gk_in6) (hts _ gk_ini6) hK hP hD hS hA rfl dgX6 (Nat.le_of_ble_eq_true rfl) (Nat.le_of_ble_eq_true rfl) dL_law_8 (fun q6 H hP hD hS => ?_)
  refine lv_dup hx hb dL_law_11 rfl ?_
  refine kN (runI1 (rest := [.ref q6]) CF hE hAb hP hD hS (c_X6_init l D cI cJ cZ cQ s.heap.size H.size q6 z hz) (cwI 0 hts gL_law_X6_init rfl rfl rfl (hts _ gk_ini6) (hts _ gk_ml6) (hts _ gk_im6) rfl (by decide +kernel) ⟨Nat.le_of_ble_eq_true rfl, Nat.le_of_ble_eq_true rfl⟩) hl.1 rfl (Nat.le_of_ble_eq_true rfl) dL_law_12 ⟨Nat.le_of_ble_eq_true rfl, Nat.le_of_ble_eq_true rfl⟩) hS hP hD hA (fun w H locs hw0 hP2 hD2 hS2 => ?_)
  subst hw0
  refine lv_astore_n (lv' := [(2, .ref (w 0)), (1, .ref (x 0)), (0, .ref b)]) hx hb dL_law_15 rfl hl (by decide) rfl (fun ls hl => ?_)
  refine lv_iconst (v := 0) hx hb dL_law_16 (by decide) ?_
  refine lv_istore_n (lv' := [(3, .int 0), (2, .ref (w 0)), (1, .ref (x 0)), (0, .ref b)]) hx hb dL_law_17 rfl hl (by decide) rfl (fun ls hl => ?_)
  have hSt : LSt D cI cJ cZ cQ s b x b1 h k r q v w (nI (6 * 0)) H locs ls := by
    unfold LSt
    exact ⟨0, zb.2.2.2.2.2.2.2.2.1, zb.2.2.2.2.2.2.2.2.2.1, zb.2.2.2.2.2.2.2.2.2.2.1, zb.2.2.2.2.2.2.2.2.2.2.2, zb.1, zb.2.1, zb.2.2.1, zb.2.2.2.1, zb.2.2.2.2.1, zb.2.2.2.2.2.1, zb.2.2.2.2.2.2.1, zb.2.2.2.2.2.2.2.1, 0, 0, 0, (fun _ => 0), (fun _ => 0), 0, (fun _ => 0), (fun _ => 0), (fun _ => 0), (fun _ => 0), 0, (fun _ => 0), (fun _ => 0), (fun _ => 0), (fun _ => 0), 0, (fun _ => 0), (fun _ => 0), (fun _ => 0), (fun _ => 0), z.2.2.2.1, z.2.2.2.2.1, z.2.2.2.2.2.1, z.1, z.2.1, z.2.2.1, z.2.2.2.2.2.2.1, z.2.2.2.2.2.2.2.1, z.2.2.2.2.2.2.2.2.1, z.2.2.2.2.2.2.2.2.2.1, z.2.2.2.2.2.2.2.2.2.2.1, z.2.2.2.2.2.2.2.2.2.2.2, hsOf (fun _ => none), (fun _ => none), rfl, first_R cz0 cz6 _ _, hP2, hD2, hS2, hl⟩
  refine W.widen (k := 41) (n := 3933) (by omega) (by omega) ?_
  exact law_loop l hx hb CF hX hbl D cI cJ cZ cQ hE x b1 h k r q v w hL hr hlocks 513 0 (by omega) (by omega) 41 3933 (by omega) (by omega) H locs ls hSt
-- ===== YOUR PART ENDS =====
set_option maxHeartbeats 4000000 in
theorem lw_walk (l : Launch) (hflags : l.flags = flags0) (b : Addr) (xs : List Int32) : MetFree l x (headSpec (Jvm.Cond.code x code maxLocals ret :: tables_1) room_1) (lw_P b xs) (fun _ _ _ _ _ => True) lw_Q := by
  refine MetFree.of_bodyS (code := code) (maxLocals := maxLocals) (ret := ret) (by decide) ?_ ?_
  · intro args s m h hn
    obtain ⟨meth, c, h1, h2, h3, h4, h5, h6, -, -⟩ := Cond.code_spec hn (atoms_spec (ws := Jvm.Cond.code x code maxLocals ret :: tables_1) h _ List.mem_cons_self)
    exact ⟨meth, c, h1, h2, h3, h4, h5, h6⟩
  · intro p e s m args below meth c s₁ B hml0 hP _
    obtain ⟨rfl, hx, hbd, hgv⟩ := hP
    obtain ⟨scr, harrAt, hlist, hof, hsmall⟩ := hx
    obtain ⟨hcb, hkn, -, -⟩ := State.arrayAt?_spec harrAt
    have hown : s.vm.findClass R_law = some m.cls := findClass_of_methodNamed B.named
    have hts0 : ∀ c ∈ (Jvm.Cond.code x code maxLocals ret :: tables_1), c.before #[Value.ref b] s = true := atoms_spec (ws := Jvm.Cond.code x code maxLocals ret :: tables_1) B.pre
    have hts : ∀ w ∈ lw_tbl, w.before #[Value.ref b] s = true := k2_hts_sels lw_privs (fun w hw => hts0 w (List.mem_cons_of_mem _ hw)) lw_privs_ok
    have hml : c.maxLocals = 4 := B.maxLocals_eq (hts0 _ List.mem_cons_self)
    have X₀ : Stand p l e room_1 s m #[Value.ref b] below meth c s₁ [] 0 0 := Stand.of_body B
    have hh0 : s₁.heap = s.heap := by rw [B.state]; rfl
    have hsz : scr.slots.size = xs.length := by rw [← Array.length_toList, hlist, List.length_map]
    have hval : ∀ j : Nat, j < xs.length → scr.slots[j]? = some (.int (xs.getD j 0)) := fun j hj => by
      rw [← Array.getElem?_toList, hlist]
      simp [hj]
    have hbl : b < s.heap.size := (Array.getElem?_eq_some_iff.mp hcb).1
    have hX : va_X b xs.length (fun j => xs.getD j 0) s s.heap := ⟨scr, hcb, hof, hkn, hsz, hval⟩
    have K : W p l e room_1 s m #[Value.ref b] below meth c s₁.heap [] 0 0 (lw_Z below #[Value.ref b] s) (entryFrame m ([Value.ref b] : List Value).toArray 4) := by
      rw [hh0]
      exact whole_start l hflags hbd ⟨B.exec, B.bytes, B.returns, hml, hown, hts, hX, hbl, B.notSynchronized, hgv⟩
    obtain ⟨t, a1, o, b1, b2, b3⟩ := K s₁ rfl X₀
    exact ⟨t, o, a1, b1, b2, b3⟩
theorem lw_pre_spec {args : Array Value} {s : State} (h : (Jvm.Cond.and given_1 narrow_1).before args s = true) (hr : rest_1_c.before args s = true) : ∃ (b : Addr) (xs : List Int32), lw_P b xs args s := by
  have hs := flat_of_before _ h
  have hq := flat_of_before _ hr
  have hc : (Cond.count 1).before args s = true := hs _ (by decide +kernel)
  have harr : (Cond.arrayOf (.arg 0) .int).before args s = true := hs _ (by decide +kernel)
  have hle : (Cond.le (.length (.arg 0)) (.int 3072)).before args s = true := hs _ (by decide +kernel)
  have hlen : (Cond.isInt (.length (.arg 0))).before args s = true := hq _ (by decide +kernel)
  have hall : (Cond.all (.arg 0) (.isInt (.elem (.arg 0) (.index 0)))).before args s = true := hq _ (by decide +kernel)
  obtain ⟨b, xs, hb, hx⟩ := State.ints_of_pre rfl harr hlen hall
  have hsm : xs.length < 2 ^ 31 := hx.choose_spec.2.2.2
  have hev : (Term.length (.arg 0)).eval args s none [] s = some (.int xs.length.toInt32) := hx.length_eval hb
  have hv := Cond.le_ints hev (show (Term.int 3072).eval args s none [] s = some (.int 3072) from rfl)
  have hd : xs.length.toInt32 ≤ 3072 := by
    simpa [Cond.before, Cond.holds, hv] using hle
  have hN : xs.length ≤ 3072 := (Int32.ofNat_le_ofNat hsm (by decide)).mp (show Int32.ofNat xs.length ≤ Int32.ofNat 3072 from hd)
  exact ⟨b, xs, Cond.one_arg hc (show args[0]? = some (.ref b) from hb), hx, hN, h⟩
theorem lw_comes (l : Launch) (hflags : l.flags = flags0) : Comes l x (Jvm.Cond.code x code maxLocals ret :: tables_1) room_1 (fun tb e args s => Calls_1 tb e args s ∧ rest_1 tb e args s ∧ Pre_1 tb e args s)
    (fun _ _ args s o t => lw_Q args s o t) := by
  intro p e ha hc hk s m args below hf hfit hheap happ hpre
  obtain ⟨b, xs, hP⟩ := lw_pre_spec hpre.2.2 hpre.2.1
  obtain ⟨k, o, h1, h2, h3, hQ⟩ := lw_walk l hflags b xs p e ha hc hk s m args below hf ((Spec.applies_iff_loose hf).mp happ).1 hP trivial
  exact ⟨k, o, h1, h2, h3, hQ⟩
theorem lw_frame {s t : State} {o : Outcome} {args : Array Value} (h : Framed s o t [] 600000 7302250) :
    Framed s o t (fieldLocs frame_1_writes args s ++ arrayLocs frame_1_arrays args s ++ staticLocs frame_1_statics s) 600000 7302250 := h
theorem lw_limb (L : Cond) (hL : ∀ (args : Array Value) (s t : State), L.after args s (.returned (some (.int 1))) t = true) :
    ArmFor flags0 classFile x code maxLocals ret World_1 tables_1 room_1 Calls_1 rest_1 Pre_1
      (fun tb e a s o t => postC L tb e a s o t ∧ Framed s o t (fieldLocs frame_1_writes a s ++ arrayLocs frame_1_arrays a s ++ staticLocs frame_1_statics s) 600000 7302250) := by
  intro l hflags _ _ p e ha hc hk s m args below hf hfit hheap happ hpre
  obtain ⟨k, o, h1, h2, h3, rfl, hF⟩ := lw_comes l hflags p e ha hc hk s m args below hf hfit hheap happ hpre
  exact ⟨k, _, h1, h2, h3, hL args s _, lw_frame hF⟩
theorem i_vc : Claimed_1_1 ∧ Claimed_1_2 := ⟨lw_limb limb_1_1 (fun args s t => by simp [limb_1_1, Cond.after, Cond.holds, Cond.value]), lw_limb limb_1_2 (fun args s t => Cond.after_iff.mpr (by
  first | (rw [show limb_1_2 = Cond.eq .result (.int 1) from rfl, Cond.eq_ints (x := 1) (y := 1) rfl rfl]; simp; done) | (simp [limb_1_2, Cond.value, Term.eval]; done)))⟩
