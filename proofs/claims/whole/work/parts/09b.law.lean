/-! the law: the state between two calls, and what it needs -/
/-- what comes back from a call, put into its places: said by lookups alone -/
theorem setAll_g : ∀ (isC : List Nat) (ws w1 ws' : va_W), w1.length = isC.length → ws'.length = ws.length → isC.map (fun i => ws'[i]?) = w1.map some → (∀ k, k ∉ isC → ws'[k]? = ws[k]?) → setAll ws (isC.zip w1) = ws'
  | [], ws, w1, ws', _, _, _, h4 => (List.ext_getElem? (fun k => h4 k List.not_mem_nil)).symm
  | i :: is, ws, [], ws', h1, _, _, _ => by simp at h1
  | i :: is, ws, a :: w1, ws', h1, h2, h3, h4 => by
    have h5 : ws'[i]? = some a := (List.cons.inj h3).1
    have h6 : is.map (fun i => ws'[i]?) = w1.map some := (List.cons.inj h3).2
    have hlt : i < ws.length := by rw [← h2]; exact (List.getElem?_eq_some_iff.mp h5).1
    show setAll (ws.set i a) (is.zip w1) = ws'
    refine setAll_g is (ws.set i a) w1 ws' (by simpa using h1) (by rw [List.length_set]; exact h2) h6 (fun k hk => ?_)
    by_cases e : k = i
    · subst e
      rw [h5, List.getElem?_set_self hlt]
    · rw [List.getElem?_set_ne (fun q => e q.symm)]
      exact h4 k (fun q => (List.mem_cons.mp q).elim e hk)
theorem setAll_y {E E' w1 : va_W} {isC isR : List Nat} {n : Nat} (hE : E.length = n) (hE' : E'.length = n) (hC : isC.map (fun i => E'[i]?) = w1.map some) {wr : va_W} (hR1 : isR.map (fun i => E[i]?) = wr.map some) (hR2 : isR.map (fun i => E'[i]?) = wr.map some) (hcov : (List.range n).all (fun k => isC.contains k || isR.contains k) = true) : setAll E (isC.zip w1) = E' := by
  have hl : w1.length = isC.length := by
    have := congrArg List.length hC
    rw [List.length_map, List.length_map] at this
    exact this.symm
  refine setAll_g isC E w1 E' hl (by rw [hE, hE']) hC (fun k hk => ?_)
  by_cases hn : k < n
  · have h1 := List.all_eq_true.mp hcov k (List.mem_range.mpr hn)
    rw [Bool.or_eq_true, List.contains_iff_mem, List.contains_iff_mem] at h1
    rcases h1 with h1 | h1
    · exact absurd h1 hk
    · exact ((List.map_inj_left.mp (hR1.trans hR2.symm)) k h1).symm
  · rw [List.getElem?_eq_none (by omega), List.getElem?_eq_none (by omega)]
theorem setAll_x {E E' T w1 : va_W} {isC isR : List Nat} {n : Nat} (hE : E.length = n) (hE' : E'.length = n) (hC : isC.map (fun i => E'[i]?) = w1.map some) {wr : va_W} (hR1 : isR.map (fun i => E[i]?) = wr.map some) (hR2 : isR.map (fun i => E'[i]?) = wr.map some) (hcov : (List.range n).all (fun k => isC.contains k || isR.contains k) = true) : setAll (E ++ T) (isC.zip w1) = E' ++ T := by
  have hl : w1.length = isC.length := by
    have := congrArg List.length hC
    rw [List.length_map, List.length_map] at this
    exact this.symm
  refine setAll_g isC (E ++ T) w1 (E' ++ T) hl (by rw [List.length_append, List.length_append, hE, hE']) ?_ (fun k hk => ?_)
  · rw [← hC]
    refine List.map_congr_left (fun i hi => ?_)
    obtain ⟨y, hy, e⟩ := List.mem_map.mp (show E'[i]? ∈ w1.map some by rw [← hC]; exact List.mem_map_of_mem (f := fun i => E'[i]?) hi)
    exact List.getElem?_append_left (List.getElem?_eq_some_iff.mp e.symm).1
  · by_cases hn : k < n
    · rw [List.getElem?_append_left (by omega), List.getElem?_append_left (by omega)]
      have h1 := List.all_eq_true.mp hcov k (List.mem_range.mpr hn)
      rw [Bool.or_eq_true, List.contains_iff_mem, List.contains_iff_mem] at h1
      rcases h1 with h1 | h1
      · exact absurd h1 hk
      · exact ((List.map_inj_left.mp (hR1.trans hR2.symm)) k h1).symm
    · rw [List.getElem?_append_right (by omega), List.getElem?_append_right (by omega), hE, hE']
theorem kkI {p : Program} {l : Launch} {e : Env} {R : Room} {s : State} {m : MethodId} {args : Array Value} {below : List Frame} {meth : Method} {c : Code} {H : Heap} {locs : List Loc} {cells slots : Nat} {Q : State → Prop} {pc : Nat} {ls : Array Slot} {A : Nat → Prop} {D : va_G} {cI cJ : ClassId} {a : Array Value} {H0 : Heap} {mc ms : Nat} {rest st0 : List Value} {S : Type} {E t0 WC : va_W} {z : Int32 × S} {sel : S → HT} {w1 : S → PT → va_W} (hr : va_Run p l e R s m args below meth c H locs cells slots mc ms (F0 m pc ls st0) rest (QkI D z sel (fun u q => w1 u q ++ plW cI cJ q 18) (va_A (WC ++ t0) H.size) a) (va_A (WC ++ t0) H.size)) (hS : va_S A H0 H locs) (hP : va_P D vwCl (E ++ t0) H) (hD : va_D A (E ++ t0)) (hA : ∀ q, H0.size ≤ q → A q) (isC : List Nat) (hC : isC.map (fun i => E[i]?) = WC.map some) (hfree : ∀ q, va_A (WC ++ t0) H.size q → A q) (hl : ∀ q, (w1 z.2 q).length = isC.length) (hw : ∀ q, (w1 z.2 q).map Prod.fst = WC.map Prod.fst) {E2 : PT → va_W} (hs : ∀ q, setAll E (isC.zip (w1 z.2 q)) = E2 q) (ha : ∀ q, (E2 q).map Prod.fst = E.map Prod.fst)
    (kk : ∀ (pl' : PT) (H1 : Heap) (locs1 : List Loc), hsOf pl' = sel z.2 → va_P D vwCl (E2 pl' ++ plW cI cJ pl' 18) H1 → va_D A (E2 pl' ++ plW cI cJ pl' 18) → va_S A H0 H1 locs1 → W p l e R s m args below meth c H1 locs1 (cells + mc) (slots + ms) Q (F0 m (pc + 3) ls (.int z.1 :: rest))) : W p l e R s m args below meth c H locs cells slots Q (F0 m pc ls st0) :=
  va_calli hr hS (fun q _ h => hfree q h) hfree (fun r u t H1 locs1 ht _ hp hB _ hk hS1 => by
    have j := joinT hP hD isC hC hk hfree (by rw [← ht]; exact hB.1) hB.2 (hl u) (hw u) (hs u) (ha u)
    obtain ⟨hp1, hp2⟩ := hp
    subst hp1
    exact kk u H1 locs1 hp2 j.1 j.2 hS1)
theorem lcmp0 {x y : Int64} (h : x = y) : lg_cmp x y = 0 := by subst h; simp [lg_cmp]
/-- between two calls: the class and the reference stand alike -/
def LSt (D : va_G) (cI cJ cZ cQ : ClassId) (s : State) (sb : Nat) (x b h k r q v w : Nat → Nat) (x3 : Int32) (H : Heap) (locs : List Loc) (ls : Array Slot) : Prop := ∃ (x_random : Int32) (b_keyCount : Int32) (b_sheetSet : Int32) (b_handSort : Int32) (b_handNumber : Int64) (b_kinds : Nat → Int32) (b_sizes : Nat → Int32) (b_sorts : Nat → Int32) (b_numbers : Nat → Int64) (b_weights : Nat → Int32) (b_keySlots : Nat → Int32) (b_keyBys : Nat → Int32) (b_keyWays : Nat → Int32) (h_next : Int32) (h_count : Int32) (k_count : Int32) (k_places : Nat → Int32) (k_positions : Nat → Int32) (r_length : Int32) (r_lesser : Nat → Int32) (r_positions : Nat → Int32) (r_places : Nat → Int32) (r_longest : Nat → Int32) (q_length : Int32) (q_lesser : Nat → Int32) (q_positions : Nat → Int32) (q_places : Nat → Int32) (q_longest : Nat → Int32) (v_count : Int32) (v_from : Nat → Int32) (v_oldSorts : Nat → Int32) (v_oldNumbers : Nat → Int64) (x_imageRandoms : Nat → Int32) (w_undos : Int32) (w_seed : Int32) (w_entries : Int32) (w_w : Nat → Int64) (w_imageSeed : Nat → Int32) (w_isKept : Nat → Int32) (w_bookPlace : Nat → Int32) (w_bookPosition : Nat → Int32) (w_scratch : Nat → Int32) (w_from : Nat → Int32) (w_heldSort : Nat → Int64) (w_heldNumber : Nat → Int64) (P_hs : HT) (pl : PT), hsOf pl = P_hs ∧ Rel (b_kinds, b_sizes, b_sorts, b_numbers, b_weights, b_keySlots, b_keyBys, b_keyWays, b_keyCount, b_sheetSet, b_handSort, b_handNumber) x_imageRandoms x_random h_next h_count P_hs k_places k_positions k_count w_w w_imageSeed w_isKept w_undos w_seed w_entries w_bookPlace w_bookPosition ∧ va_P D vwCl ([oX5 x b h k r q v x_random, oX0 b b_keyCount b_sheetSet b_handSort b_handNumber, aI cI (b 1) 6 b_kinds, aI cI (b 2) 6 b_sizes, aI cI (b 3) 72 b_sorts, aJ cJ (b 4) 72 b_numbers, aI cI (b 5) 8 b_weights, aI cI (b 6) 4 b_keySlots, aI cI (b 7) 4 b_keyBys, aI cI (b 8) 4 b_keyWays, oX2 h h_next h_count, aQ cQ (h 1) 16 (hB pl), oX1 k k_count, aI cI (k 1) 20 k_places, aI cI (k 2) 20 k_positions, oX4 r r_length, aI cI (r 1) 12 r_lesser, aI cI (r 2) 12 r_positions, aI cI (r 3) 12 r_places, aI cI (r 4) 12 r_longest, oX4 q q_length, aI cI (q 1) 12 q_lesser, aI cI (q 2) 12 q_positions, aI cI (q 3) 12 q_places, aI cI (q 4) 12 q_longest, oX3 v v_count, aI cI (v 1) 12 v_from, aI cI (v 2) 12 v_oldSorts, aJ cJ (v 3) 12 v_oldNumbers, aQ cQ (x 1) 2 (iB pl), aI cI (x 2) 2 x_imageRandoms, oX6 w w_undos w_seed w_entries, aJ cJ (w 1) 3420 w_w, aI cI (w 2) 2 w_imageSeed, aI cZ (w 3) 2 w_isKept, aI cI (w 4) 20 w_bookPlace, aI cI (w 5) 20 w_bookPosition, aI cI (w 6) 12 w_scratch, aI cI (w 7) 12 w_from, aJ cJ (w 8) 12 w_heldSort, aJ cJ (w 9) 12 w_heldNumber] ++ plW cI cJ pl 18) H ∧ va_D (fun q : Nat => s.heap.size ≤ q) ([oX5 x b h k r q v x_random, oX0 b b_keyCount b_sheetSet b_handSort b_handNumber, aI cI (b 1) 6 b_kinds, aI cI (b 2) 6 b_sizes, aI cI (b 3) 72 b_sorts, aJ cJ (b 4) 72 b_numbers, aI cI (b 5) 8 b_weights, aI cI (b 6) 4 b_keySlots, aI cI (b 7) 4 b_keyBys, aI cI (b 8) 4 b_keyWays, oX2 h h_next h_count, aQ cQ (h 1) 16 (hB pl), oX1 k k_count, aI cI (k 1) 20 k_places, aI cI (k 2) 20 k_positions, oX4 r r_length, aI cI (r 1) 12 r_lesser, aI cI (r 2) 12 r_positions, aI cI (r 3) 12 r_places, aI cI (r 4) 12 r_longest, oX4 q q_length, aI cI (q 1) 12 q_lesser, aI cI (q 2) 12 q_positions, aI cI (q 3) 12 q_places, aI cI (q 4) 12 q_longest, oX3 v v_count, aI cI (v 1) 12 v_from, aI cI (v 2) 12 v_oldSorts, aJ cJ (v 3) 12 v_oldNumbers, aQ cQ (x 1) 2 (iB pl), aI cI (x 2) 2 x_imageRandoms, oX6 w w_undos w_seed w_entries, aJ cJ (w 1) 3420 w_w, aI cI (w 2) 2 w_imageSeed, aI cZ (w 3) 2 w_isKept, aI cI (w 4) 20 w_bookPlace, aI cI (w 5) 20 w_bookPosition, aI cI (w 6) 12 w_scratch, aI cI (w 7) 12 w_from, aJ cJ (w 8) 12 w_heldSort, aJ cJ (w 9) 12 w_heldNumber] ++ plW cI cJ pl 18) ∧ va_S (fun q : Nat => s.heap.size ≤ q) s.heap H locs ∧ lv_has ls 4 [(3, .int x3), (2, .ref (w 0)), (1, .ref (x 0)), (0, .ref sb)]
theorem LSt.hl {D : va_G} {cI cJ cZ cQ : ClassId} {s : State} {sb : Nat} {x b h k r q v w : Nat → Nat} {x3 : Int32} {H : Heap} {locs : List Loc} {ls : Array Slot} (h0 : LSt D cI cJ cZ cQ s sb x b h k r q v w x3 H locs ls) : lv_has ls 4 [(3, .int x3), (2, .ref (w 0)), (1, .ref (x 0)), (0, .ref sb)] := by
  unfold LSt at h0
  obtain ⟨_, _, _, _, _, _, _, _, _, _, _, _, _, _, _, _, _, _, _, _, _, _, _, _, _, _, _, _, _, _, _, _, _, _, _, _, _, _, _, _, _, _, _, _, _, _, _, _, _, _, _, _, h⟩ := h0
  exact h
theorem LSt.hS {D : va_G} {cI cJ cZ cQ : ClassId} {s : State} {sb : Nat} {x b h k r q v w : Nat → Nat} {x3 : Int32} {H : Heap} {locs : List Loc} {ls : Array Slot} (h0 : LSt D cI cJ cZ cQ s sb x b h k r q v w x3 H locs ls) : va_S (fun q : Nat => s.heap.size ≤ q) s.heap H locs := by
  unfold LSt at h0
  obtain ⟨_, _, _, _, _, _, _, _, _, _, _, _, _, _, _, _, _, _, _, _, _, _, _, _, _, _, _, _, _, _, _, _, _, _, _, _, _, _, _, _, _, _, _, _, _, _, _, _, _, _, _, h, _⟩ := h0
  exact h
theorem LSt.upd {D : va_G} {cI cJ cZ cQ : ClassId} {s : State} {sb : Nat} {x b h k r q v w : Nat → Nat} {x3 : Int32} {H : Heap} {locs : List Loc} {ls : Array Slot} (h0 : LSt D cI cJ cZ cQ s sb x b h k r q v w x3 H locs ls) {y3 : Int32} {ls1 : Array Slot} (h1 : lv_has ls1 4 [(3, .int y3), (2, .ref (w 0)), (1, .ref (x 0)), (0, .ref sb)]) : LSt D cI cJ cZ cQ s sb x b h k r q v w y3 H locs ls1 := by
  unfold LSt at h0 ⊢
  obtain ⟨q0, q1, q2, q3, q4, q5, q6, q7, q8, q9, q10, q11, q12, q13, q14, q15, q16, q17, q18, q19, q20, q21, q22, q23, q24, q25, q26, q27, q28, q29, q30, q31, q32, q33, q34, q35, q36, q37, q38, q39, q40, q41, q42, q43, q44, q45, pl, a1, a2, a3, a4, a5, _⟩ := h0
  exact ⟨q0, q1, q2, q3, q4, q5, q6, q7, q8, q9, q10, q11, q12, q13, q14, q15, q16, q17, q18, q19, q20, q21, q22, q23, q24, q25, q26, q27, q28, q29, q30, q31, q32, q33, q34, q35, q36, q37, q38, q39, q40, q41, q42, q43, q44, q45, pl, a1, a2, a3, a4, a5, h1⟩
