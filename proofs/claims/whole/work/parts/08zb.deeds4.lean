/-! deal and move -/
theorem Dg_jump {k h q x : Nat} (hk : 0 < k) (hq : q % k = h) : Dg (fun x => x % k) h (q + k) x = (Dg (fun x => x % k) h q x || decide (x = q)) := by
  unfold Dg
  by_cases e : x % k = h
  · have key : (x < q + k) ↔ (x < q ∨ x = q) := by
      constructor
      · intro hx
        by_cases hlt : q < x
        · exfalso
          have a1 := Nat.div_add_mod x k
          have a2 := Nat.div_add_mod q k
          by_cases h3 : x / k ≤ q / k
          · have := Nat.mul_le_mul_left k h3
            omega
          · have h4 : q / k + 1 ≤ x / k := by omega
            have h5 := Nat.mul_le_mul_left k h4
            rw [Nat.mul_add, Nat.mul_one] at h5
            omega
        · omega
      · intro hx; omega
    rw [decide_eq_true e, Bool.true_and, Bool.true_and, decide_eq_decide.mpr key, Bool.decide_or, Bool.or_assoc]
  · have : ¬ x = q := fun h' => e (by rw [h']; exact hq)
    rw [decide_eq_false e, decide_eq_false this, Bool.false_and, Bool.false_and, Bool.or_false, Bool.or_false]
theorem Dg_st {k h j x : Nat} (hh : h < k) (hj : j = h) : Dg (fun x => x % k) h 0 x = Dg (fun x => x % k) h j x := by
  subst hj
  unfold Dg
  by_cases e : x % k = j
  · have : ¬ x < j := fun h' => by
      rw [Nat.mod_eq_of_lt (by omega)] at e
      omega
    rw [decide_eq_false this, decide_eq_false (show ¬ x < 0 by omega)]
  · rw [decide_eq_false e, Bool.false_and, Bool.false_and]
section DL1
variable {m : Nat}
theorem dealIn (hm : m ≤ 12) {k h : Nat} (hk : 0 < k) (hk2 : k ≤ 12) (hh : h < k) (vf wf : Nat → Int32) (c : Nat) (hA0 : AD m c (Dg (fun x => x % k) h 0) vf wf) : ∃ vf' wf' c', L_X5_deal_46 (nI k) (nI m) 4000 (nI h) vf (nI c) = some (vf', nI c') ∧ L_X6_deal_47 (nI k) (nI m) 4000 (nI c) (nI h) wf = some (nI c', wf') ∧ AD m c' (Dg (fun x => x % k) (h + 1) 0) vf' wf' := by
  have key : ∃ r u, L_X5_deal_46 (nI k) (nI m) 4000 (nI (h + 0 * k)) vf (nI c) = some r ∧ L_X6_deal_47 (nI k) (nI m) 4000 (nI c) (nI (h + 0 * k)) wf = some u ∧ ∃ c', r.2 = nI c' ∧ u.1 = nI c' ∧ AD m c' (Dg (fun x => x % k) (h + 1) 0) r.1 u.2 := by
    refine lock (fun f j (a : (Nat → Int32) × Int32) => L_X5_deal_46 (nI k) (nI m) f (nI (h + j * k)) a.1 a.2) (fun f j (a : Int32 × (Nat → Int32)) => L_X6_deal_47 (nI k) (nI m) f a.1 (nI (h + j * k)) a.2) (fun j r u => ∃ c', r.2 = nI c' ∧ u.1 = nI c' ∧ AD m c' (Dg (fun x => x % k) h (h + j * k)) r.1 u.2) _ 12 ?_ ?_ 12 0 4000 4000 (vf, nI c) (nI c, wf) (by omega) (by omega) (by omega) ⟨c, rfl, rfl, AD_cg hA0 (fun x _ => Dg_st hh (by omega))⟩
    · rintro f f' ⟨v, c1⟩ ⟨c2, u⟩ ⟨c', e1, e2, hA⟩
      refine ⟨(v, c1), (c2, u), ?_, ?_, c', e1, e2, AD_cg hA (fun x hx => Dg_next (by omega))⟩
      · show L_X5_deal_46 (nI k) (nI m) (f + 1) (nI (h + 12 * k)) v c1 = _
        rw [L_X5_deal_46, if_pos (nI_le (by omega) (by omega))]
      · show L_X6_deal_47 (nI k) (nI m) (f' + 1) c2 (nI (h + 12 * k)) u = _
        rw [L_X6_deal_47, if_pos (nI_le (by omega) (by omega))]
    · rintro f f' j ⟨v, c1⟩ ⟨c2, u⟩ hj ⟨c', e1, e2, hA⟩
      have e1' : c1 = nI c' := e1
      have e2' : c2 = nI c' := e2
      subst e1' e2'
      have hjk : j * k ≤ 12 * 12 := Nat.mul_le_mul (by omega) hk2
      have hnx : h + (j + 1) * k = h + j * k + k := by rw [Nat.succ_mul]; omega
      have hpm : (h + j * k) % k = h := by rw [Nat.add_mul_mod_self_right, Nat.mod_eq_of_lt hh]
      have hA : AD m c' (Dg (fun x => x % k) h (h + j * k)) v u := hA
      generalize hp : h + j * k = p at hnx hpm hA
      by_cases hge : m ≤ p
      · refine Or.inr ⟨(v, nI c'), (nI c', u), ?_, ?_, c', rfl, rfl, AD_cg hA (fun x hx => Dg_next (by omega))⟩
        · show L_X5_deal_46 (nI k) (nI m) (f + 1) (nI p) v (nI c') = _
          rw [L_X5_deal_46, if_pos (nI_le hge (by omega))]
        · show L_X6_deal_47 (nI k) (nI m) (f' + 1) (nI c') (nI p) u = _
          rw [L_X6_deal_47, if_pos (nI_le hge (by omega))]
      · refine Or.inl ?_
        show ∃ (s' : (Nat → Int32) × Int32) (t' : Int32 × (Nat → Int32)), _ ∧ L_X5_deal_46 (nI k) (nI m) (f + 1) (nI p) v (nI c') = L_X5_deal_46 (nI k) (nI m) f (nI (h + (j + 1) * k)) s'.1 s'.2 ∧ L_X6_deal_47 (nI k) (nI m) (f' + 1) (nI c') (nI p) u = L_X6_deal_47 (nI k) (nI m) f' t'.1 (nI (h + (j + 1) * k)) t'.2
        have hpl : p < m := by omega
        have hD : Dg (fun x => x % k) h p p = false := by
          rcases Dg_off (rel := fun x => x % k) (g := h) (q := p) with x | x
          · exact x
          · have : p % k < h := x
            omega
        have hcm := AD_lt hA hpl hD
        rw [hnx, L_X5_deal_46, L_X6_deal_47, if_neg (nI_ge hpl (by omega)), if_neg (nI_ge hpl (by omega)), add_s v (by omega) (by omega)]
        simp only [Option.bind_some, ib_n (show c' < 12 by omega) (show 12 < 2 ^ 31 by omega), if_true, nI_clamp (show c' < 2 ^ 31 by omega), nI_1, nI_add]
        exact ⟨(_, _), (_, _), ⟨c' + 1, rfl, rfl, AD_add hA hpl hD (fun y _ => Dg_jump hk hpm)⟩, rfl, rfl⟩
  rw [Nat.zero_mul, Nat.add_zero] at key
  obtain ⟨⟨v, c1⟩, ⟨c2, u⟩, g1, g2, c', e1, e2, hA⟩ := key
  have e1' : c1 = nI c' := e1
  have e2' : c2 = nI c' := e2
  subst e1' e2'
  exact ⟨v, u, c', g1, g2, hA⟩
theorem deal_s (hm : m ≤ 12) {k : Nat} (hk : 0 < k) (hk2 : k ≤ 12) (vf wf : Nat → Int32) : ∃ vf' wf', L_X5_deal_38 (nI k) (nI m) 4000 0 vf 0 = some (vf', nI m) ∧ L_X6_deal_37 (nI k) (nI m) 4000 0 0 wf = some wf' ∧ ∃ φ, PLN m φ vf' wf' := by
  have key : ∃ r u, L_X5_deal_38 (nI k) (nI m) 4000 (nI 0) vf (nI 0) = some r ∧ L_X6_deal_37 (nI k) (nI m) 4000 (nI 0) (nI 0) wf = some u ∧ ∃ c', r.2 = nI c' ∧ AD m c' (Dg (fun x => x % k) k 0) r.1 u := by
    refine lock (fun f q (a : (Nat → Int32) × Int32) => L_X5_deal_38 (nI k) (nI m) f (nI q) a.1 a.2) (fun f q (a : Int32 × (Nat → Int32)) => L_X6_deal_37 (nI k) (nI m) f a.1 (nI q) a.2) (fun q r u => ∃ c', r.2 = nI c' ∧ u.1 = nI c' ∧ AD m c' (Dg (fun x => x % k) q 0) r.1 u.2) _ k ?_ ?_ k 0 4000 4000 (vf, nI 0) (nI 0, wf) (by omega) (by omega) (by omega) ⟨0, rfl, rfl, Dg_0.symm, fun j hj => by omega⟩
    · rintro f f' ⟨v, c1⟩ ⟨c2, u⟩ ⟨c', e1, e2, hA⟩
      refine ⟨(v, c1), u, ?_, ?_, c', e1, hA⟩
      · show L_X5_deal_38 (nI k) (nI m) (f + 1) (nI k) v c1 = _
        rw [L_X5_deal_38, if_pos (nI_le (by omega) (by omega))]
      · show L_X6_deal_37 (nI k) (nI m) (f' + 1) c2 (nI k) u = _
        rw [L_X6_deal_37, if_pos (nI_le (by omega) (by omega))]
    · rintro f f' q ⟨v, c1⟩ ⟨c2, u⟩ hq ⟨c', e1, e2, hA⟩
      refine Or.inl ?_
      have e1' : c1 = nI c' := e1
      have e2' : c2 = nI c' := e2
      subst e1' e2'
      show ∃ (s' : (Nat → Int32) × Int32) (t' : Int32 × (Nat → Int32)), _ ∧ L_X5_deal_38 (nI k) (nI m) (f + 1) (nI q) v (nI c') = L_X5_deal_38 (nI k) (nI m) f (nI (q + 1)) s'.1 s'.2 ∧ L_X6_deal_37 (nI k) (nI m) (f' + 1) (nI c') (nI q) u = L_X6_deal_37 (nI k) (nI m) f' t'.1 (nI (q + 1)) t'.2
      obtain ⟨v', u', c2, g1, g2, hA'⟩ := dealIn hm hk hk2 hq v u c' hA
      rw [L_X5_deal_38, L_X6_deal_37, if_neg (nI_ge hq (by omega)), if_neg (nI_ge hq (by omega)), g1, g2]
      simp only [Option.bind_some, nI_1]
      exact ⟨(v', nI c2), (nI c2, u'), ⟨c2, rfl, rfl, hA'⟩, rfl, rfl⟩
  obtain ⟨⟨v, c1⟩, u, g1, g2, c', e1, hA⟩ := key
  have e1' : c1 = nI c' := e1
  subst e1'
  obtain ⟨hc, hφ⟩ := AD_all hm hA (fun x hx => by
    unfold Dg
    rw [decide_eq_true (show x % k < k from Nat.mod_lt _ hk)]; rfl)
  subst hc
  exact ⟨v, u, g1, g2, hφ⟩
end DL1
theorem sim_deal {b_kinds : Nat → Int32} {b_sizes : Nat → Int32} {b_sorts : Nat → Int32} {b_numbers : Nat → Int64} {b_weights : Nat → Int32} {b_keySlots : Nat → Int32} {b_keyBys : Nat → Int32} {b_keyWays : Nat → Int32} {b_keyCount : Int32} {b_sheetSet : Int32} {b_handSort : Int32} {b_handNumber : Int64} {x_imageRandoms : Nat → Int32} {x_random : Int32} {h_next : Int32} {h_count : Int32} {k_places : Nat → Int32} {k_positions : Nat → Int32} {k_count : Int32} {w_w : Nat → Int64} {w_imageSeed : Nat → Int32} {w_isKept : Nat → Int32} {w_undos : Int32} {w_seed : Int32} {w_entries : Int32} {w_bookPlace : Nat → Int32} {w_bookPosition : Nat → Int32} {P_hs : HT} (hR : Rel (b_kinds, b_sizes, b_sorts, b_numbers, b_weights, b_keySlots, b_keyBys, b_keyWays, b_keyCount, b_sheetSet, b_handSort, b_handNumber) x_imageRandoms x_random h_next h_count P_hs k_places k_positions k_count w_w w_imageSeed w_isKept w_undos w_seed w_entries w_bookPlace w_bookPosition) (v_from : Nat → Int32) (v_oldSorts : Nat → Int32) (v_oldNumbers : Nat → Int64) (v_count : Int32) (w_from : Nat → Int32) (w_heldSort : Nat → Int64) (w_heldNumber : Nat → Int64) (x1 : Int32) : ∃ (zc : Int32 × (Nat → Int32) × (Nat → Int64) × Int32 × Int32 × (Nat → Int32) × (Nat → Int32) × (Nat → Int64) × Int32 × HT) (zm : Int32 × (Nat → Int64) × Int32 × (Nat → Int32) × (Nat → Int64) × (Nat → Int64)), f_X5_deal b_kinds b_sizes b_sorts b_numbers b_weights b_keySlots b_keyBys b_keyWays b_keyCount b_sheetSet b_handSort b_handNumber h_next h_count v_from v_oldSorts v_oldNumbers v_count P_hs x1 = some zc ∧ f_X6_deal w_w w_undos w_from w_heldSort w_heldNumber x1 = some zm ∧ zc.1 = zm.1 ∧ Rel (b_kinds, b_sizes, zc.2.1, zc.2.2.1, b_weights, b_keySlots, b_keyBys, b_keyWays, b_keyCount, b_sheetSet, b_handSort, b_handNumber) x_imageRandoms x_random zc.2.2.2.1 zc.2.2.2.2.1 zc.2.2.2.2.2.2.2.2.2 k_places k_positions k_count zm.2.1 w_imageSeed w_isKept zm.2.2.1 w_seed w_entries w_bookPlace w_bookPosition := by
  have hR0 := hR
  obtain ⟨hW, hB, hH, hI, hS, hK⟩ := hR
  unfold f_X5_deal f_X6_deal
  have e9 : (1 : Int32).toInt = 1 := rfl
  have e12 : (12 : Int32).toInt = 12 := rfl
  rcases inC x1 1 12 1 12 rfl rfl with ⟨h3, h4, _⟩ | ⟨h3, h4, h5⟩
  · rw [h3, h4]; exact ⟨_, _, rfl, rfl, rfl, hR0⟩
  rw [e9, e12] at h5
  obtain ⟨k0, hk0, rfl⟩ := inN (N := 13) (by omega : 0 ≤ x1.toInt) (by omega)
  rw [nI_toInt (by omega)] at h5
  rw [h3, h4]
  simp only [Option.bind_some, if_neg z10]
  rcases ord_s hW hB with ⟨e1, e2⟩ | ⟨m, hm, hF, e1, e2, hC, hY⟩
  · rw [e1, e2]
    exact ⟨_, _, rfl, rfl, rfl, hR0⟩
  rw [e1, e2]
  obtain ⟨nx', ct', hs', w', un', d1, d2, hB', hH', hI'⟩ := remember_s hW hB hH hI
  obtain ⟨vf, wf, g1, g2, φ, hP⟩ := deal_s hm (show 0 < k0 by omega) (by omega) v_from w_from
  obtain ⟨zc, w'', hSS, hNN, g3, g4, hR'⟩ := rearr_s hR0 hm hP v_oldSorts v_oldNumbers w_heldSort w_heldNumber d2
  have cl : f_X3_clear v_count = some 0 := rfl
  simp only [Option.bind_some, if_neg (m1n hm), cl, g1, g3, d2, g2, g4]
  exact ⟨_, _, rfl, rfl, rfl, hR'⟩
/-- the place that a place gets its cells from -/
def srcN (how a b q : Nat) : Nat := if (q < a ∧ q < b) ∨ (a < q ∧ b < q) then q else if how = 1 then a + b - q else if q = b then a else if how = 0 then (if q = a then b else q) else if a < b then q + 1 else q - 1
theorem srcN_lt {how a b q m : Nat} (ha : a < m) (hb' : b < m) (hq : q < m) : srcN how a b q < m := by
  unfold srcN
  by_cases h1 : (q < a ∧ q < b) ∨ (a < q ∧ b < q)
  · rw [if_pos h1]; exact hq
  · rw [if_neg h1]
    by_cases h2 : how = 1
    · rw [if_pos h2]; omega
    · rw [if_neg h2]
      by_cases h3 : q = b
      · rw [if_pos h3]; exact ha
      · rw [if_neg h3]
        by_cases h4 : how = 0
        · rw [if_pos h4]
          by_cases h5 : q = a
          · rw [if_pos h5]; exact hb'
          · rw [if_neg h5]; exact hq
        · rw [if_neg h4]
          by_cases h5 : a < b
          · rw [if_pos h5]; omega
          · rw [if_neg h5]; omega
theorem src_d : ∀ how, how < 3 → ∀ a, a < 12 → ∀ b, b < 12 → ∀ q, q < 12 → f_X5_sourceOf (nI q) (nI a) (nI b) (nI how) = some (nI (srcN how a b q)) := by decide +kernel
section MO1
variable {m how a b : Nat}
theorem plan_s (hm : m ≤ 12) (hh : how < 3) (ha : a < m) (hb' : b < m) (vf : Nat → Int32) (cnt : Int32) : ∃ vf', f_X5_planMove vf cnt (nI a) (nI b) (nI how) (nI m) = some (vf', nI m) ∧ ∀ q, q < m → vf' q = nI (srcN how a b q) := by
  have key : ∃ r, L_X5_planMove_10 (nI a) (nI b) (nI how) (nI m) 4000 (nI 0) vf (nI 0) = some r ∧ (r.2 = nI m ∧ ∀ q, q < m → r.1 q = nI (srcN how a b q)) := by
    refine solo (fun f q (s : (Nat → Int32) × Int32) => L_X5_planMove_10 (nI a) (nI b) (nI how) (nI m) f (nI q) s.1 s.2) (fun q s => s.2 = nI q ∧ ∀ j, j < q → s.1 j = nI (srcN how a b j)) _ m ?_ ?_ m 0 4000 (vf, nI 0) (by omega) (by omega) ⟨rfl, fun j hj => by omega⟩
    · rintro f ⟨v, c⟩ hI
      refine ⟨(v, c), ?_, hI⟩
      show L_X5_planMove_10 (nI a) (nI b) (nI how) (nI m) (f + 1) (nI m) v c = _
      rw [L_X5_planMove_10, if_pos (nI_le (by omega) (by omega))]
    · rintro f q ⟨v, c⟩ hq ⟨h1, h2⟩
      refine Or.inl ?_
      have h1' : c = nI q := h1
      subst h1'
      show ∃ (s' : (Nat → Int32) × Int32), _ ∧ L_X5_planMove_10 (nI a) (nI b) (nI how) (nI m) (f + 1) (nI q) v (nI q) = L_X5_planMove_10 (nI a) (nI b) (nI how) (nI m) f (nI (q + 1)) s'.1 s'.2
      have hs := srcN_lt (how := how) ha hb' hq
      rw [L_X5_planMove_10, if_neg (nI_ge hq (by omega)), src_d how hh a (by omega) b (by omega) q (by omega), Option.bind_some, add_s v (by omega) (by omega)]
      simp only [Option.bind_some, nI_1]
      refine ⟨(_, _), ⟨rfl, fun j hj => ?_⟩, rfl⟩
      show upd v q (nI (srcN how a b q)) j = _
      by_cases e : j = q
      · subst e; rw [pk_us]
      · rw [pk_un e]; exact h2 j (by omega)
  obtain ⟨⟨v, c⟩, e1, h1, h2⟩ := key
  have h1' : c = nI m := h1
  subst h1'
  refine ⟨v, ?_, h2⟩
  unfold f_X5_planMove
  have cl : f_X3_clear cnt = some (nI 0) := rfl
  rw [cl, Option.bind_some, show L_X5_planMove_10 (nI a) (nI b) (nI how) (nI m) 4000 0 vf (nI 0) = _ from e1]
  rfl
theorem stays_s (hm : m ≤ 12) (wf : Nat → Int32) : ∃ wf', f_X6_stays wf (nI m) = some wf' ∧ ∀ q, q < m → wf' q = nI q := by
  have key : ∃ r, L_X6_stays_2 (nI m) 4000 (nI 0) wf = some r ∧ ∀ q, q < m → r q = nI q := by
    refine solo (fun f q (s : Nat → Int32) => L_X6_stays_2 (nI m) f (nI q) s) (fun q s => ∀ j, j < q → s j = nI j) _ m ?_ ?_ m 0 4000 wf (by omega) (by omega) (fun j hj => by omega)
    · rintro f v hI
      refine ⟨v, ?_, hI⟩
      show L_X6_stays_2 (nI m) (f + 1) (nI m) v = _
      rw [L_X6_stays_2, if_pos (nI_le (by omega) (by omega))]
    · rintro f q v hq h2
      refine Or.inl ?_
      show ∃ (s' : Nat → Int32), _ ∧ L_X6_stays_2 (nI m) (f + 1) (nI q) v = L_X6_stays_2 (nI m) f (nI (q + 1)) s'
      rw [L_X6_stays_2, if_neg (nI_ge hq (by omega)), if_pos (ib_n (show q < 12 by omega) (by omega)), nI_clamp (by omega), Option.bind_some, nI_1]
      refine ⟨_, fun j hj => ?_, rfl⟩
      by_cases e : j = q
      · subst e; rw [pk_us]
      · rw [pk_un e]; exact h2 j (by omega)
  obtain ⟨r, e1, h1⟩ := key
  refine ⟨r, ?_, h1⟩
  unfold f_X6_stays
  rw [show L_X6_stays_2 (nI m) 4000 0 wf = _ from e1]
  rfl
theorem mv_step {q hi : Nat} (ha : a < 12) (hb' : b < 12) (hq : q < 12) (hh : how < 3) (hhi : (a ≤ b ∧ hi = b) ∨ (b ≤ a ∧ hi = a)) (h1 : a ≤ q ∨ b ≤ q) (h2 : q ≤ hi) (f : Nat) (wf : Nat → Int32) : L_X6_move_78 (nI a) (nI b) (nI how) (nI hi) (f + 1) (nI q) wf = L_X6_move_78 (nI a) (nI b) (nI how) (nI hi) f (nI (q + 1)) (upd wf q (nI (srcN how a b q))) := by
  have hv : ∀ x y : Nat, x = y → L_X6_move_78 (nI a) (nI b) (nI how) (nI hi) f (nI (q + 1)) (upd wf q (nI x)) = L_X6_move_78 (nI a) (nI b) (nI how) (nI hi) f (nI (q + 1)) (upd wf q (nI y)) := by
    intro x y e; rw [e]
  have hq1 : 0 < q → nI q - nI 1 = nI (q - 1) := fun h => pk_sub (by omega)
  have hab : nI (a + b) - nI q = nI (a + b - q) := pk_sub (by omega)
  have c1 : (nI q = nI b) ↔ q = b := nI_eq (by omega) (by omega)
  have c2 : (nI q = nI a) ↔ q = a := nI_eq (by omega) (by omega)
  have c3 : (nI how = nI 2) ↔ how = 2 := nI_eq (by omega) (by omega)
  have c4 : (nI how = nI 1) ↔ how = 1 := nI_eq (by omega) (by omega)
  have c5 : (nI b ≤ nI a) ↔ b ≤ a := nI_leI (by omega) (by omega)
  rw [L_X6_move_78, if_neg (nI_nlt h2 (by omega))]
  simp only [n1, n2, ib_n (show q < 12 by omega) (show 12 < 2 ^ 31 by omega), if_true, nI_clamp (show q < 2 ^ 31 by omega), Option.bind_some, hab, c1, c2, c3, c4, c5, nI_add]
  by_cases e1 : q = b
  · simp only [if_pos e1]
    by_cases e2 : how = 2
    · simp only [if_pos e2]
      exact hv _ _ (by unfold srcN; rw [if_neg (by omega), if_neg (by omega), if_pos e1])
    · simp only [if_neg e2]
      have hs : a + b - q = srcN how a b q := by
        unfold srcN
        rw [if_neg (by omega)]
        by_cases e3 : how = 1
        · rw [if_pos e3]
        · rw [if_neg e3, if_pos e1]; omega
      by_cases e3 : how = 1
      · simp only [if_pos e3]; exact hv _ _ hs
      · simp only [if_neg e3]
        by_cases e4 : q = a
        · simp only [if_pos e4]; exact hv _ _ hs
        · simp only [if_neg e4]; exact hv _ _ hs
  · simp only [if_neg e1]
    by_cases e5 : b ≤ a
    · simp only [if_pos e5]
      by_cases e2 : how = 2
      · simp only [if_pos e2]
        rw [hq1 (by omega)]
        exact hv _ _ (by unfold srcN; rw [if_neg (by omega), if_neg (by omega), if_neg e1, if_neg (by omega), if_neg (by omega)])
      · simp only [if_neg e2]
        by_cases e3 : how = 1
        · simp only [if_pos e3]; exact hv _ _ (by unfold srcN; rw [if_neg (by omega), if_pos e3])
        · simp only [if_neg e3]
          by_cases e4 : q = a
          · simp only [if_pos e4]; exact hv _ _ (by unfold srcN; rw [if_neg (by omega), if_neg e3, if_neg e1, if_pos (by omega), if_pos e4]; omega)
          · simp only [if_neg e4]; exact hv _ _ (by unfold srcN; rw [if_neg (by omega), if_neg e3, if_neg e1, if_pos (by omega), if_neg e4])
    · simp only [if_neg e5]
      by_cases e2 : how = 2
      · simp only [if_pos e2]
        exact hv _ _ (by unfold srcN; rw [if_neg (by omega), if_neg (by omega), if_neg e1, if_neg (by omega), if_pos (by omega)])
      · simp only [if_neg e2]
        by_cases e3 : how = 1
        · simp only [if_pos e3]; exact hv _ _ (by unfold srcN; rw [if_neg (by omega), if_pos e3])
        · simp only [if_neg e3]
          by_cases e4 : q = a
          · simp only [if_pos e4]; exact hv _ _ (by unfold srcN; rw [if_neg (by omega), if_neg e3, if_neg e1, if_pos (by omega), if_pos e4]; omega)
          · simp only [if_neg e4]; exact hv _ _ (by unfold srcN; rw [if_neg (by omega), if_neg e3, if_neg e1, if_pos (by omega), if_neg e4])
theorem mv_loop {lo hi : Nat} (hm : m ≤ 12) (ha : a < m) (hb' : b < m) (hh : how < 3) (hhi : (a ≤ b ∧ lo = a ∧ hi = b) ∨ (b ≤ a ∧ lo = b ∧ hi = a)) (wf : Nat → Int32) (h0 : ∀ q, q < m → wf q = nI q) : ∃ wf', L_X6_move_78 (nI a) (nI b) (nI how) (nI hi) 4000 (nI lo) wf = some wf' ∧ ∀ q, q < m → wf' q = nI (srcN how a b q) := by
  refine solo (fun f q (s : Nat → Int32) => L_X6_move_78 (nI a) (nI b) (nI how) (nI hi) f (nI q) s) (fun q s => lo ≤ q ∧ ∀ j, j < m → s j = nI (if j < q then srcN how a b j else j)) (fun s => ∀ q, q < m → s q = nI (srcN how a b q)) (hi + 1) ?_ ?_ (hi + 1 - lo) lo 4000 wf (by omega) (by omega) ⟨Nat.le_refl _, fun j hj => ?_⟩
  · rintro f v ⟨_, hI⟩
    refine ⟨v, ?_, fun q hq => ?_⟩
    · show L_X6_move_78 (nI a) (nI b) (nI how) (nI hi) (f + 1) (nI (hi + 1)) v = _
      rw [L_X6_move_78, if_pos (nI_lt (by omega) (by omega))]
    · rw [hI q hq]
      by_cases e : q < hi + 1
      · rw [if_pos e]
      · rw [if_neg e]; unfold srcN; rw [if_pos (by omega)]
  · rintro f q v hq ⟨hl, hI⟩
    refine Or.inl ⟨upd v q (nI (srcN how a b q)), ⟨by omega, fun j hj => ?_⟩, mv_step (by omega) (by omega) (by omega) hh (by omega) (by omega) (by omega) f v⟩
    by_cases e : j = q
    · subst e; rw [pk_us, if_pos (by omega)]
    · rw [pk_un e, hI j hj]
      by_cases e2 : j < q
      · rw [if_pos e2, if_pos (by omega)]
      · rw [if_neg e2, if_neg (by omega)]
  · rw [h0 j hj]
    by_cases e : j < lo
    · rw [if_pos e]; unfold srcN; rw [if_pos (by omega)]
    · rw [if_neg e]
end MO1
theorem sim_move {b_kinds : Nat → Int32} {b_sizes : Nat → Int32} {b_sorts : Nat → Int32} {b_numbers : Nat → Int64} {b_weights : Nat → Int32} {b_keySlots : Nat → Int32} {b_keyBys : Nat → Int32} {b_keyWays : Nat → Int32} {b_keyCount : Int32} {b_sheetSet : Int32} {b_handSort : Int32} {b_handNumber : Int64} {x_imageRandoms : Nat → Int32} {x_random : Int32} {h_next : Int32} {h_count : Int32} {k_places : Nat → Int32} {k_positions : Nat → Int32} {k_count : Int32} {w_w : Nat → Int64} {w_imageSeed : Nat → Int32} {w_isKept : Nat → Int32} {w_undos : Int32} {w_seed : Int32} {w_entries : Int32} {w_bookPlace : Nat → Int32} {w_bookPosition : Nat → Int32} {P_hs : HT} (hR : Rel (b_kinds, b_sizes, b_sorts, b_numbers, b_weights, b_keySlots, b_keyBys, b_keyWays, b_keyCount, b_sheetSet, b_handSort, b_handNumber) x_imageRandoms x_random h_next h_count P_hs k_places k_positions k_count w_w w_imageSeed w_isKept w_undos w_seed w_entries w_bookPlace w_bookPosition) (v_from : Nat → Int32) (v_oldSorts : Nat → Int32) (v_oldNumbers : Nat → Int64) (v_count : Int32) (w_from : Nat → Int32) (w_heldSort : Nat → Int64) (w_heldNumber : Nat → Int64) (x1 : Int32) (x2 : Int32) (x3 : Int32) : ∃ (zc : Int32 × (Nat → Int32) × (Nat → Int64) × Int32 × Int32 × (Nat → Int32) × (Nat → Int32) × (Nat → Int64) × Int32 × HT) (zm : Int32 × (Nat → Int64) × Int32 × (Nat → Int32) × (Nat → Int64) × (Nat → Int64)), f_X5_move b_kinds b_sizes b_sorts b_numbers b_weights b_keySlots b_keyBys b_keyWays b_keyCount b_sheetSet b_handSort b_handNumber h_next h_count v_from v_oldSorts v_oldNumbers v_count P_hs x1 x2 x3 = some zc ∧ f_X6_move w_w w_undos w_from w_heldSort w_heldNumber x1 x2 x3 = some zm ∧ zc.1 = zm.1 ∧ Rel (b_kinds, b_sizes, zc.2.1, zc.2.2.1, b_weights, b_keySlots, b_keyBys, b_keyWays, b_keyCount, b_sheetSet, b_handSort, b_handNumber) x_imageRandoms x_random zc.2.2.2.1 zc.2.2.2.2.1 zc.2.2.2.2.2.2.2.2.2 k_places k_positions k_count zm.2.1 w_imageSeed w_isKept zm.2.2.1 w_seed w_entries w_bookPlace w_bookPosition := by
  have hR0 := hR
  obtain ⟨hW, hB, hH, hI, hS, hK⟩ := hR
  unfold f_X5_move f_X6_move
  rcases ord_s hW hB with ⟨e1, e2⟩ | ⟨m, hm, hF, e1, e2, hC, hY⟩
  · obtain ⟨q1, q2, _⟩ := plN e2 x1
    rw [e1, q2]
    simp only [Option.bind_some, q1]
    exact ⟨_, _, rfl, rfl, rfl, hR0⟩
  rw [e1]
  simp only [Option.bind_some]
  rcases plC hm e2 x1 with ⟨q1, q2, _⟩ | ⟨a, ha, rfl, q1, q2, _⟩
  · rw [q1, q2]; exact ⟨_, _, rfl, rfl, rfl, hR0⟩
  rw [q1, q2]
  simp only [Option.bind_some, if_neg z10]
  rcases plC hm e2 x2 with ⟨q3, q4, _⟩ | ⟨b, hb', rfl, q3, q4, _⟩
  · rw [q3, q4]; exact ⟨_, _, rfl, rfl, rfl, hR0⟩
  rw [q3, q4]
  simp only [Option.bind_some, if_neg z10]
  rcases inC x3 0 2 0 2 rfl rfl with ⟨h3, h4, _⟩ | ⟨h3, h4, h5⟩
  · rw [h3, h4]; exact ⟨_, _, rfl, rfl, rfl, hR0⟩
  have e9 : (0 : Int32).toInt = 0 := rfl
  have e10 : (2 : Int32).toInt = 2 := rfl
  rw [e9, e10] at h5
  obtain ⟨how, hh, rfl⟩ := inN (N := 3) (by omega : 0 ≤ x3.toInt) (by omega)
  rw [h3, h4]
  obtain ⟨nx', ct', hs', w', un', d1, d2, hB', hH', hI'⟩ := remember_s hW hB hH hI
  have e2' : f_X6_places w' = some (nI m) := by
    obtain ⟨L, p1, p2, _⟩ := places_s hW hB'
    rw [e1] at p1
    rw [p2, ← Option.some.inj p1]
  obtain ⟨vf, g1, g2⟩ := plan_s hm hh ha hb' v_from v_count
  obtain ⟨wf0, g5, g6⟩ := stays_s hm w_from
  have c5 : (nI b ≤ nI a) ↔ b ≤ a := nI_leI (by omega) (by omega)
  simp only [Option.bind_some, if_neg z10, d2, e2', g1, g5, c5]
  by_cases hab : b ≤ a
  · obtain ⟨wf, g7, g8⟩ := mv_loop (lo := b) (hi := a) hm ha hb' hh (by omega) wf0 g6
    obtain ⟨zc, w'', hSS, hNN, g3, g4, hR'⟩ := rearr_s hR0 hm (φ := srcN how a b) (vf := vf) (wf := wf) (fun p hp => ⟨srcN_lt ha hb' hp, g2 p hp, g8 p hp⟩) v_oldSorts v_oldNumbers w_heldSort w_heldNumber d2
    simp only [if_pos hab, Option.bind_some, g3, g7, g4]
    exact ⟨_, _, rfl, rfl, rfl, hR'⟩
  · obtain ⟨wf, g7, g8⟩ := mv_loop (lo := a) (hi := b) hm ha hb' hh (by omega) wf0 g6
    obtain ⟨zc, w'', hSS, hNN, g3, g4, hR'⟩ := rearr_s hR0 hm (φ := srcN how a b) (vf := vf) (wf := wf) (fun p hp => ⟨srcN_lt ha hb' hp, g2 p hp, g8 p hp⟩) v_oldSorts v_oldNumbers w_heldSort w_heldNumber d2
    simp only [if_neg hab, Option.bind_some, g3, g7, g4]
    exact ⟨_, _, rfl, rfl, rfl, hR'⟩
