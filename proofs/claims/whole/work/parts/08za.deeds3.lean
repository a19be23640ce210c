/-! settle, part, figure, deal -/
theorem inv_s {V : Nat → Int} {m k : Nat} (hm : m ≤ 12) (hk : k < m) : inv V m k < m ∧ ps V m (inv V m k) = k := by
  unfold inv
  exact Classical.epsilon_spec (p := fun p => p < m ∧ ps V m p = k) (ps_surj hm hk)
section SE1
variable {V : Nat → Int} {m : Nat} {pl : Nat → Int32} {w : Nat → Int64}
theorem settle_s (hm : m ≤ 12) (hl : PLc V m pl) (hy : BY w 15 V m) (vf wf : Nat → Int32) : ∃ vf' wf', L_X5_settle_35 pl (nI m) 4000 0 vf 0 = some (vf', nI m) ∧ L_X6_settle_19 w (nI m) 4000 0 wf = some wf' ∧ PLN m (inv V m) vf' wf' := by
  have k1 : ∃ r, L_X5_settle_35 pl (nI m) 4000 (nI 0) vf (nI 0) = some r ∧ (r.2 = nI m ∧ ∀ j, j < m → r.1 j = nI (inv V m j)) := by
    refine solo (fun f q (a : (Nat → Int32) × Int32) => L_X5_settle_35 pl (nI m) f (nI q) a.1 a.2) (fun q a => a.2 = nI q ∧ ∀ j, j < q → a.1 j = nI (inv V m j)) _ m ?_ ?_ m 0 4000 (vf, nI 0) (by omega) (by omega) ⟨rfl, fun j hj => by omega⟩
    · rintro f ⟨a, c⟩ hI
      refine ⟨(a, c), ?_, hI⟩
      show L_X5_settle_35 pl (nI m) (f + 1) (nI m) a c = _
      rw [L_X5_settle_35, if_pos (nI_le (by omega) (by omega))]
    · rintro f q ⟨a, c⟩ hq ⟨h1, h2⟩
      refine Or.inl ?_
      have h1' : c = nI q := h1
      subst h1'
      show ∃ (s' : (Nat → Int32) × Int32), _ ∧ L_X5_settle_35 pl (nI m) (f + 1) (nI q) a (nI q) = L_X5_settle_35 pl (nI m) f (nI (q + 1)) s'.1 s'.2
      obtain ⟨i1, i2⟩ := inv_s (V := V) hm hq
      have hpa := placeAt_s (V := V) (pl := pl) hm i1 (hl _ i1)
      rw [i2] at hpa
      rw [L_X5_settle_35, if_neg (nI_ge hq (by omega)), hpa, Option.bind_some, add_s a (by omega) (by omega)]
      simp only [Option.bind_some, nI_1]
      refine ⟨(_, _), ⟨rfl, fun j hj => ?_⟩, rfl⟩
      show upd a q (nI (inv V m q)) j = _
      by_cases e : j = q
      · subst e; rw [pk_us]
      · rw [pk_un e]; exact h2 j (by omega)
  have k2 : ∃ r, L_X6_settle_19 w (nI m) 4000 (nI 0) wf = some r ∧ ∀ j, j < m → r (ps V m j) = nI j := by
    refine solo (fun f q (a : Nat → Int32) => L_X6_settle_19 w (nI m) f (nI q) a) (fun q a => ∀ j, j < q → a (ps V m j) = nI j) _ m ?_ ?_ m 0 4000 wf (by omega) (by omega) (fun j hj => by omega)
    · rintro f a hI
      refine ⟨a, ?_, hI⟩
      show L_X6_settle_19 w (nI m) (f + 1) (nI m) a = _
      rw [L_X6_settle_19, if_pos (nI_le (by omega) (by omega))]
    · rintro f q a hq h2
      refine Or.inl ?_
      show ∃ (s' : Nat → Int32), _ ∧ L_X6_settle_19 w (nI m) (f + 1) (nI q) a = L_X6_settle_19 w (nI m) f (nI (q + 1)) s'
      have hps := ps_m (V := V) hq
      rw [L_X6_settle_19, if_neg (nI_ge hq (by omega)), position_s hm hy hq, Option.bind_some, if_pos (ib_n (show ps V m q < 12 by omega) (by omega)), nI_clamp (by omega), Option.bind_some, nI_1]
      refine ⟨_, fun j hj => ?_, rfl⟩
      by_cases e : j = q
      · subst e; rw [pk_us]
      · rw [pk_un (fun x => e (ps_inj hm (by omega) hq x))]; exact h2 j (by omega)
  obtain ⟨⟨a, c⟩, e1, h1, h2⟩ := k1
  have h1' : c = nI m := h1
  subst h1'
  obtain ⟨r, e2, h3⟩ := k2
  refine ⟨a, r, e1, e2, fun p hp => ?_⟩
  obtain ⟨i1, i2⟩ := inv_s (V := V) hm hp
  refine ⟨i1, h2 p hp, ?_⟩
  have := h3 _ i1
  rw [i2] at this
  exact this
end SE1
theorem sim_settle {b_kinds : Nat → Int32} {b_sizes : Nat → Int32} {b_sorts : Nat → Int32} {b_numbers : Nat → Int64} {b_weights : Nat → Int32} {b_keySlots : Nat → Int32} {b_keyBys : Nat → Int32} {b_keyWays : Nat → Int32} {b_keyCount : Int32} {b_sheetSet : Int32} {b_handSort : Int32} {b_handNumber : Int64} {x_imageRandoms : Nat → Int32} {x_random : Int32} {h_next : Int32} {h_count : Int32} {k_places : Nat → Int32} {k_positions : Nat → Int32} {k_count : Int32} {w_w : Nat → Int64} {w_imageSeed : Nat → Int32} {w_isKept : Nat → Int32} {w_undos : Int32} {w_seed : Int32} {w_entries : Int32} {w_bookPlace : Nat → Int32} {w_bookPosition : Nat → Int32} {P_hs : HT} (hR : Rel (b_kinds, b_sizes, b_sorts, b_numbers, b_weights, b_keySlots, b_keyBys, b_keyWays, b_keyCount, b_sheetSet, b_handSort, b_handNumber) x_imageRandoms x_random h_next h_count P_hs k_places k_positions k_count w_w w_imageSeed w_isKept w_undos w_seed w_entries w_bookPlace w_bookPosition) (r_lesser : Nat → Int32) (r_positions : Nat → Int32) (r_places : Nat → Int32) (r_length : Int32) (v_from : Nat → Int32) (v_oldSorts : Nat → Int32) (v_oldNumbers : Nat → Int64) (v_count : Int32) (w_from : Nat → Int32) (w_heldSort : Nat → Int64) (w_heldNumber : Nat → Int64) : ∃ (zc : Int32 × (Nat → Int32) × (Nat → Int64) × Int32 × Int32 × (Nat → Int32) × (Nat → Int32) × (Nat → Int32) × Int32 × (Nat → Int32) × (Nat → Int32) × (Nat → Int64) × Int32 × HT) (zm : Int32 × (Nat → Int64) × Int32 × (Nat → Int32) × (Nat → Int64) × (Nat → Int64)), f_X5_settle b_kinds b_sizes b_sorts b_numbers b_weights b_keySlots b_keyBys b_keyWays b_keyCount b_sheetSet b_handSort b_handNumber h_next h_count r_lesser r_positions r_places r_length v_from v_oldSorts v_oldNumbers v_count P_hs = some zc ∧ f_X6_settle w_w w_undos w_from w_heldSort w_heldNumber = some zm ∧ zc.1 = zm.1 ∧ Rel (b_kinds, b_sizes, zc.2.1, zc.2.2.1, b_weights, b_keySlots, b_keyBys, b_keyWays, b_keyCount, b_sheetSet, b_handSort, b_handNumber) x_imageRandoms x_random zc.2.2.2.1 zc.2.2.2.2.1 zc.2.2.2.2.2.2.2.2.2.2.2.2.2 k_places k_positions k_count zm.2.1 w_imageSeed w_isKept zm.2.2.1 w_seed w_entries w_bookPlace w_bookPosition := by
  have hR0 := hR
  obtain ⟨hW, hB, hH, hI, hS, hK⟩ := hR
  unfold f_X5_settle f_X6_settle
  rcases ord_s hW hB with ⟨e1, e2⟩ | ⟨m, hm, hF, e1, e2, hC, hY⟩
  · rw [sortP_no e1, e2]
    exact ⟨_, _, rfl, rfl, rfl, hR0⟩
  obtain ⟨le, po, pl, e3, hle, hpo, hpl⟩ := sortP_s hm e1 (hC 15) r_lesser r_positions r_places r_length
  have fit : f_X4_isFit (nI m) = some 1 := by unfold f_X4_isFit; rw [if_neg (m1n hm)]
  obtain ⟨nx', ct', hs', w', un', d1, d2, hB', hH', hI'⟩ := remember_s hW hB hH hI
  have hY' : BY w' 15 _ m := fun x y hx hy => (comp_s hW hB' hF 15 hx hy).2
  obtain ⟨vf, wf, g1, g2, hP⟩ := settle_s hm hpl hY' v_from w_from
  obtain ⟨zc, w'', hSS, hNN, g3, g4, hR'⟩ := rearr_s hR0 hm hP v_oldSorts v_oldNumbers w_heldSort w_heldNumber d2
  have cl : f_X3_clear v_count = some 0 := rfl
  rw [e3, e2]
  simp only [Option.bind_some, fit, if_neg z10, cl, g1, g3, if_neg (m1n hm), d2, g2, g4]
  exact ⟨_, _, rfl, rfl, rfl, hR'⟩
theorem sim_part {b_kinds : Nat → Int32} {b_sizes : Nat → Int32} {b_sorts : Nat → Int32} {b_numbers : Nat → Int64} {b_weights : Nat → Int32} {b_keySlots : Nat → Int32} {b_keyBys : Nat → Int32} {b_keyWays : Nat → Int32} {b_keyCount : Int32} {b_sheetSet : Int32} {b_handSort : Int32} {b_handNumber : Int64} {x_imageRandoms : Nat → Int32} {x_random : Int32} {h_next : Int32} {h_count : Int32} {k_places : Nat → Int32} {k_positions : Nat → Int32} {k_count : Int32} {w_w : Nat → Int64} {w_imageSeed : Nat → Int32} {w_isKept : Nat → Int32} {w_undos : Int32} {w_seed : Int32} {w_entries : Int32} {w_bookPlace : Nat → Int32} {w_bookPosition : Nat → Int32} {P_hs : HT} (hR : Rel (b_kinds, b_sizes, b_sorts, b_numbers, b_weights, b_keySlots, b_keyBys, b_keyWays, b_keyCount, b_sheetSet, b_handSort, b_handNumber) x_imageRandoms x_random h_next h_count P_hs k_places k_positions k_count w_w w_imageSeed w_isKept w_undos w_seed w_entries w_bookPlace w_bookPosition) (r_lesser : Nat → Int32) (r_positions : Nat → Int32) (r_places : Nat → Int32) (r_length : Int32) (v_from : Nat → Int32) (v_oldSorts : Nat → Int32) (v_oldNumbers : Nat → Int64) (v_count : Int32) (w_from : Nat → Int32) (w_heldSort : Nat → Int64) (w_heldNumber : Nat → Int64) (x1 : Int32) : ∃ (zc : Int32 × (Nat → Int32) × (Nat → Int64) × Int32 × Int32 × (Nat → Int32) × (Nat → Int32) × (Nat → Int32) × Int32 × (Nat → Int32) × (Nat → Int32) × (Nat → Int64) × Int32 × HT) (zm : Int32 × (Nat → Int64) × Int32 × (Nat → Int32) × (Nat → Int64) × (Nat → Int64)), f_X5_part b_kinds b_sizes b_sorts b_numbers b_weights b_keySlots b_keyBys b_keyWays b_keyCount b_sheetSet b_handSort b_handNumber h_next h_count r_lesser r_positions r_places r_length v_from v_oldSorts v_oldNumbers v_count P_hs x1 = some zc ∧ f_X6_part w_w w_undos w_from w_heldSort w_heldNumber x1 = some zm ∧ zc.1 = zm.1 ∧ Rel (b_kinds, b_sizes, zc.2.1, zc.2.2.1, b_weights, b_keySlots, b_keyBys, b_keyWays, b_keyCount, b_sheetSet, b_handSort, b_handNumber) x_imageRandoms x_random zc.2.2.2.1 zc.2.2.2.2.1 zc.2.2.2.2.2.2.2.2.2.2.2.2.2 k_places k_positions k_count zm.2.1 w_imageSeed w_isKept zm.2.2.1 w_seed w_entries w_bookPlace w_bookPosition := by
  have hR0 := hR
  obtain ⟨hW, hB, hH, hI, hS, hK⟩ := hR
  unfold f_X5_part f_X6_part
  rcases ord_s hW hB with ⟨e1, e2⟩ | ⟨m, hm, hF, e1, e2, hC, hY⟩
  · obtain ⟨_, q1, q2⟩ := plN e2 x1
    rw [sortP_no e1, q1]
    simp only [Option.bind_some, q2]
    exact ⟨_, _, rfl, rfl, rfl, hR0⟩
  obtain ⟨le, po, pl, e3, hle, hpo, hpl⟩ := sortP_s hm e1 (hC 15) r_lesser r_positions r_places r_length
  rw [e3]
  simp only [Option.bind_some]
  rcases plC hm e2 x1 with ⟨_, q1, q2⟩ | ⟨p, hp, rfl, _, q1, q2⟩
  · rw [q1, q2]; exact ⟨_, _, rfl, rfl, rfl, hR0⟩
  obtain ⟨nx', ct', hs', w', un', d1, d2, hB', hH', hI'⟩ := remember_s hW hB hH hI
  have hY' : BY w' 15 (vP b_weights b_sorts b_numbers b_keySlots b_keyBys b_keyWays b_keyCount 15) m := fun x y hx hy => (comp_s hW hB' hF 15 hx hy).2
  have e2' : f_X6_places w' = some (nI m) := by
    obtain ⟨L, p1, p2, _⟩ := places_s hW hB'
    rw [e1] at p1
    rw [p2, ← Option.some.inj p1]
  obtain ⟨vf, wf, g1, g2, φ, hP⟩ := part_s hm hle hY' hp v_from w_from
  obtain ⟨zc, w'', hSS, hNN, g3, g4, hR'⟩ := rearr_s hR0 hm hP v_oldSorts v_oldNumbers w_heldSort w_heldNumber d2
  have cl : f_X3_clear v_count = some 0 := rfl
  rw [q1, q2]
  simp only [Option.bind_some, if_neg z10, cl, g1, g3, d2, e2', g2, g4, lesser_s hm hle hp, alikeTo_s hm hle hp, lessThan_s hm hY' hp, alikeToM_s hm hY' hp]
  exact ⟨_, _, rfl, rfl, rfl, hR'⟩
theorem jm7 (v : Int64) : (v &&& (7 : Int64)).toInt = v.toInt % 8 := by
  have h1 : (v &&& (7 : Int64)).toBitVec = v.toBitVec &&& 7#64 := rfl
  have h2 : (v &&& (7 : Int64)).toBitVec.toNat = v.toBitVec.toNat % 8 := by
    rw [h1, BitVec.toNat_and, show (7#64).toNat = 2 ^ 3 - 1 from rfl, Nat.and_two_pow_sub_one_eq_mod]
  have h3 : (v &&& (7 : Int64)).toInt = ((v &&& (7 : Int64)).toBitVec.toNat : Int).bmod (2 ^ 64) := BitVec.toInt_eq_toNat_bmod _
  have h4 : v.toInt = (v.toBitVec.toNat : Int).bmod (2 ^ 64) := BitVec.toInt_eq_toNat_bmod _
  have h5 : v.toBitVec.toNat < 2 ^ 64 := BitVec.isLt _
  rw [h3, h4, h2, Int.bmod_def, Int.bmod_def]
  omega
theorem shd1 : ∀ f, f < 21 → ((Int64.toUInt64 (Int32.toInt64 ((3 : Int32) * nI f)) &&& Int64.toUInt64 63).toBitVec % 64).toNat = 3 * f ∧ ((Int32.toInt64 ((3 : Int32) * nI f) &&& 63).toBitVec.smod 64).toNat = 3 * f := by decide +kernel
/-- the digit, by both shifts -/
theorem dig_s (v : Int64) {f : Nat} (hf : f < 21) : (UInt64.toInt64 (Int64.toUInt64 v >>> (Int64.toUInt64 (Int32.toInt64 ((3 : Int32) * nI f)) &&& Int64.toUInt64 63))) &&& (7 : Int64) = (v >>> (Int32.toInt64 ((3 : Int32) * nI f) &&& 63)) &&& (7 : Int64) := by
  obtain ⟨d1, d2⟩ := shd1 f hf
  refine Int64.toBitVec_inj.mp ?_
  have a1 : (UInt64.toInt64 (Int64.toUInt64 v >>> (Int64.toUInt64 (Int32.toInt64 ((3 : Int32) * nI f)) &&& Int64.toUInt64 63))).toBitVec = v.toBitVec >>> (3 * f) := by
    show (Int64.toUInt64 v >>> (Int64.toUInt64 (Int32.toInt64 ((3 : Int32) * nI f)) &&& Int64.toUInt64 63)).toBitVec = _
    rw [UInt64.toBitVec_shiftRight]
    show v.toBitVec >>> ((Int64.toUInt64 (Int32.toInt64 ((3 : Int32) * nI f)) &&& Int64.toUInt64 63).toBitVec % 64).toNat = _
    rw [d1]
  have a2 : (v >>> (Int32.toInt64 ((3 : Int32) * nI f) &&& 63)).toBitVec = v.toBitVec.sshiftRight (3 * f) := by
    rw [Int64.toBitVec_shiftRight]
    show v.toBitVec.sshiftRight ((Int32.toInt64 ((3 : Int32) * nI f) &&& 63).toBitVec.smod 64).toNat = _
    rw [d2]
  rw [Int64.toBitVec_and, Int64.toBitVec_and, a1, a2]
  refine BitVec.eq_of_getLsbD_eq ?_
  intro i hi
  rw [BitVec.getLsbD_and, BitVec.getLsbD_and]
  by_cases h3 : i < 3
  · rw [BitVec.getLsbD_ushiftRight, BitVec.getLsbD_sshiftRight, if_pos (by omega)]
    have : ¬ 64 ≤ i := by omega
    simp [this]
  · have h7 : (7 : Int64).toBitVec.getLsbD i = false := by
      show (7#64).getLsbD i = false
      rw [BitVec.getLsbD_ofNat]
      have : Nat.testBit 7 i = false := Nat.testBit_lt_two_pow (Nat.lt_of_lt_of_le (by decide : 7 < 2 ^ 3) (Nat.pow_le_pow_right (by omega) (by omega)))
      rw [this, Bool.and_false]
    rw [h7, Bool.and_false, Bool.and_false]
/-- the digit of a number -/
def dg (v : Int64) (f : Nat) : Nat := ((v >>> (Int32.toInt64 ((3 : Int32) * nI f) &&& 63)).toInt % 8).toNat
theorem dg_b (v : Int64) (f : Nat) : dg v f < 8 := by unfold dg; omega
theorem dg_s (v : Int64) (f g : Nat) (hg : g < 8) : (lg_cmp ((v >>> (Int32.toInt64 ((3 : Int32) * nI f) &&& 63)) &&& (7 : Int64)) (Int32.toInt64 (nI g)) = 0) ↔ dg v f = g := by
  rw [lc_eq]
  unfold dg
  constructor
  · intro e
    have := congrArg Int64.toInt e
    rw [jm7, nJ64 (by omega)] at this
    omega
  · intro e
    refine k64 ?_
    rw [jm7, nJ64 (by omega)]
    omega
section FG1
variable {k z t g ks kb kw : Nat → Int32} {n : Nat → Int64} {kc ss hs : Int32} {hn : Int64} {w : Nat → Int64}
variable {m : Nat}
theorem figIn (hB : RBu (k, z, t, n, g, ks, kb, kw, kc, ss, hs, hn) w 0) (hm : m ≤ 12) {s g f0 : Nat} (hs' : s < 6) (hf : f0 < 21) (hg : g < 8) (vf wf : Nat → Int32) (c : Nat) (h : AD m c (Dg (fun x => dg (n (12 * s + x)) f0) g 0) vf wf) : ∃ vf' wf' c', L_X5_figure_101 n (nI s) (nI f0) (nI m) (nI g) 4000 0 vf (nI c) = some (vf', nI c') ∧ L_X6_figure_88 w (nI s) (nI f0) (nI m) (nI g) 4000 (nI c) 0 wf = some (nI c', wf') ∧ AD m c' (Dg (fun x => dg (n (12 * s + x)) f0) (g + 1) 0) vf' wf' := by
  have key : ∃ r u, L_X5_figure_101 n (nI s) (nI f0) (nI m) (nI g) 4000 (nI 0) vf (nI c) = some r ∧ L_X6_figure_88 w (nI s) (nI f0) (nI m) (nI g) 4000 (nI c) (nI 0) wf = some u ∧ ∃ c', r.2 = nI c' ∧ u.1 = nI c' ∧ AD m c' (Dg (fun x => dg (n (12 * s + x)) f0) g m) r.1 u.2 := by
    refine lock (fun f q (a : (Nat → Int32) × Int32) => L_X5_figure_101 n (nI s) (nI f0) (nI m) (nI g) f (nI q) a.1 a.2) (fun f q (a : Int32 × (Nat → Int32)) => L_X6_figure_88 w (nI s) (nI f0) (nI m) (nI g) f a.1 (nI q) a.2) (fun q r u => ∃ c', r.2 = nI c' ∧ u.1 = nI c' ∧ AD m c' (Dg (fun x => dg (n (12 * s + x)) f0) g q) r.1 u.2) _ m ?_ ?_ m 0 4000 4000 (vf, nI c) (nI c, wf) (by omega) (by omega) (by omega) ⟨c, rfl, rfl, h⟩
    · rintro f f' ⟨v, c1⟩ ⟨c2, u⟩ hI
      refine ⟨(v, c1), (c2, u), ?_, ?_, hI⟩
      · show L_X5_figure_101 n (nI s) (nI f0) (nI m) (nI g) (f + 1) (nI m) v c1 = _
        rw [L_X5_figure_101, if_pos (nI_le (by omega) (by omega))]
      · show L_X6_figure_88 w (nI s) (nI f0) (nI m) (nI g) (f' + 1) c2 (nI m) u = _
        rw [L_X6_figure_88, if_pos (nI_le (by omega) (by omega))]
    · rintro f f' q ⟨v, c1⟩ ⟨c2, u⟩ hq ⟨c', e1, e2, hA⟩
      refine Or.inl ?_
      have e1' : c1 = nI c' := e1
      have e2' : c2 = nI c' := e2
      subst e1' e2'
      show ∃ (s' : (Nat → Int32) × Int32) (t' : Int32 × (Nat → Int32)), _ ∧ L_X5_figure_101 n (nI s) (nI f0) (nI m) (nI g) (f + 1) (nI q) v (nI c') = L_X5_figure_101 n (nI s) (nI f0) (nI m) (nI g) f (nI (q + 1)) s'.1 s'.2 ∧ L_X6_figure_88 w (nI s) (nI f0) (nI m) (nI g) (f' + 1) (nI c') (nI q) u = L_X6_figure_88 w (nI s) (nI f0) (nI m) (nI g) f' t'.1 (nI (q + 1)) t'.2
      have hge : ¬ nI m ≤ nI q := nI_ge hq (by omega)
      have hds := dg_s (n (12 * s + q)) f0 g hg
      rw [L_X5_figure_101, L_X6_figure_88, if_neg hge, if_neg hge, numberAt_n hs' (show q < 12 by omega), atM_n]
      simp only [Option.bind_some, (numM_s hB hs' (show q < 12 by omega)).1, (numM_s hB hs' (show q < 12 by omega)).2, if_true, dig_s _ hf, nI_1]
      by_cases hr : dg (n (12 * s + q)) f0 = g
      · have hD : Dg (fun x => dg (n (12 * s + x)) f0) g q q = false := by
          rcases Dg_off (rel := fun x => dg (n (12 * s + x)) f0) (g := g) (q := q) with x | x
          · exact x
          · have : dg (n (12 * s + q)) f0 < g := x
            omega
        have hcm := AD_lt hA hq hD
        rw [if_pos (hds.mpr hr), if_pos (hds.mpr hr), add_s v (by omega) (by omega)]
        simp only [Option.bind_some, ib_n (show c' < 12 by omega) (show 12 < 2 ^ 31 by omega), if_true, nI_clamp (show c' < 2 ^ 31 by omega), nI_1]
        exact ⟨(_, _), (_, _), ⟨c' + 1, rfl, rfl, AD_add hA hq hD (fun y _ => Dg_add hr)⟩, rfl, rfl⟩
      · rw [if_neg (fun e => hr (hds.mp e)), if_neg (fun e => hr (hds.mp e))]
        exact ⟨(_, _), (_, _), ⟨c', rfl, rfl, AD_cg hA (fun y _ => Dg_same hr)⟩, rfl, rfl⟩
  obtain ⟨⟨v, c1⟩, ⟨c2, u⟩, g1, g2, c', e1, e2, hA⟩ := key
  have e1' : c1 = nI c' := e1
  have e2' : c2 = nI c' := e2
  subst e1' e2'
  exact ⟨v, u, c', g1, g2, AD_cg hA (fun y hy => Dg_next hy)⟩
theorem Dg_0 {rel : Nat → Nat} {m : Nat} : cn (Dg rel 0 0) m = 0 := by
  have : cn (Dg rel 0 0) m = cn (fun _ => false) m := cn_cg (fun q hq => by
    unfold Dg
    rw [decide_eq_false (show ¬ rel q < 0 by omega), decide_eq_false (show ¬ q < 0 by omega), Bool.and_false]; rfl)
  rw [this]
  have z : ∀ l, cn (fun _ => false) l = 0 := by
    intro l
    induction l with
    | zero => rfl
    | succ l ih => rw [cn_f rfl, ih]
  exact z m
theorem fig_s (hB : RBu (k, z, t, n, g, ks, kb, kw, kc, ss, hs, hn) w 0) (hm : m ≤ 12) {s f0 : Nat} (hs' : s < 6) (hf : f0 < 21) (vf wf : Nat → Int32) : ∃ vf' wf', L_X5_figure_91 n (nI s) (nI f0) (nI m) 4000 0 vf 0 = some (vf', nI m) ∧ L_X6_figure_78 w (nI s) (nI f0) (nI m) 4000 0 0 wf = some wf' ∧ ∃ φ, PLN m φ vf' wf' := by
  have key : ∃ r u, L_X5_figure_91 n (nI s) (nI f0) (nI m) 4000 (nI 0) vf (nI 0) = some r ∧ L_X6_figure_78 w (nI s) (nI f0) (nI m) 4000 (nI 0) (nI 0) wf = some u ∧ ∃ c', r.2 = nI c' ∧ AD m c' (Dg (fun x => dg (n (12 * s + x)) f0) 8 0) r.1 u := by
    refine lock (fun f q (a : (Nat → Int32) × Int32) => L_X5_figure_91 n (nI s) (nI f0) (nI m) f (nI q) a.1 a.2) (fun f q (a : Int32 × (Nat → Int32)) => L_X6_figure_78 w (nI s) (nI f0) (nI m) f a.1 (nI q) a.2) (fun q r u => ∃ c', r.2 = nI c' ∧ u.1 = nI c' ∧ AD m c' (Dg (fun x => dg (n (12 * s + x)) f0) q 0) r.1 u.2) _ 8 ?_ ?_ 8 0 4000 4000 (vf, nI 0) (nI 0, wf) (by omega) (by omega) (by omega) ⟨0, rfl, rfl, Dg_0.symm, fun j hj => by omega⟩
    · rintro f f' ⟨v, c1⟩ ⟨c2, u⟩ ⟨c', e1, e2, hA⟩
      exact ⟨(v, c1), u, rfl, rfl, c', e1, hA⟩
    · rintro f f' q ⟨v, c1⟩ ⟨c2, u⟩ hq ⟨c', e1, e2, hA⟩
      refine Or.inl ?_
      have e1' : c1 = nI c' := e1
      have e2' : c2 = nI c' := e2
      subst e1' e2'
      show ∃ (s' : (Nat → Int32) × Int32) (t' : Int32 × (Nat → Int32)), _ ∧ L_X5_figure_91 n (nI s) (nI f0) (nI m) (f + 1) (nI q) v (nI c') = L_X5_figure_91 n (nI s) (nI f0) (nI m) f (nI (q + 1)) s'.1 s'.2 ∧ L_X6_figure_78 w (nI s) (nI f0) (nI m) (f' + 1) (nI c') (nI q) u = L_X6_figure_78 w (nI s) (nI f0) (nI m) f' t'.1 (nI (q + 1)) t'.2
      obtain ⟨v', u', c2, g1, g2, hA'⟩ := figIn hB hm hs' hf hq v u c' hA
      have h2 : ¬ (7 : Int32) < nI q := show ¬ nI 7 < nI q from nI_nlt (by omega) (by omega)
      have h3 : ¬ (8 : Int32) ≤ nI q := show ¬ nI 8 ≤ nI q from nI_ge (by omega) (by omega)
      rw [L_X5_figure_91, L_X6_figure_78, if_neg h2, if_neg h3, g1, g2]
      simp only [Option.bind_some, nI_1]
      exact ⟨(v', nI c2), (nI c2, u'), ⟨c2, rfl, rfl, hA'⟩, rfl, rfl⟩
  obtain ⟨⟨v, c1⟩, u, g1, g2, c', e1, hA⟩ := key
  have e1' : c1 = nI c' := e1
  subst e1'
  obtain ⟨hc, hφ⟩ := AD_all hm hA (fun x hx => by
    unfold Dg
    rw [decide_eq_true (dg_b _ _)]; rfl)
  subst hc
  exact ⟨v, u, g1, g2, hφ⟩
end FG1
theorem sim_figure {b_kinds : Nat → Int32} {b_sizes : Nat → Int32} {b_sorts : Nat → Int32} {b_numbers : Nat → Int64} {b_weights : Nat → Int32} {b_keySlots : Nat → Int32} {b_keyBys : Nat → Int32} {b_keyWays : Nat → Int32} {b_keyCount : Int32} {b_sheetSet : Int32} {b_handSort : Int32} {b_handNumber : Int64} {x_imageRandoms : Nat → Int32} {x_random : Int32} {h_next : Int32} {h_count : Int32} {k_places : Nat → Int32} {k_positions : Nat → Int32} {k_count : Int32} {w_w : Nat → Int64} {w_imageSeed : Nat → Int32} {w_isKept : Nat → Int32} {w_undos : Int32} {w_seed : Int32} {w_entries : Int32} {w_bookPlace : Nat → Int32} {w_bookPosition : Nat → Int32} {P_hs : HT} (hR : Rel (b_kinds, b_sizes, b_sorts, b_numbers, b_weights, b_keySlots, b_keyBys, b_keyWays, b_keyCount, b_sheetSet, b_handSort, b_handNumber) x_imageRandoms x_random h_next h_count P_hs k_places k_positions k_count w_w w_imageSeed w_isKept w_undos w_seed w_entries w_bookPlace w_bookPosition) (v_from : Nat → Int32) (v_oldSorts : Nat → Int32) (v_oldNumbers : Nat → Int64) (v_count : Int32) (w_from : Nat → Int32) (w_heldSort : Nat → Int64) (w_heldNumber : Nat → Int64) (x1 : Int32) (x2 : Int32) : ∃ (zc : Int32 × (Nat → Int32) × (Nat → Int64) × Int32 × Int32 × (Nat → Int32) × (Nat → Int32) × (Nat → Int64) × Int32 × HT) (zm : Int32 × (Nat → Int64) × Int32 × (Nat → Int32) × (Nat → Int64) × (Nat → Int64)), f_X5_figure b_kinds b_sizes b_sorts b_numbers b_weights b_keySlots b_keyBys b_keyWays b_keyCount b_sheetSet b_handSort b_handNumber h_next h_count v_from v_oldSorts v_oldNumbers v_count P_hs x1 x2 = some zc ∧ f_X6_figure w_w w_undos w_from w_heldSort w_heldNumber x1 x2 = some zm ∧ zc.1 = zm.1 ∧ Rel (b_kinds, b_sizes, zc.2.1, zc.2.2.1, b_weights, b_keySlots, b_keyBys, b_keyWays, b_keyCount, b_sheetSet, b_handSort, b_handNumber) x_imageRandoms x_random zc.2.2.2.1 zc.2.2.2.2.1 zc.2.2.2.2.2.2.2.2.2 k_places k_positions k_count zm.2.1 w_imageSeed w_isKept zm.2.2.1 w_seed w_entries w_bookPlace w_bookPosition := by
  have hR0 := hR
  obtain ⟨hW, hB, hH, hI, hS, hK⟩ := hR
  unfold f_X5_figure f_X6_figure
  rcases slotC x1 with ⟨h1, h2⟩ | ⟨s, hs, rfl, h1, h2⟩
  · rw [h1, h2]; exact ⟨_, _, rfl, rfl, rfl, hR0⟩
  rcases inC x2 0 20 0 20 rfl rfl with ⟨h3, h4, _⟩ | ⟨h3, h4, h5⟩
  · rw [h1, h2, h3, h4]; exact ⟨_, _, rfl, rfl, rfl, hR0⟩
  obtain ⟨f0, hf, rfl⟩ := inN (N := 21) h5.1 (by have := h5.2; have e9 : (20 : Int32).toInt = 20 := rfl; omega)
  rw [h1, h2, h3, h4, holds_n hs, isRowM_n hB hs, sizeOf_n hs]
  simp only [Option.bind_some, if_neg z10]
  rcases ord_s hW hB with ⟨e1, e2⟩ | ⟨m, hm, hF, e1, e2, hC, hY⟩
  · rw [e1, e2]
    exact ⟨_, _, rfl, rfl, rfl, hR0⟩
  rw [e1, e2]
  simp only [Option.bind_some, if_neg (m1n hm)]
  by_cases h11 : (b_kinds s).toInt ≤ 11
  · rw [manyM_n hB hs h11]
    simp only [if_pos h11, Option.bind_some, if_neg z10]
    by_cases hz : b_sizes s = nI m
    · simp only [if_pos hz]
      obtain ⟨κ, hκ, ek⟩ := kin hW hs
      obtain ⟨nx', ct', hs', w', un', d1, d2, hB', hH', hI'⟩ := remember_s hW hB hH hI
      obtain ⟨vf, wf, g1, g2, φ, hP⟩ := fig_s hB' hm hs hf v_from w_from
      obtain ⟨zc, w'', hSS, hNN, g3, g4, hR'⟩ := rearr_s hR0 hm hP v_oldSorts v_oldNumbers w_heldSort w_heldNumber d2
      have cl : f_X3_clear v_count = some 0 := rfl
      by_cases h0 : nI m ≤ 0
      · simp only [if_pos h0, cl, Option.bind_some, g1, g3, d2, g2, g4]
        exact ⟨_, _, rfl, rfl, rfl, hR'⟩
      · have hcr := canRead_n hs hκ ek (show 5 < 9 by omega)
        have hrr := reads_n hB hs hκ ek (show 5 < 9 by omega)
        rw [show ((5 : Nat) == 8) = false from rfl, Bool.false_or] at hrr
        rw [show (5 : Int32) = nI 5 from rfl, hcr, hrr]
        simp only [if_neg h0, Option.bind_some]
        cases hx : crb κ 5
        · simp only [if_pos bI_f]
          exact ⟨_, _, rfl, rfl, rfl, hR0⟩
        · have hbt : ¬ bI true = 0 := by decide
          simp only [if_neg hbt, cl, Option.bind_some, g1, g3, d2, g2, g4]
          exact ⟨_, _, rfl, rfl, rfl, hR'⟩
    · simp only [if_neg hz]
      exact ⟨_, _, rfl, rfl, rfl, hR0⟩
  · simp only [if_neg h11]
    exact ⟨_, _, rfl, rfl, rfl, hR0⟩
