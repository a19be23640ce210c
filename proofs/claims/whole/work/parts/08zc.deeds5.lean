/-! pass -/
theorem m1le {m q : Nat} (hm : m ≤ 12) (hq : q ≤ 12) : (nI m - (1 : Int32) ≤ nI q) ↔ m ≤ q + 1 := by
  rw [le32, sub1 (by rw [nI_toInt (by omega)]; omega), nI_toInt (by omega), nI_toInt (by omega)]
  omega
section PS1
variable {k z t g ks kb kw : Nat → Int32} {n : Nat → Int64} {kc ss hs : Int32} {hn : Int64} {w : Nat → Int64}
variable {m : Nat}
theorem pass_s (hW : WFu (k, z, t, n, g, ks, kb, kw, kc, ss, hs, hn)) (hB : RBu (k, z, t, n, g, ks, kb, kw, kc, ss, hs, hn) w 0) (hF : Fit k z ks kb kc ss m) (hm : m ≤ 12) (vf os : Nat → Int32) (on : Nat → Int64) (ct : Int32) (wf : Nat → Int32) (hS hN : Nat → Int64) : ∃ (r : Int32 × (Nat → Int32) × (Nat → Int64) × (Nat → Int32) × (Nat → Int32) × (Nat → Int64) × Int32) (p : Int32 × (Nat → Int64) × (Nat → Int32) × (Nat → Int64) × (Nat → Int64)), L_X5_pass_31 g ks kb kw kc ss (nI m) 4000 0 0 t n vf os on ct = some r ∧ L_X6_pass_21 (nI m) 4000 0 0 w wf hS hN = some p ∧ r.1 = p.1 ∧ WFu (k, z, r.2.1, r.2.2.1, g, ks, kb, kw, kc, ss, hs, hn) ∧ RBu (k, z, r.2.1, r.2.2.1, g, ks, kb, kw, kc, ss, hs, hn) p.2.1 0 ∧ ∀ j, 180 ≤ j → p.2.1 j = w j := by
  have key : ∃ r p, L_X5_pass_31 g ks kb kw kc ss (nI m) 4000 0 (nI 0) t n vf os on ct = some r ∧ L_X6_pass_21 (nI m) 4000 0 (nI 0) w wf hS hN = some p ∧ (r.1 = p.1 ∧ WFu (k, z, r.2.1, r.2.2.1, g, ks, kb, kw, kc, ss, hs, hn) ∧ RBu (k, z, r.2.1, r.2.2.1, g, ks, kb, kw, kc, ss, hs, hn) p.2.1 0 ∧ ∀ j, 180 ≤ j → p.2.1 j = w j) := by
    refine lock (fun f q (a : Int32 × (Nat → Int32) × (Nat → Int64) × (Nat → Int32) × (Nat → Int32) × (Nat → Int64) × Int32) => L_X5_pass_31 g ks kb kw kc ss (nI m) f a.1 (nI q) a.2.1 a.2.2.1 a.2.2.2.1 a.2.2.2.2.1 a.2.2.2.2.2.1 a.2.2.2.2.2.2) (fun f q (a : Int32 × (Nat → Int64) × (Nat → Int32) × (Nat → Int64) × (Nat → Int64)) => L_X6_pass_21 (nI m) f a.1 (nI q) a.2.1 a.2.2.1 a.2.2.2.1 a.2.2.2.2) (fun q r p => r.1 = p.1 ∧ WFu (k, z, r.2.1, r.2.2.1, g, ks, kb, kw, kc, ss, hs, hn) ∧ RBu (k, z, r.2.1, r.2.2.1, g, ks, kb, kw, kc, ss, hs, hn) p.2.1 0 ∧ ∀ j, 180 ≤ j → p.2.1 j = w j) _ m ?_ ?_ m 0 4000 4000 (0, t, n, vf, os, on, ct) (0, w, wf, hS, hN) (by omega) (by omega) (by omega) ⟨rfl, hW, hB, fun _ _ => rfl⟩
    · rintro f f' ⟨c, t1, n1', v, o1, o2, c1⟩ ⟨c2, w1, u, s1, s2⟩ hI
      refine ⟨(c, t1, n1', v, o1, o2, c1), (c2, w1, u, s1, s2), ?_, ?_, hI⟩
      · show L_X5_pass_31 g ks kb kw kc ss (nI m) (f + 1) c (nI m) t1 n1' v o1 o2 c1 = _
        rw [L_X5_pass_31, if_pos ((m1le hm hm).mpr (by omega))]
      · show L_X6_pass_21 (nI m) (f' + 1) c2 (nI m) w1 u s1 s2 = _
        rw [L_X6_pass_21, nI_1, if_pos (nI_le (by omega) (by omega))]
    · rintro f f' q ⟨c, t1, n1', v, o1, o2, c1⟩ ⟨c2, w1, u, s1, s2⟩ hq ⟨q1, q2, q3, q4⟩
      have q1' : c = c2 := q1
      subst q1'
      have q2 : WFu (k, z, t1, n1', g, ks, kb, kw, kc, ss, hs, hn) := q2
      have q3 : RBu (k, z, t1, n1', g, ks, kb, kw, kc, ss, hs, hn) w1 0 := q3
      have q4 : ∀ j, 180 ≤ j → w1 j = w j := q4
      by_cases hl : m ≤ q + 1
      · refine Or.inr ⟨(c, t1, n1', v, o1, o2, c1), (c, w1, u, s1, s2), ?_, ?_, rfl, q2, q3, q4⟩
        · show L_X5_pass_31 g ks kb kw kc ss (nI m) (f + 1) c (nI q) t1 n1' v o1 o2 c1 = _
          rw [L_X5_pass_31, if_pos ((m1le hm (by omega)).mpr hl)]
        · show L_X6_pass_21 (nI m) (f' + 1) c (nI q) w1 u s1 s2 = _
          rw [L_X6_pass_21, nI_1, if_pos (nI_le (by omega) (by omega))]
      · refine Or.inl ?_
        show ∃ (s' : Int32 × (Nat → Int32) × (Nat → Int64) × (Nat → Int32) × (Nat → Int32) × (Nat → Int64) × Int32) (t' : Int32 × (Nat → Int64) × (Nat → Int32) × (Nat → Int64) × (Nat → Int64)), _ ∧ L_X5_pass_31 g ks kb kw kc ss (nI m) (f + 1) c (nI q) t1 n1' v o1 o2 c1 = L_X5_pass_31 g ks kb kw kc ss (nI m) f s'.1 (nI (q + 1)) s'.2.1 s'.2.2.1 s'.2.2.2.1 s'.2.2.2.2.1 s'.2.2.2.2.2.1 s'.2.2.2.2.2.2 ∧ L_X6_pass_21 (nI m) (f' + 1) c (nI q) w1 u s1 s2 = L_X6_pass_21 (nI m) f' t'.1 (nI (q + 1)) t'.2.1 t'.2.2.1 t'.2.2.2.1 t'.2.2.2.2
        have hcp := comp_s q2 q3 hF 15 (show q + 1 < m by omega) (show q < m by omega)
        have hy : BY w1 15 (vP g t1 n1' ks kb kw kc 15) m := fun x y hx hy => (comp_s q2 q3 hF 15 hx hy).2
        have hls := isLess_s hy (show q + 1 < m by omega) (show q < m by omega)
        have h1 : ¬ nI m - (1 : Int32) ≤ nI q := fun e => hl ((m1le hm (by omega)).mp e)
        have h2 : ¬ nI m ≤ nI (q + 1) := nI_ge (by omega) (by omega)
        rw [L_X5_pass_31, L_X6_pass_21]
        simp only [nI_1, if_neg h1, if_neg h2, hcp.1, hls, Option.bind_some]
        by_cases hd : vP g t1 n1' ks kb kw kc 15 (q + 1) < vP g t1 n1' ks kb kw kc 15 q
        · have hbt : ¬ bI true = 0 := by decide
          have hng : ¬ 0 ≤ sg (vP g t1 n1' ks kb kw kc 15 (q + 1)) (vP g t1 n1' ks kb kw kc 15 q) := fun e => by have := sg_ge.mp e; omega
          obtain ⟨vf', g1, g2⟩ := plan_s (how := 0) hm (by omega) (show q < m by omega) (show q + 1 < m by omega) v c1
          obtain ⟨wf0, g3, g4⟩ := stays_s hm u
          have hP : PLN m (srcN 0 q (q + 1)) vf' (upd (upd wf0 q (nI (q + 1))) (q + 1) (nI q)) := by
            intro p hp
            refine ⟨srcN_lt (by omega) (by omega) hp, g2 p hp, ?_⟩
            by_cases e1 : p = q + 1
            · subst e1
              rw [pk_us]
              unfold srcN
              rw [if_neg (by omega), if_neg (by omega), if_pos rfl]
            · rw [pk_un e1]
              by_cases e2 : p = q
              · subst e2
                rw [pk_us]
                unfold srcN
                rw [if_neg (by omega), if_neg (by omega), if_neg (by omega), if_pos rfl, if_pos rfl]
              · rw [pk_un e2, g4 p hp]
                unfold srcN
                rw [if_pos (by omega)]
          obtain ⟨t', n', w', os', on', hS', hN', cnt, f1, f2, f3, f4, f5, f6⟩ := moves_s q2 q3 hm hP o1 o2 s1 s2
          have hex : f_X5_exchangeNow t1 n1' ss v o1 o2 c1 (nI q) (nI (q + 1)) (nI m) = some (t', n', vf', os', on', nI m) := by
            unfold f_X5_exchangeNow
            rw [show (0 : Int32) = nI 0 from rfl, g1, Option.bind_some, f1]
            rfl
          rw [decide_eq_true hd]
          simp only [if_neg hbt, if_neg hng, hex, g3, Option.bind_some, ib_n (show q < 12 by omega) (show 12 < 2 ^ 31 by omega), ib_n (show q + 1 < 12 by omega) (show 12 < 2 ^ 31 by omega), if_true, nI_clamp (show q < 2 ^ 31 by omega), nI_clamp (show q + 1 < 2 ^ 31 by omega), f3]
          exact ⟨(_, _, _, _, _, _, _), (_, _, _, _, _), ⟨rfl, f4, f5, fun j hj => (f6 j hj).trans (q4 j hj)⟩, rfl, rfl⟩
        · have hge : 0 ≤ sg (vP g t1 n1' ks kb kw kc 15 (q + 1)) (vP g t1 n1' ks kb kw kc 15 q) := sg_ge.mpr (by omega)
          rw [decide_eq_false hd]
          simp only [if_pos bI_f, if_pos hge]
          exact ⟨(_, _, _, _, _, _, _), (_, _, _, _, _), ⟨rfl, q2, q3, q4⟩, rfl, rfl⟩
  obtain ⟨r, p, e1, e2, h1, h2, h3, h4⟩ := key
  exact ⟨r, p, e1, e2, h1, h2, h3, h4⟩
end PS1
theorem sim_pass {b_kinds : Nat → Int32} {b_sizes : Nat → Int32} {b_sorts : Nat → Int32} {b_numbers : Nat → Int64} {b_weights : Nat → Int32} {b_keySlots : Nat → Int32} {b_keyBys : Nat → Int32} {b_keyWays : Nat → Int32} {b_keyCount : Int32} {b_sheetSet : Int32} {b_handSort : Int32} {b_handNumber : Int64} {x_imageRandoms : Nat → Int32} {x_random : Int32} {h_next : Int32} {h_count : Int32} {k_places : Nat → Int32} {k_positions : Nat → Int32} {k_count : Int32} {w_w : Nat → Int64} {w_imageSeed : Nat → Int32} {w_isKept : Nat → Int32} {w_undos : Int32} {w_seed : Int32} {w_entries : Int32} {w_bookPlace : Nat → Int32} {w_bookPosition : Nat → Int32} {P_hs : HT} (hR : Rel (b_kinds, b_sizes, b_sorts, b_numbers, b_weights, b_keySlots, b_keyBys, b_keyWays, b_keyCount, b_sheetSet, b_handSort, b_handNumber) x_imageRandoms x_random h_next h_count P_hs k_places k_positions k_count w_w w_imageSeed w_isKept w_undos w_seed w_entries w_bookPlace w_bookPosition) (v_from : Nat → Int32) (v_oldSorts : Nat → Int32) (v_oldNumbers : Nat → Int64) (v_count : Int32) (w_from : Nat → Int32) (w_heldSort : Nat → Int64) (w_heldNumber : Nat → Int64) : ∃ (zc : Int32 × (Nat → Int32) × (Nat → Int64) × Int32 × Int32 × (Nat → Int32) × (Nat → Int32) × (Nat → Int64) × Int32 × HT) (zm : Int32 × (Nat → Int64) × Int32 × (Nat → Int32) × (Nat → Int64) × (Nat → Int64)), f_X5_pass b_kinds b_sizes b_sorts b_numbers b_weights b_keySlots b_keyBys b_keyWays b_keyCount b_sheetSet b_handSort b_handNumber h_next h_count v_from v_oldSorts v_oldNumbers v_count P_hs = some zc ∧ f_X6_pass w_w w_undos w_from w_heldSort w_heldNumber = some zm ∧ zc.1 = zm.1 ∧ Rel (b_kinds, b_sizes, zc.2.1, zc.2.2.1, b_weights, b_keySlots, b_keyBys, b_keyWays, b_keyCount, b_sheetSet, b_handSort, b_handNumber) x_imageRandoms x_random zc.2.2.2.1 zc.2.2.2.2.1 zc.2.2.2.2.2.2.2.2.2 k_places k_positions k_count zm.2.1 w_imageSeed w_isKept zm.2.2.1 w_seed w_entries w_bookPlace w_bookPosition := by
  have hR0 := hR
  obtain ⟨hW, hB, hH, hI, hS, hK⟩ := hR
  unfold f_X5_pass f_X6_pass
  rcases ord_s hW hB with ⟨e1, e2⟩ | ⟨m, hm, hF, e1, e2, hC, hY⟩
  · rw [e1, e2]
    exact ⟨_, _, rfl, rfl, rfl, hR0⟩
  rw [e1, e2]
  obtain ⟨nx', ct', hs', w', un', d1, d2, hB', hH', hI'⟩ := remember_s hW hB hH hI
  obtain ⟨r, p, g1, g2, g3, g4, g5, g6⟩ := pass_s hW hB' hF hm v_from v_oldSorts v_oldNumbers v_count w_from w_heldSort w_heldNumber
  simp only [Option.bind_some, if_neg (m1n hm), d1, d2, g1, g2]
  exact ⟨_, _, rfl, rfl, g3, relD g4 g5 g6 hH' hI' hS hK⟩
/-! drift -/
theorem mask_L {u : Nat} (hu : u < 2 ^ 63) : lN u &&& (2147483647 : Int64) = lN (u % 2147483648) := by
  refine Int64.toBitVec_inj.mp (BitVec.eq_of_toNat_eq ?_)
  rw [Int64.toBitVec_and, BitVec.toNat_and]
  show (BitVec.ofNat 64 u).toNat &&& (2147483647#64).toNat = (BitVec.ofNat 64 (u % 2147483648)).toNat
  have e1 : (BitVec.ofNat 64 u).toNat = u := by rw [BitVec.toNat_ofNat, Nat.mod_eq_of_lt (by omega)]
  have e2 : (BitVec.ofNat 64 (u % 2147483648)).toNat = u % 2147483648 := by rw [BitVec.toNat_ofNat, Nat.mod_eq_of_lt (by omega)]
  have e3 : (2147483647#64).toNat = 2 ^ 31 - 1 := by decide
  rw [e1, e2, e3, Nat.and_two_pow_sub_one_eq_mod]
theorem nx_s {ρ : Nat} (h : ρ < 2 ^ 31) : Int64.toInt32 ((((Int32.toInt64 (nI ρ)) * (1103515245 : Int64)) + (12345 : Int64)) &&& (2147483647 : Int64)) = nI ((ρ * 1103515245 + 12345) % 2147483648) ∧ Int64.toInt32 ((((Int32.toInt64 (nI ρ)) * (1103515245 : Int64)) + (12345 : Int64)) - (((Int32.toInt64 (nI ρ)) * (1103515245 : Int64)) + (12345 : Int64)) / (2147483648 : Int64) * (2147483648 : Int64)) = nI ((ρ * 1103515245 + 12345) % 2147483648) := by
  have hb : ρ * 1103515245 + 12345 < 2 ^ 63 := by omega
  rw [nI_l h, show (1103515245 : Int64) = lN 1103515245 from rfl, show (12345 : Int64) = lN 12345 from rfl, show (2147483648 : Int64) = lN 2147483648 from rfl, lN_mul, lN_add, mask_L hb, pk_lRem hb (by omega) (by omega), lN_i]
  exact ⟨rfl, rfl⟩
theorem draw_s {r : Int32} (h0 : 0 ≤ r.toInt) {M : Nat} (hM : 0 < M) (hM2 : M < 2 ^ 31) : ∃ (d : Nat) (y : Int32), d < M ∧ 0 ≤ y.toInt ∧ f_X5_draw r (nI M) = some (nI d, y) ∧ f_X6_draw r (nI M) = some (nI d, y) := by
  have hb := Int32.toInt_lt r
  obtain ⟨ρ, hρ, rfl⟩ := inN (N := 2 ^ 31) h0 (by omega)
  obtain ⟨h2, h3⟩ := nx_s hρ
  have hu : (ρ * 1103515245 + 12345) % 2147483648 < 2 ^ 31 := by omega
  generalize (ρ * 1103515245 + 12345) % 2147483648 = u at h2 h3 hu
  have e1 : nI u / (65536 : Int32) = nI (u / 65536) := by rw [show (65536 : Int32) = nI 65536 from rfl, pk_div hu (by omega) (by omega)]
  have e2 : nI (u / 65536) - nI (u / 65536) / nI M * nI M = nI (u / 65536 % M) := pk_rem (by omega) hM hM2
  have n1 : ¬ nI M ≤ 0 := nI_nle hM hM2
  have n2 : ¬ nI M = 0 := nI_ne0 hM hM2
  refine ⟨u / 65536 % M, nI u, Nat.mod_lt _ hM, by rw [nI_toInt hu]; omega, ?_, ?_⟩
  · unfold f_X5_draw
    rw [h2, Option.bind_some, if_neg n1, if_pos n2, e1, e2]
  · unfold f_X6_draw
    rw [h3, Option.bind_some, if_pos n2, e1, e2]
theorem sub_d : ∀ u, u < 256 → (Int32.toInt64 (nI u)) - (128 : Int64) = Int32.toInt64 (nI u - (128 : Int32)) := by decide +kernel
theorem rem_d : ∀ u, u < 256 → nI u - nI u / (8 : Int32) * (8 : Int32) = nI (u % 8) := fun u hu => by
  rw [show (8 : Int32) = nI 8 from rfl]
  exact pk_rem (by omega) (by omega) (by omega)
/-- what stands behind the draws -/
noncomputable def cT (k z t : Nat → Int32) (n : Nat → Int64) (r s i a : Int32) (v : Int64) : Option (Int32 × Int32 × (Nat → Int32) × (Nat → Int64)) := (f_X0_whyNotPut k z s i a v 0).bind (fun z7 => if z7 = 0 then ((f_X0_store k t n s i a v).bind (fun z9 => some ((1, r, z9.1, z9.2)))) else (some ((0, r, t, n))))
noncomputable def dT (v1 v2 v3 : Int32) (f : Nat) (w : Nat → Int64) (un r s i a : Int32) (v : Int64) : Option (Int32 × (Nat → Int64) × Int32 × Int32) := (f_X6_lacks w s (Int32.toInt64 i)).bind (fun z32 => if z32 = 0 then ((f_X6_takes w s a v).bind (fun z35 => if z35 = 0 then (L_X6_drift_19 v1 f v2 (v3 + 1) w un r) else ((f_X6_sets w s i a v).bind (fun z38 => L_X6_drift_19 v1 f (v2 + 1) (v3 + 1) z38 un r)))) else (L_X6_drift_19 v1 f v2 (v3 + 1) w un r))
theorem chance_eq (r : Int32) (k z t : Nat → Int32) (n : Nat → Int64) : f_X5_putByChance r k z t n = (f_X5_draw r 6).bind (fun z1 => (f_X5_draw z1.2 12).bind (fun z2 => (f_X5_draw z2.2 10).bind (fun z3 => (f_X5_draw z3.2 256).bind (fun z4 => if z3.1 = 8 then cT k z t n z4.2 z1.1 z2.1 z3.1 (Int32.toInt64 (z4.1 - z4.1 / (8 : Int32) * (8 : Int32))) else ((f_X5_made z3.1 (Int32.toInt64 (z4.1 - (128 : Int32)))).bind (fun z6 => cT k z t n z4.2 z1.1 z2.1 z3.1 z6)))))) := rfl
theorem drift_eq (v1 v2 v3 : Int32) (f : Nat) (w : Nat → Int64) (un r : Int32) : L_X6_drift_19 v1 (f + 1) v2 v3 w un r = if v1 ≤ v3 then (some ((v2, w, un, r))) else ((f_X6_minds w un).bind (fun z4 => (f_X6_draw r 6).bind (fun z5 => (f_X6_draw z5.2 12).bind (fun z6 => (f_X6_draw z6.2 10).bind (fun z7 => (f_X6_draw z7.2 256).bind (fun z8 => if z7.1 = 8 then dT v1 v2 v3 f z4.1 z4.2 z8.2 z5.1 z6.1 z7.1 (Int32.toInt64 (z8.1 - z8.1 / (8 : Int32) * (8 : Int32))) else (if z7.1 = 9 then dT v1 v2 v3 f z4.1 z4.2 z8.2 z5.1 z6.1 z7.1 0 else ((f_X6_madeOf z7.1 ((Int32.toInt64 z8.1) - (128 : Int64))).bind (fun z11 => dT v1 v2 v3 f z4.1 z4.2 z8.2 z5.1 z6.1 z7.1 z11))))))))) := rfl
section DR1
variable {k z t g ks kb kw : Nat → Int32} {n : Nat → Int64} {kc ss hs : Int32} {hn : Int64} {w : Nat → Int64}
/-- a cell put or not: both -/
theorem chance_s (hW : WFu (k, z, t, n, g, ks, kb, kw, kc, ss, hs, hn)) (hB : RBu (k, z, t, n, g, ks, kb, kw, kc, ss, hs, hn) w 0) {s i a : Nat} (hs' : s < 6) (hi : i < 12) (ha : a < 10) {v : Int64} (ho : okV (nI a) v) : ∃ (ok : Bool) (t' : Nat → Int32) (n' w' : Nat → Int64), (∀ r, cT k z t n r (nI s) (nI i) (nI a) v = some (bI ok, r, t', n')) ∧ (∀ v1 v2 v3 f un r, dT v1 v2 v3 f w un r (nI s) (nI i) (nI a) v = L_X6_drift_19 v1 f (if ok = true then v2 + 1 else v2) (v3 + 1) w' un r) ∧ WFu (k, z, t', n', g, ks, kb, kw, kc, ss, hs, hn) ∧ RBu (k, z, t', n', g, ks, kb, kw, kc, ss, hs, hn) w' 0 ∧ ∀ j, 180 ≤ j → w' j = w j := by
  obtain ⟨κ, hκ, ek⟩ := kin hW hs'
  have hlk := lacksM_n hW hB hs' (x := nI i) (y := Int32.toInt64 (nI i)) (t64 (nI i))
  have hwp := whyPut_n hW hs' hκ ek ha (nI i) v 0
  have hf : (if (false : Bool) = true then (1 : Nat) else 0) = 0 := rfl
  by_cases h0 : rea k z s (nI i) = 0
  · obtain ⟨h11, i', hi', _, ei⟩ := rea_0 hW hs' h0
    rw [ek, nI_toInt (by omega)] at h11
    have htk := takes_n hB hs' (by omega) ek ha v
    rw [if_pos h0] at hwp
    rw [h0] at hlk
    cases ht : tk κ a (decide (4 ≤ v.toInt))
    · rw [ht] at htk
      have hw4 : whyP κ a v 0 = 4 := by
        unfold whyP
        rw [if_neg (fun q => by rw [ht] at q; exact Bool.noConfusion q.1)]
      rw [hw4] at hwp
      refine ⟨false, t, n, w, fun r => ?_, fun v1 v2 v3 f un r => ?_, hW, hB, fun _ _ => rfl⟩
      · unfold cT
        rw [hwp, Option.bind_some, if_neg (show ¬ (4 : Int32) = 0 by decide), bI_f]
      · unfold dT
        rw [hlk, Option.bind_some, if_pos rfl, htk, Option.bind_some, if_pos bI_f, if_neg (show ¬ false = true by decide)]
    · rw [ht] at htk
      obtain ⟨a', v', g1, g2, g3, g4⟩ := store_s hW hB hs' hi (by omega) ek ha ho ht
      have hw0 : whyP κ a v 0 = 0 := by
        unfold whyP
        rw [if_pos ⟨ht, Or.inr rfl⟩]
      rw [hw0] at hwp
      refine ⟨true, _, _, _, fun r => ?_, fun v1 v2 v3 f un r => ?_, setCW hW hs' hi g3 g4, setCB hB (by omega) a' v', fun j hj => ?_⟩
      · unfold cT
        rw [hwp, Option.bind_some, if_pos rfl, g1, Option.bind_some, bI_t]
      · unfold dT
        rw [hlk, Option.bind_some, if_pos rfl, htk, Option.bind_some, if_neg (show ¬ bI true = 0 by decide), g2, Option.bind_some, if_pos rfl]
      · rw [pk_uLn (by omega), pk_uLn (by omega)]
  · rw [if_neg h0] at hwp
    refine ⟨false, t, n, w, fun r => ?_, fun v1 v2 v3 f un r => ?_, hW, hB, fun _ _ => rfl⟩
    · unfold cT
      rw [hwp, Option.bind_some, if_neg h0, bI_f]
    · unfold dT
      rw [hlk, Option.bind_some, if_neg h0, if_neg (show ¬ false = true by decide)]
/-- one time: both -/
theorem drift1 (hW : WFu (k, z, t, n, g, ks, kb, kw, kc, ss, hs, hn)) (hB : RBu (k, z, t, n, g, ks, kb, kw, kc, ss, hs, hn) w 0) {r : Int32} (h0 : 0 ≤ r.toInt) : ∃ (ok : Bool) (r' : Int32) (t' : Nat → Int32) (n' w' : Nat → Int64), f_X5_putByChance r k z t n = some (bI ok, r', t', n') ∧ 0 ≤ r'.toInt ∧ WFu (k, z, t', n', g, ks, kb, kw, kc, ss, hs, hn) ∧ RBu (k, z, t', n', g, ks, kb, kw, kc, ss, hs, hn) w' 0 ∧ (∀ j, 180 ≤ j → w' j = w j) ∧ ∀ (w0 : Nat → Int64) (un0 un : Int32) (v1 v2 v3 : Int32) (f : Nat), ¬ v1 ≤ v3 → f_X6_minds w0 un0 = some (w, un) → L_X6_drift_19 v1 (f + 1) v2 v3 w0 un0 r = L_X6_drift_19 v1 f (if ok = true then v2 + 1 else v2) (v3 + 1) w' un r' := by
  obtain ⟨s, r1, hs1, hr1, c1, m1⟩ := draw_s h0 (show 0 < 6 by omega) (by omega)
  obtain ⟨i, r2, hi1, hr2, c2, m2⟩ := draw_s hr1 (show 0 < 12 by omega) (by omega)
  obtain ⟨a, r3, ha1, hr3, c3, m3⟩ := draw_s hr2 (show 0 < 10 by omega) (by omega)
  obtain ⟨u, r4, hu1, hr4, c4, m4⟩ := draw_s hr3 (show 0 < 256 by omega) (by omega)
  rw [show nI 6 = (6 : Int32) from rfl] at c1 m1
  rw [show nI 12 = (12 : Int32) from rfl] at c2 m2
  rw [show nI 10 = (10 : Int32) from rfl] at c3 m3
  rw [show nI 256 = (256 : Int32) from rfl] at c4 m4
  have a8 : (nI a = (8 : Int32)) ↔ a = 8 := by rw [show (8 : Int32) = nI 8 from rfl]; exact nI_eq (by omega) (by omega)
  have a9 : (nI a = (9 : Int32)) ↔ a = 9 := by rw [show (9 : Int32) = nI 9 from rfl]; exact nI_eq (by omega) (by omega)
  by_cases e8 : a = 8
  · have ho : okV (nI a) (Int32.toInt64 (nI (u % 8))) := by
      subst e8
      have := ok_mk (a := 8) (Int32.toInt64 (nI (u % 8))) (by omega) (fun _ => by rw [nJ64 (by omega)]; omega)
      rw [mk8] at this
      exact this
    obtain ⟨ok, t', n', w', f1, f2, f6, f7, f8⟩ := chance_s hW hB hs1 hi1 ha1 ho
    refine ⟨ok, r4, t', n', w', ?_, hr4, f6, f7, f8, fun w0 un0 un v1 v2 v3 f hv hmd => ?_⟩
    · rw [chance_eq, c1, Option.bind_some, c2, Option.bind_some, c3, Option.bind_some, c4, Option.bind_some, if_pos (a8.mpr e8), rem_d u hu1, f1]
    · rw [drift_eq, if_neg hv, hmd, Option.bind_some, m1, Option.bind_some, m2, Option.bind_some, m3, Option.bind_some, m4, Option.bind_some, if_pos (a8.mpr e8), rem_d u hu1, f2]
  · have n8 : ¬ nI a = (8 : Int32) := fun e => e8 (a8.mp e)
    have ho : okV (nI a) (mk a (Int32.toInt64 (nI u - (128 : Int32)))) := ok_mk _ ha1 (fun e => absurd e e8)
    obtain ⟨ok, t', n', w', f1, f2, f6, f7, f8⟩ := chance_s hW hB hs1 hi1 ha1 ho
    refine ⟨ok, r4, t', n', w', ?_, hr4, f6, f7, f8, fun w0 un0 un v1 v2 v3 f hv hmd => ?_⟩
    · rw [chance_eq, c1, Option.bind_some, c2, Option.bind_some, c3, Option.bind_some, c4, Option.bind_some, if_neg n8, made_s, Option.bind_some, f1]
    · rw [drift_eq, if_neg hv, hmd, Option.bind_some, m1, Option.bind_some, m2, Option.bind_some, m3, Option.bind_some, m4, Option.bind_some, if_neg n8]
      by_cases e9 : a = 9
      · have hz : mk a (Int32.toInt64 (nI u - (128 : Int32))) = 0 := by subst e9; exact mk9 _
        rw [hz] at f2
        rw [if_pos (a9.mpr e9), f2]
      · rw [if_neg (fun e => e9 (a9.mp e)), sub_d u hu1, madeOf_s (a := a) (by omega), Option.bind_some, f2]
end DR1
theorem sim_drift {b_kinds : Nat → Int32} {b_sizes : Nat → Int32} {b_sorts : Nat → Int32} {b_numbers : Nat → Int64} {b_weights : Nat → Int32} {b_keySlots : Nat → Int32} {b_keyBys : Nat → Int32} {b_keyWays : Nat → Int32} {b_keyCount : Int32} {b_sheetSet : Int32} {b_handSort : Int32} {b_handNumber : Int64} {x_imageRandoms : Nat → Int32} {x_random : Int32} {h_next : Int32} {h_count : Int32} {k_places : Nat → Int32} {k_positions : Nat → Int32} {k_count : Int32} {w_w : Nat → Int64} {w_imageSeed : Nat → Int32} {w_isKept : Nat → Int32} {w_undos : Int32} {w_seed : Int32} {w_entries : Int32} {w_bookPlace : Nat → Int32} {w_bookPosition : Nat → Int32} {P_hs : HT} (hR : Rel (b_kinds, b_sizes, b_sorts, b_numbers, b_weights, b_keySlots, b_keyBys, b_keyWays, b_keyCount, b_sheetSet, b_handSort, b_handNumber) x_imageRandoms x_random h_next h_count P_hs k_places k_positions k_count w_w w_imageSeed w_isKept w_undos w_seed w_entries w_bookPlace w_bookPosition) (x1 : Int32) : ∃ (zc : Int32 × Int32 × (Nat → Int32) × (Nat → Int64) × Int32 × Int32 × HT) (zm : Int32 × (Nat → Int64) × Int32 × Int32), f_X5_drift x_random b_kinds b_sizes b_sorts b_numbers b_weights b_keySlots b_keyBys b_keyWays b_keyCount b_sheetSet b_handSort b_handNumber h_next h_count P_hs x1 = some zc ∧ f_X6_drift w_w w_undos w_seed x1 = some zm ∧ zc.1 = zm.1 ∧ Rel (b_kinds, b_sizes, zc.2.2.1, zc.2.2.2.1, b_weights, b_keySlots, b_keyBys, b_keyWays, b_keyCount, b_sheetSet, b_handSort, b_handNumber) x_imageRandoms zc.2.1 zc.2.2.2.2.1 zc.2.2.2.2.2.1 zc.2.2.2.2.2.2 k_places k_positions k_count zm.2.1 w_imageSeed w_isKept zm.2.2.1 zm.2.2.2 w_entries w_bookPlace w_bookPosition := by
  have hR0 := hR
  unfold f_X5_drift f_X6_drift
  have e9 : (1 : Int32).toInt = 1 := rfl
  have e12 : (12 : Int32).toInt = 12 := rfl
  rcases inC x1 1 12 1 12 rfl rfl with ⟨h3, h4, _⟩ | ⟨h3, h4, h5⟩
  · rw [h3, h4]; exact ⟨_, _, rfl, rfl, rfl, hR0⟩
  rw [e9, e12] at h5
  obtain ⟨N, hN, rfl⟩ := inN (N := 13) (by omega : 0 ≤ x1.toInt) (by omega)
  rw [h3, h4]
  simp only [Option.bind_some, if_neg z10]
  have key : ∃ r p, L_X5_drift_17 b_kinds b_sizes b_weights b_keySlots b_keyBys b_keyWays b_keyCount b_sheetSet b_handSort b_handNumber (nI N) 13 0 (nI 0) x_random b_sorts b_numbers h_next h_count P_hs = some r ∧ L_X6_drift_19 (nI N) 4000 0 (nI 0) w_w w_undos w_seed = some p ∧ (r.1 = p.1 ∧ Rel (b_kinds, b_sizes, r.2.2.1, r.2.2.2.1, b_weights, b_keySlots, b_keyBys, b_keyWays, b_keyCount, b_sheetSet, b_handSort, b_handNumber) x_imageRandoms r.2.1 r.2.2.2.2.1 r.2.2.2.2.2.1 r.2.2.2.2.2.2 k_places k_positions k_count p.2.1 w_imageSeed w_isKept p.2.2.1 p.2.2.2 w_entries w_bookPlace w_bookPosition) := by
    refine lock (fun f q (a : Int32 × Int32 × (Nat → Int32) × (Nat → Int64) × Int32 × Int32 × HT) => L_X5_drift_17 b_kinds b_sizes b_weights b_keySlots b_keyBys b_keyWays b_keyCount b_sheetSet b_handSort b_handNumber (nI N) f a.1 (nI q) a.2.1 a.2.2.1 a.2.2.2.1 a.2.2.2.2.1 a.2.2.2.2.2.1 a.2.2.2.2.2.2) (fun f q (a : Int32 × (Nat → Int64) × Int32 × Int32) => L_X6_drift_19 (nI N) f a.1 (nI q) a.2.1 a.2.2.1 a.2.2.2) (fun q r p => r.1 = p.1 ∧ Rel (b_kinds, b_sizes, r.2.2.1, r.2.2.2.1, b_weights, b_keySlots, b_keyBys, b_keyWays, b_keyCount, b_sheetSet, b_handSort, b_handNumber) x_imageRandoms r.2.1 r.2.2.2.2.1 r.2.2.2.2.2.1 r.2.2.2.2.2.2 k_places k_positions k_count p.2.1 w_imageSeed w_isKept p.2.2.1 p.2.2.2 w_entries w_bookPlace w_bookPosition) _ N ?_ ?_ N 0 13 4000 (0, x_random, b_sorts, b_numbers, h_next, h_count, P_hs) (0, w_w, w_undos, w_seed) (by omega) (by omega) (by omega) ⟨rfl, hR0⟩
    · rintro f f' ⟨c, r, t1, n1', nx, ct, hst⟩ ⟨c2, w1, un, sd⟩ hI
      refine ⟨(c, r, t1, n1', nx, ct, hst), (c2, w1, un, sd), ?_, ?_, hI⟩
      · show L_X5_drift_17 b_kinds b_sizes b_weights b_keySlots b_keyBys b_keyWays b_keyCount b_sheetSet b_handSort b_handNumber (nI N) (f + 1) c (nI N) r t1 n1' nx ct hst = _
        rw [L_X5_drift_17, if_pos (nI_le (by omega) (by omega))]
      · show L_X6_drift_19 (nI N) (f' + 1) c2 (nI N) w1 un sd = _
        rw [L_X6_drift_19, if_pos (nI_le (by omega) (by omega))]
    · rintro f f' q ⟨c, r, t1, n1', nx, ct, hst⟩ ⟨c2, w1, un, sd⟩ hq ⟨q1, q2⟩
      have q1' : c = c2 := q1
      subst q1'
      refine Or.inl ?_
      show ∃ (s' : Int32 × Int32 × (Nat → Int32) × (Nat → Int64) × Int32 × Int32 × HT) (t' : Int32 × (Nat → Int64) × Int32 × Int32), _ ∧ L_X5_drift_17 b_kinds b_sizes b_weights b_keySlots b_keyBys b_keyWays b_keyCount b_sheetSet b_handSort b_handNumber (nI N) (f + 1) c (nI q) r t1 n1' nx ct hst = L_X5_drift_17 b_kinds b_sizes b_weights b_keySlots b_keyBys b_keyWays b_keyCount b_sheetSet b_handSort b_handNumber (nI N) f s'.1 (nI (q + 1)) s'.2.1 s'.2.2.1 s'.2.2.2.1 s'.2.2.2.2.1 s'.2.2.2.2.2.1 s'.2.2.2.2.2.2 ∧ L_X6_drift_19 (nI N) (f' + 1) c (nI q) w1 un sd = L_X6_drift_19 (nI N) f' t'.1 (nI (q + 1)) t'.2.1 t'.2.2.1 t'.2.2.2
      obtain ⟨hW, hB, hH, hI, hS, hK⟩ := q2
      have hW : WFu (b_kinds, b_sizes, t1, n1', b_weights, b_keySlots, b_keyBys, b_keyWays, b_keyCount, b_sheetSet, b_handSort, b_handNumber) := hW
      have hB : RBu (b_kinds, b_sizes, t1, n1', b_weights, b_keySlots, b_keyBys, b_keyWays, b_keyCount, b_sheetSet, b_handSort, b_handNumber) w1 0 := hB
      have hS : sd = r ∧ 0 ≤ r.toInt := hS
      obtain ⟨rfl, hr0⟩ := hS
      obtain ⟨nx', ct', hs', w', un', d1, d2, hB', hH', hI'⟩ := remember_s hW hB hH hI
      obtain ⟨ok, r', t', n', w'', f1, f2, f3, f4, f5, f6⟩ := drift1 hW hB' hr0
      have hge : ¬ nI N ≤ nI q := nI_ge hq (by omega)
      rw [f6 w1 un un' (nI N) c (nI q) f' hge d2, L_X5_drift_17, if_neg hge, d1]
      simp only [Option.bind_some, f1, nI_1]
      have hbt : ¬ bI true = 0 := by decide
      cases ok
      · simp only [if_pos bI_f]
        exact ⟨(_, _, _, _, _, _, _), (_, _, _, _), ⟨rfl, relD f3 f4 f5 hH' hI' ⟨rfl, f2⟩ hK⟩, rfl, rfl⟩
      · simp only [if_neg hbt]
        exact ⟨(_, _, _, _, _, _, _), (_, _, _, _), ⟨rfl, relD f3 f4 f5 hH' hI' ⟨rfl, f2⟩ hK⟩, rfl, rfl⟩
  obtain ⟨r, p, g1, g2, g3, g4⟩ := key
  rw [show L_X5_drift_17 b_kinds b_sizes b_weights b_keySlots b_keyBys b_keyWays b_keyCount b_sheetSet b_handSort b_handNumber (nI N) 13 0 0 x_random b_sorts b_numbers h_next h_count P_hs = _ from g1, show L_X6_drift_19 (nI N) 4000 0 0 w_w w_undos w_seed = _ from g2]
  exact ⟨_, _, rfl, rfl, g3, g4⟩
