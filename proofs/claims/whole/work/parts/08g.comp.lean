/-! two places by the keys of a set -/
noncomputable def pv (g t : Nat → Int32) (n : Nat → Int64) (ks kb kw : Nat → Int32) (S : Int32) : Nat → Nat → Int
  | 0, _ => 0
  | j + 1, p => if hb S j = true then pv g t n ks kb kw S j p * 4722366482869645213696 + (if kw j = 0 then rv g t n (ks j).toNatClampNeg (kb j).toNatClampNeg p else -(rv g t n (ks j).toNatClampNeg (kb j).toNatClampNeg p)) else pv g t n ks kb kw S j p
/-- a place's value by the keys of a set -/
noncomputable def vP (g t : Nat → Int32) (n : Nat → Int64) (ks kb kw : Nat → Int32) (kc S : Int32) (p : Nat) : Int := pv g t n ks kb kw S kc.toNatClampNeg p
section CP1
variable {k z t g ks kb kw : Nat → Int32} {n : Nat → Int64} {kc ss hs : Int32} {hn : Int64} {w : Nat → Int64}
theorem pv_t {S : Int32} {j p : Nat} (h : hb S j = true) : pv g t n ks kb kw S (j + 1) p = pv g t n ks kb kw S j p * 4722366482869645213696 + (if kw j = 0 then rv g t n (ks j).toNatClampNeg (kb j).toNatClampNeg p else -(rv g t n (ks j).toNatClampNeg (kb j).toNatClampNeg p)) := by
  rw [pv, if_pos h]
theorem pv_f {S : Int32} {j p : Nat} (h : hb S j = false) : pv g t n ks kb kw S (j + 1) p = pv g t n ks kb kw S j p := by
  rw [pv, if_neg (by rw [h]; decide)]
theorem krv_b (hW : WFu (k, z, t, n, g, ks, kb, kw, kc, ss, hs, hn)) {j p : Nat} (hj : j < 4) (hp : p < 12) : -1180591620717411303424 < rv g t n (ks j).toNatClampNeg (kb j).toNatClampNeg p ∧ rv g t n (ks j).toNatClampNeg (kb j).toNatClampNeg p < 1180591620717411303424 := by
  obtain ⟨s, b, hs, _, e1, _⟩ := keyin hW hj
  rw [e1, nI_clamp (by omega)]
  exact rv_b hW hs hp
theorem pv_up (hW : WFu (k, z, t, n, g, ks, kb, kw, kc, ss, hs, hn)) {S : Int32} {a b : Nat} (ha : a < 12) (hb' : b < 12) : ∀ d j, j + d ≤ 4 → pv g t n ks kb kw S j a < pv g t n ks kb kw S j b → pv g t n ks kb kw S (j + d) a < pv g t n ks kb kw S (j + d) b := by
  intro d
  induction d with
  | zero => exact fun j _ h => h
  | succ d ih =>
    intro j hj h
    have h1 := ih j (by omega) h
    rw [← Nat.add_assoc]
    cases hc : hb S (j + d)
    · rw [pv_f hc, pv_f hc]; exact h1
    · rw [pv_t hc, pv_t hc]
      have r1 := krv_b hW (show j + d < 4 by omega) ha
      have r2 := krv_b hW (show j + d < 4 by omega) hb'
      generalize rv g t n (ks (j + d)).toNatClampNeg (kb (j + d)).toNatClampNeg a = x at r1
      generalize rv g t n (ks (j + d)).toNatClampNeg (kb (j + d)).toNatClampNeg b = y at r2
      by_cases h0 : kw (j + d) = 0
      · rw [if_pos h0, if_pos h0]; omega
      · rw [if_neg h0, if_neg h0]; omega
theorem sg_up (hW : WFu (k, z, t, n, g, ks, kb, kw, kc, ss, hs, hn)) {S : Int32} {a b : Nat} (ha : a < 12) (hb' : b < 12) {j K : Nat} (hj : j ≤ K) (hK : K ≤ 4) (h : pv g t n ks kb kw S j a ≠ pv g t n ks kb kw S j b) : sg (pv g t n ks kb kw S K a) (pv g t n ks kb kw S K b) = sg (pv g t n ks kb kw S j a) (pv g t n ks kb kw S j b) := by
  obtain ⟨d, rfl⟩ : ∃ d, K = j + d := ⟨K - j, by omega⟩
  rcases Int.lt_trichotomy (pv g t n ks kb kw S j a) (pv g t n ks kb kw S j b) with h1 | h1 | h1
  · rw [sg_lt h1, sg_lt (pv_up hW ha hb' d j (by omega) h1)]
  · exact absurd h1 h
  · rw [sg_gt h1, sg_gt (pv_up hW hb' ha d j (by omega) h1)]
theorem compL_s (hW : WFu (k, z, t, n, g, ks, kb, kw, kc, ss, hs, hn)) (hB : RBu (k, z, t, n, g, ks, kb, kw, kc, ss, hs, hn) w 0) {K m : Nat} (hK : K < 5) (eK : kc = nI K) (hm : m ≤ 12) (hk : ∀ j, j < K → KeyA k z ks kb m j) (S : Int32) {a b : Nat} (ha : a < m) (hb' : b < m) : ∀ d j fuel, j + d = K → d < fuel → pv g t n ks kb kw S j a = pv g t n ks kb kw S j b → ∃ r : Unit ⊕ Int32, L_X0_comparePlaces_3 t n g ks kb kw kc (nI a) (nI b) S fuel (nI j) = some r ∧ L_X6_by_3 w S (nI a) (nI b) fuel (nI j) = some r ∧ ((r = .inl () ∧ pv g t n ks kb kw S K a = pv g t n ks kb kw S K b) ∨ r = .inr (sg (pv g t n ks kb kw S K a) (pv g t n ks kb kw S K b))) := by
  intro d
  induction d with
  | zero =>
    intro j fuel hj hf he
    obtain ⟨f, rfl⟩ : ∃ f, fuel = f + 1 := ⟨fuel - 1, by omega⟩
    have hjK : j = K := by omega
    rw [hjK] at he ⊢
    refine ⟨.inl (), ?_, ?_, Or.inl ⟨rfl, he⟩⟩
    · rw [L_X0_comparePlaces_3, eK, if_pos (nI_le (by omega) (by omega))]
    · rw [L_X6_by_3, keysM_s hB, Option.bind_some, eK, if_pos (nI_le (by omega) (by omega))]
  | succ d ih =>
    intro j fuel hj hf he
    obtain ⟨f, rfl⟩ : ∃ f, fuel = f + 1 := ⟨fuel - 1, by omega⟩
    obtain ⟨s, b0, κ, hs, hb0, hκ, e1, e2, ek, ez, hr⟩ := hk j (by omega)
    have hKj : ¬ nI K ≤ nI j := nI_ge (by omega) (by omega)
    rw [L_X0_comparePlaces_3, L_X6_by_3, keysM_s hB, has_s]
    rw [eK]
    simp only [Option.bind_some, nI_1]
    simp only [if_neg hKj]
    cases hc : hb S j
    · obtain ⟨r, h1, h2, h3⟩ := ih (j + 1) f (by omega) (by omega) (by rw [pv_f hc, pv_f hc]; exact he)
      rw [if_neg (fun q => by rw [hb_t.mp q] at hc; exact Bool.noConfusion hc), if_pos bI_f]
      rw [eK] at h1
      exact ⟨r, h1, h2, h3⟩
    · rw [if_pos (hb_t.mpr hc), if_neg (show ¬ bI true = 0 by decide), keySlot_s (by omega), slotOf_s hB (by omega), keyBy_s (by omega), byOf_s hB (by omega), keyWay_s (by omega)]
      simp only [Option.bind_some, nI_1]
      rw [e1, e2, compC_s hW hs hb0 (by omega) (by omega), cells_s hW hB hs hb0 (by omega) (by omega) hκ ek (hr (by omega))]
      simp only [Option.bind_some, nI_1]
      have ep : ∀ p, rv g t n (ks j).toNatClampNeg (kb j).toNatClampNeg p = rv g t n s b0 p := by
        intro p
        rw [e1, e2, nI_clamp (by omega), nI_clamp (by omega)]
      by_cases hz : rv g t n s b0 a = rv g t n s b0 b
      · rw [if_pos (sg_eq hz), if_pos (sg_eq hz)]
        obtain ⟨r, h1, h2, h3⟩ := ih (j + 1) f (by omega) (by omega) (by rw [pv_t hc, pv_t hc, ep, ep, he, hz])
        rw [eK] at h1
        exact ⟨r, h1, h2, h3⟩
      · rw [if_neg (fun q => hz (sg_z.mp q)), if_neg (fun q => hz (sg_z.mp q))]
        have e3 : ((157 : Int32) + ((3 : Int32) * nI j)) + (2 : Int32) = nI (159 + 3 * j) := by
          rw [n157, n3, pk_mul, nI_add, n2, nI_add]
          congr 1
          omega
        rw [e3, if_pos (ib_n (by omega) (by omega)), nI_clamp (by omega), (rb4 hB (show j < 4 by omega)).2.2]
        rcases wayin hW (show j < 4 by omega) with h0 | h0
        · have hne : pv g t n ks kb kw S (j + 1) a ≠ pv g t n ks kb kw S (j + 1) b := by
            rw [pv_t hc, pv_t hc, ep, ep, if_pos h0, if_pos h0, he]; omega
          rw [h0, if_pos rfl, if_neg (by decide)]
          refine ⟨_, rfl, rfl, Or.inr ?_⟩
          rw [sg_up hW (by omega) (by omega) (show j + 1 ≤ K by omega) (by omega) hne, pv_t hc, pv_t hc, ep, ep, if_pos h0, if_pos h0, he]
          exact congrArg Sum.inr (sg_cg (by omega) (by omega))
        · have h00 : ¬ kw j = 0 := by rw [h0]; decide
          have hne : pv g t n ks kb kw S (j + 1) a ≠ pv g t n ks kb kw S (j + 1) b := by
            rw [pv_t hc, pv_t hc, ep, ep, if_neg h00, if_neg h00, he]; omega
          rw [h0, if_neg (by decide), if_pos (by decide), sg_neg]
          refine ⟨_, rfl, rfl, Or.inr ?_⟩
          rw [sg_up hW (by omega) (by omega) (show j + 1 ≤ K by omega) (by omega) hne, pv_t hc, pv_t hc, ep, ep, if_neg h00, if_neg h00, he]
          exact congrArg Sum.inr (sg_cg (by omega) (by omega))
theorem comp_s (hW : WFu (k, z, t, n, g, ks, kb, kw, kc, ss, hs, hn)) (hB : RBu (k, z, t, n, g, ks, kb, kw, kc, ss, hs, hn) w 0) {m : Nat} (hF : Fit k z ks kb kc ss m) (S : Int32) {a b : Nat} (ha : a < m) (hb' : b < m) : f_X0_comparePlaces t n g ks kb kw kc (nI a) (nI b) S = some (sg (vP g t n ks kb kw kc S a) (vP g t n ks kb kw kc S b)) ∧ f_X6_by w S (nI a) (nI b) = some (sg (vP g t n ks kb kw kc S a) (vP g t n ks kb kw kc S b)) := by
  obtain ⟨hm, _, K, hK, eK, hk⟩ := hF
  obtain ⟨r, h1, h2, h3⟩ := compL_s hW hB hK eK hm hk S ha hb' K 0 4000 (by omega) (by omega) rfl
  have ev : ∀ p, vP g t n ks kb kw kc S p = pv g t n ks kb kw S K p := by
    intro p
    unfold vP
    rw [eK, nI_clamp (by omega)]
  rw [ev, ev]
  unfold f_X0_comparePlaces f_X6_by
  rw [n0, h1, h2]
  rcases h3 with ⟨h3, h4⟩ | h3
  · rw [h3, sg_eq h4]
    exact ⟨rfl, rfl⟩
  · rw [h3]
    exact ⟨rfl, rfl⟩
end CP1
