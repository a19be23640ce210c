/-! bits, keys, the places -/
/-- a bit of a set -/
def hb (x : Int32) (j : Nat) : Bool := decide (((x >>> (nI j &&& 31)) &&& 1) = 1)
theorem sm_d : ∀ j, j < 32 → ((nI j &&& 31).toBitVec.smod 32).toNat = j := by decide +kernel
theorem hb_bit (x : Int32) {j : Nat} (hj : j < 31) : hb x j = x.toBitVec.getLsbD j := by
  unfold hb
  have e1 : (x >>> (nI j &&& 31)) &&& 1 = nI ((x >>> (nI j &&& 31)).toBitVec.toNat % 2 ^ 1) := pk_and _ 1 (by rfl)
  have e2 : (x >>> (nI j &&& 31)).toBitVec = x.toBitVec.sshiftRight j := by
    rw [Int32.toBitVec_shiftRight]
    show x.toBitVec.sshiftRight ((nI j &&& 31).toBitVec.smod 32).toNat = _
    rw [sm_d j (by omega)]
  have e3 : (x.toBitVec.sshiftRight j).getLsbD 0 = x.toBitVec.getLsbD j := by
    rw [BitVec.getLsbD_sshiftRight, if_pos (by omega), Nat.add_zero]
    simp
  have e4 : (x.toBitVec.sshiftRight j).getLsbD 0 = decide ((x.toBitVec.sshiftRight j).toNat % 2 = 1) := by
    rw [BitVec.getLsbD, Nat.testBit_zero]
  rw [e1, e2, ← e3, e4]
  by_cases h : (x.toBitVec.sshiftRight j).toNat % 2 = 1
  · rw [decide_eq_true h]
    exact decide_eq_true (by rw [show (2 : Nat) ^ 1 = 2 from rfl, h]; rfl)
  · rw [decide_eq_false h]
    exact decide_eq_false (by
      have : (x.toBitVec.sshiftRight j).toNat % 2 = 0 := by omega
      rw [show (2 : Nat) ^ 1 = 2 from rfl, this]; decide)
theorem hb_or (x : Int32) {s j : Nat} (hs : s < 31) (hj : j < 31) : hb (x ||| ((1 : Int32) <<< (nI s &&& 31))) j = (hb x j || decide (s = j)) := by
  rw [hb_bit _ hj, hb_bit _ hj, Int32.toBitVec_or, BitVec.getLsbD_or]
  congr 1
  rw [Int32.toBitVec_shiftLeft]
  show (((1 : Int32).toBitVec) <<< ((nI s &&& 31).toBitVec.smod 32).toNat).getLsbD j = _
  rw [sm_d s (by omega), BitVec.getLsbD_shiftLeft]
  by_cases h : s = j
  · subst h
    rw [decide_eq_true rfl]
    have : ¬ s < s := by omega
    simp [this]
    omega
  · rw [decide_eq_false h]
    by_cases h2 : j < s
    · simp [h2]
    · have : ∃ m, j - s = m + 1 := ⟨j - s - 1, by omega⟩
      obtain ⟨m, hm⟩ := this
      rw [hm]
      simp
theorem has_s (x : Int32) (j : Nat) : f_X6_has x (nI j) = some (bI (hb x j)) := by
  unfold f_X6_has hb
  by_cases h : ((x >>> (nI j &&& 31)) &&& (1 : Int32)) = 1
  · rw [if_pos h, decide_eq_true h]; rfl
  · rw [if_neg h, decide_eq_false h]; rfl
theorem hb_t {x : Int32} {j : Nat} : (((x >>> (nI j &&& 31)) &&& 1) = 1) ↔ hb x j = true := by
  unfold hb
  rw [decide_eq_true_eq]
section PL1
variable {k z t g ks kb kw : Nat → Int32} {n : Nat → Int64} {kc ss hs : Int32} {hn : Int64} {w : Nat → Int64}
theorem keySlot_s {j : Nat} (hj : j < 4) : f_X0_keySlot ks (nI j) = some (ks j) := by
  unfold f_X0_keySlot
  rw [if_neg (nI_pos (by omega)), show (4 : Int32) = nI 4 from rfl, if_neg (nI_ge (by omega) (by omega)), if_pos (ib_n hj (by omega)), nI_clamp (by omega)]
theorem keyBy_s {j : Nat} (hj : j < 4) : f_X0_keyBy kb (nI j) = some (kb j) := by
  unfold f_X0_keyBy
  rw [if_neg (nI_pos (by omega)), show (4 : Int32) = nI 4 from rfl, if_neg (nI_ge (by omega) (by omega)), if_pos (ib_n hj (by omega)), nI_clamp (by omega)]
theorem keyWay_s {j : Nat} (hj : j < 4) : f_X0_keyWay kw (nI j) = some (kw j) := by
  unfold f_X0_keyWay
  rw [if_neg (nI_pos (by omega)), show (4 : Int32) = nI 4 from rfl, if_neg (nI_ge (by omega) (by omega)), if_pos (ib_n hj (by omega)), nI_clamp (by omega)]
theorem slotOf_s (hB : RBu (k, z, t, n, g, ks, kb, kw, kc, ss, hs, hn) w 0) {j : Nat} (hj : j < 4) : f_X6_slotOf w (nI j) = some (ks j) := by
  unfold f_X6_slotOf
  rw [n157, n3, pk_mul, nI_add, if_pos (ib_n (by omega) (by omega)), nI_clamp (by omega), (rb4 hB hj).1, t6432]
theorem byOf_s (hB : RBu (k, z, t, n, g, ks, kb, kw, kc, ss, hs, hn) w 0) {j : Nat} (hj : j < 4) : f_X6_byOf w (nI j) = some (kb j) := by
  unfold f_X6_byOf
  rw [n157, n3, pk_mul, nI_add, n1, nI_add, if_pos (ib_n (by omega) (by omega)), nI_clamp (by omega), show 157 + 3 * j + 1 = 158 + 3 * j by omega, (rb4 hB hj).2.1, t6432]
theorem keysM_s (hB : RBu (k, z, t, n, g, ks, kb, kw, kc, ss, hs, hn) w 0) : f_X6_keys w = some kc := by
  unfold f_X6_keys
  show some (Int64.toInt32 (w 156)) = _
  rw [rb3 hB, t6432]
theorem sheetM_s (hB : RBu (k, z, t, n, g, ks, kb, kw, kc, ss, hs, hn) w 0) : f_X6_sheetNow w = some ss := by
  unfold f_X6_sheetNow
  show some (Int64.toInt32 (w 169)) = _
  rw [(rb5 hB).1, t6432]
theorem kcin (hW : WFu (k, z, t, n, g, ks, kb, kw, kc, ss, hs, hn)) : ∃ K : Nat, K < 5 ∧ kc = nI K := inN (wf5 hW).1 (by have := wf5 hW; omega)
theorem keyin (hW : WFu (k, z, t, n, g, ks, kb, kw, kc, ss, hs, hn)) {j : Nat} (hj : j < 4) : ∃ s b : Nat, s < 6 ∧ b < 9 ∧ ks j = nI s ∧ kb j = nI b := by
  obtain ⟨h1, h2, h3, h4, h5, h6⟩ := wf4 hW hj
  obtain ⟨s, hs, e⟩ := inN (N := 6) h1 (by omega)
  obtain ⟨b, hb, e2⟩ := inN (N := 9) h3 (by omega)
  exact ⟨s, b, hs, hb, e, e2⟩
theorem wayin (hW : WFu (k, z, t, n, g, ks, kb, kw, kc, ss, hs, hn)) {j : Nat} (hj : j < 4) : kw j = 0 ∨ kw j = 1 := by
  obtain ⟨h1, h2, h3, h4, h5, h6⟩ := wf4 hW hj
  have : (kw j).toInt = 0 ∨ (kw j).toInt = 1 := by omega
  rcases this with h | h
  · exact Or.inl (k32 h)
  · exact Or.inr (k32 h)
theorem conc_s (hW : WFu (k, z, t, n, g, ks, kb, kw, kc, ss, hs, hn)) (hB : RBu (k, z, t, n, g, ks, kb, kw, kc, ss, hs, hn) w 0) {K : Nat} (hK : K < 5) (eK : kc = nI K) : ∀ d j fuel (v : Int32), j + d = K → d < fuel → ∃ c : Int32, L_X0_length_7 ks kc fuel v (nI j) = some c ∧ L_X6_slotsOfAll_7 w fuel v (nI j) = some c ∧ (∀ s, s < 6 → hb v s = true → hb c s = true) ∧ ∀ i, j ≤ i → i < K → ∀ s, s < 6 → ks i = nI s → hb c s = true := by
  intro d
  induction d with
  | zero =>
    intro j fuel v hj hf
    obtain ⟨f, rfl⟩ : ∃ f, fuel = f + 1 := ⟨fuel - 1, by omega⟩
    refine ⟨v, ?_, ?_, fun _ _ h => h, fun i h1 h2 => by omega⟩
    · rw [L_X0_length_7, eK, if_pos (nI_le (by omega) (by omega))]
    · rw [L_X6_slotsOfAll_7, keysM_s hB, Option.bind_some, eK, if_pos (nI_le (by omega) (by omega))]
  | succ d ih =>
    intro j fuel v hj hf
    obtain ⟨f, rfl⟩ : ∃ f, fuel = f + 1 := ⟨fuel - 1, by omega⟩
    obtain ⟨s, b, hs, hb', e1, e2⟩ := keyin hW (show j < 4 by omega)
    obtain ⟨c, h1, h2, h3, h4⟩ := ih (j + 1) f (v ||| ((1 : Int32) <<< (nI s &&& 31))) (by omega) (by omega)
    refine ⟨c, ?_, ?_, ?_, ?_⟩
    · rw [L_X0_length_7, eK, if_neg (nI_ge (by omega) (by omega)), keySlot_s (by omega), e1]
      simp only [Option.bind_some, nI_1]
      rw [← eK]
      exact h1
    · rw [L_X6_slotsOfAll_7, keysM_s hB, Option.bind_some, eK, if_neg (nI_ge (by omega) (by omega)), slotOf_s hB (by omega), e1]
      simp only [Option.bind_some, nI_1]
      exact h2
    · intro q hq h
      refine h3 q hq ?_
      rw [hb_or _ (by omega) (by omega), h]
      rfl
    · intro i hi1 hi2 q hq e
      by_cases hij : i = j
      · subst hij
        have : s = q := (nI_eq (by omega) (by omega)).mp (e1.symm.trans e)
        subst this
        refine h3 s hs ?_
        rw [hb_or _ (by omega) (by omega), decide_eq_true rfl, Bool.or_true]
      · exact h4 i (by omega) hi2 q hq e
/-- what a common length says of the slots of a set -/
def SzA (k z : Nat → Int32) (c e : Int32) (s0 : Nat) : Prop := ∀ s, s0 ≤ s → s < 6 → hb c s = true → (k s).toInt ≤ 11 ∧ z s = e
theorem len_s (hW : WFu (k, z, t, n, g, ks, kb, kw, kc, ss, hs, hn)) (hB : RBu (k, z, t, n, g, ks, kb, kw, kc, ss, hs, hn) w 0) (c : Int32) : ∀ d s fuel (v : Int32), s + d = 6 → d < fuel → (v = -1 ∨ ∃ m, m ≤ 12 ∧ v = nI m) → ∃ r : Int32 ⊕ Int32, L_X0_length_35 k z c fuel v (nI s) = some r ∧ L_X6_places_9 w c fuel v (nI s) = some r ∧ (r = .inr (-1) ∨ ∃ e, r = .inl e ∧ (e = -1 ∨ ∃ m, m ≤ 12 ∧ e = nI m) ∧ (v ≠ -1 → e = v) ∧ SzA k z c e s) := by
  intro d
  induction d with
  | zero =>
    intro s fuel v hs hf hv
    obtain ⟨f, rfl⟩ : ∃ f, fuel = f + 1 := ⟨fuel - 1, by omega⟩
    refine ⟨.inl v, ?_, ?_, Or.inr ⟨v, rfl, hv, fun _ => rfl, fun s h1 h2 => by omega⟩⟩
    · rw [L_X0_length_35, n6, if_pos (nI_le (by omega) (by omega))]
    · rw [L_X6_places_9, n6, if_pos (nI_le (by omega) (by omega))]
  | succ d ih =>
    intro s fuel v hs hf hv
    obtain ⟨f, rfl⟩ : ∃ f, fuel = f + 1 := ⟨fuel - 1, by omega⟩
    have h6 : s < 6 := by omega
    obtain ⟨ζ, hζ, ez⟩ := zin hW h6
    rw [L_X0_length_35, L_X6_places_9, n6, if_neg (nI_ge (by omega) (by omega)), if_neg (nI_ge (by omega) (by omega)), has_s]
    simp only [Option.bind_some, nI_1]
    cases hc : hb c s
    · obtain ⟨r, h1, h2, h3⟩ := ih (s + 1) f v (by omega) (by omega) hv
      rw [if_neg (fun q => by rw [hb_t.mp q] at hc; exact Bool.noConfusion hc), if_pos bI_f]
      refine ⟨r, h1, h2, ?_⟩
      rcases h3 with h3 | ⟨e, h3, h4, h5, h6⟩
      · exact Or.inl h3
      · refine Or.inr ⟨e, h3, h4, h5, ?_⟩
        intro q hq1 hq2 hq3
        by_cases hqs : q = s
        · subst hqs; rw [hc] at hq3; exact Bool.noConfusion hq3
        · exact h6 q (by omega) hq2 hq3
    · rw [if_pos (hb_t.mpr hc), if_neg (show ¬ bI true = 0 by decide), holds_n h6, isRowM_n hB h6]
      simp only [Option.bind_some, nI_1]
      by_cases hr : (k s).toInt ≤ 11
      · rw [if_pos hr, if_neg (show ¬ (1 : Int32) = 0 by decide), if_neg (show ¬ (1 : Int32) = 0 by decide), sizeOf_n h6, manyM_n hB h6 hr]
        simp only [Option.bind_some, nI_1]
        have step : ∀ v', v' = z s → ∃ r : Int32 ⊕ Int32, L_X0_length_35 k z c f v' (nI (s + 1)) = some r ∧ L_X6_places_9 w c f v' (nI (s + 1)) = some r ∧ (r = .inr (-1) ∨ ∃ e, r = .inl e ∧ (e = -1 ∨ ∃ m, m ≤ 12 ∧ e = nI m) ∧ e = z s ∧ SzA k z c e s) := by
          intro v' hv'
          obtain ⟨r, h1, h2, h3⟩ := ih (s + 1) f v' (by omega) (by omega) (Or.inr ⟨ζ, by omega, by rw [hv', ez]⟩)
          refine ⟨r, h1, h2, ?_⟩
          rcases h3 with h3 | ⟨e, h3, h4, h5, h7⟩
          · exact Or.inl h3
          · have hev : e = z s := by
              rw [← hv']
              refine h5 ?_
              rw [hv', ez]
              intro q
              have := congrArg Int32.toInt q
              rw [nI_toInt (by omega), show (-1 : Int32).toInt = -1 from rfl] at this
              omega
            refine Or.inr ⟨e, h3, h4, hev, ?_⟩
            intro q hq1 hq2 hq3
            by_cases hqs : q = s
            · subst hqs; exact ⟨hr, hev.symm⟩
            · exact h7 q (by omega) hq2 hq3
        by_cases hv1 : v = -1
        · rw [if_pos hv1, if_pos hv1]
          obtain ⟨r, h1, h2, h3⟩ := step (z s) rfl
          refine ⟨r, h1, h2, ?_⟩
          rcases h3 with h3 | ⟨e, h3, h4, h5, h7⟩
          · exact Or.inl h3
          · exact Or.inr ⟨e, h3, h4, fun q => absurd hv1 q, h7⟩
        · rw [if_neg hv1, if_neg hv1]
          by_cases hz : z s = v
          · rw [if_pos hz, if_pos hz.symm]
            obtain ⟨r, h1, h2, h3⟩ := step (z s) rfl
            refine ⟨r, h1, h2, ?_⟩
            rcases h3 with h3 | ⟨e, h3, h4, h5, h7⟩
            · exact Or.inl h3
            · exact Or.inr ⟨e, h3, h4, fun _ => h5.trans hz, h7⟩
          · rw [if_neg hz, if_neg (fun q => hz q.symm)]
            exact ⟨_, rfl, rfl, Or.inl rfl⟩
      · rw [if_neg hr, if_pos rfl, if_pos rfl]
        exact ⟨_, rfl, rfl, Or.inl rfl⟩
/-- key j reads the slot s as b, and can -/
def KeyA (k z ks kb : Nat → Int32) (m j : Nat) : Prop := ∃ s b κ : Nat, s < 6 ∧ b < 9 ∧ κ < 12 ∧ ks j = nI s ∧ kb j = nI b ∧ k s = nI κ ∧ z s = nI m ∧ (0 < m → crb κ b = true)
theorem canR_s (hW : WFu (k, z, t, n, g, ks, kb, kw, kc, ss, hs, hn)) (hB : RBu (k, z, t, n, g, ks, kb, kw, kc, ss, hs, hn) w 0) {K m : Nat} (hK : K < 5) (eK : kc = nI K) (hm : 0 < m) (hm2 : m ≤ 12) (hk : ∀ j, j < K → ∃ s κ : Nat, s < 6 ∧ κ < 12 ∧ ks j = nI s ∧ k s = nI κ ∧ z s = nI m) : ∀ d j fuel, j + d = K → d < fuel → ∃ r : Unit ⊕ Int32, L_X0_keysCanRead_2 k ks kb kc fuel (nI j) = some r ∧ ((r = .inr 0 ∧ L_X6_places_61 w (nI m) fuel (nI j) = some (.inr (-1))) ∨ (r = .inl () ∧ L_X6_places_61 w (nI m) fuel (nI j) = some (.inl ()) ∧ ∀ i, j ≤ i → i < K → KeyA k z ks kb m i)) := by
  intro d
  induction d with
  | zero =>
    intro j fuel hj hf
    obtain ⟨f, rfl⟩ : ∃ f, fuel = f + 1 := ⟨fuel - 1, by omega⟩
    refine ⟨.inl (), ?_, Or.inr ⟨rfl, ?_, fun i h1 h2 => by omega⟩⟩
    · rw [L_X0_keysCanRead_2, eK, if_pos (nI_le (by omega) (by omega))]
    · rw [L_X6_places_61, keysM_s hB, Option.bind_some, eK, if_pos (nI_le (by omega) (by omega))]
  | succ d ih =>
    intro j fuel hj hf
    obtain ⟨f, rfl⟩ : ∃ f, fuel = f + 1 := ⟨fuel - 1, by omega⟩
    obtain ⟨s, κ, hs, hκ, e1, ek, ez⟩ := hk j (by omega)
    obtain ⟨_, b, _, hb', _, e2⟩ := keyin hW (show j < 4 by omega)
    have cr : f_X0_canRead k (ks j) (kb j) = some (bI (crb κ b)) := by rw [e1, e2]; exact canRead_n hs (by omega) ek hb'
    have rr : f_X6_reads w (ks j) (kb j) = some (bI (crb κ b)) := by
      rw [e1, e2, reads_n hB hs (by omega) ek hb']
      by_cases h8 : b = 8
      · subst h8
        have : crb κ 8 = true := by unfold crb; rw [if_pos rfl]; exact decide_eq_true (by omega)
        rw [this]; rfl
      · rw [show (b == 8) = false from beq_eq_false_iff_ne.mpr h8, Bool.false_or]
    rw [L_X0_keysCanRead_2, L_X6_places_61, keysM_s hB]
    rw [eK]
    simp only [Option.bind_some, nI_1]
    have hKj : ¬ nI K ≤ nI j := nI_ge (by omega) (by omega)
    simp only [if_neg hKj]
    rw [keySlot_s (by omega), slotOf_s hB (by omega), if_neg (nI_nle hm (by omega)), keyBy_s (by omega), byOf_s hB (by omega)]
    simp only [cr, rr, Option.bind_some, nI_1]
    cases hcr : crb κ b
    · rw [if_pos bI_f, if_pos bI_f]
      exact ⟨_, rfl, Or.inl ⟨rfl, rfl⟩⟩
    · rw [if_neg (show ¬ bI true = 0 by decide), if_neg (show ¬ bI true = 0 by decide)]
      obtain ⟨r, h1, h2⟩ := ih (j + 1) f (by omega) (by omega)
      rw [eK] at h1
      refine ⟨r, h1, ?_⟩
      rcases h2 with ⟨h2, h3⟩ | ⟨h2, h3, h4⟩
      · exact Or.inl ⟨h2, h3⟩
      · refine Or.inr ⟨h2, h3, ?_⟩
        intro i hi1 hi2
        by_cases hij : i = j
        · subst hij
          exact ⟨s, b, κ, hs, hb', hκ, e1, e2, ek, ez, fun _ => hcr⟩
        · exact h4 i (by omega) hi2
theorem skip_s (hB : RBu (k, z, t, n, g, ks, kb, kw, kc, ss, hs, hn) w 0) {K : Nat} (hK : K < 5) (eK : kc = nI K) {e : Int32} (he : e ≤ 0) : ∀ d j fuel, j + d = K → d < fuel → L_X6_places_61 w e fuel (nI j) = some (.inl ()) := by
  intro d
  induction d with
  | zero =>
    intro j fuel hj hf
    obtain ⟨f, rfl⟩ : ∃ f, fuel = f + 1 := ⟨fuel - 1, by omega⟩
    rw [L_X6_places_61, keysM_s hB, Option.bind_some, eK, if_pos (nI_le (by omega) (by omega))]
  | succ d ih =>
    intro j fuel hj hf
    obtain ⟨f, rfl⟩ : ∃ f, fuel = f + 1 := ⟨fuel - 1, by omega⟩
    rw [L_X6_places_61, keysM_s hB, Option.bind_some, eK, if_neg (nI_ge (by omega) (by omega)), if_pos he]
    simp only [Option.bind_some, nI_1]
    exact ih (j + 1) f (by omega) (by omega)
/-- the workbench is fit and has m places -/
def Fit (k z ks kb : Nat → Int32) (kc ss : Int32) (m : Nat) : Prop := m ≤ 12 ∧ (∀ s, s < 6 → hb ss s = true → (k s).toInt ≤ 11 ∧ z s = nI m) ∧ ∃ K : Nat, K < 5 ∧ kc = nI K ∧ ∀ j, j < K → KeyA k z ks kb m j
theorem m1n {m : Nat} (hm : m ≤ 12) : nI m ≠ -1 := by
  intro q
  have := congrArg Int32.toInt q
  rw [nI_toInt (by omega), show (-1 : Int32).toInt = -1 from rfl] at this
  omega
theorem places_s (hW : WFu (k, z, t, n, g, ks, kb, kw, kc, ss, hs, hn)) (hB : RBu (k, z, t, n, g, ks, kb, kw, kc, ss, hs, hn) w 0) : ∃ L : Int32, f_X0_length k z ks kb kc ss = some L ∧ f_X6_places w = some L ∧ (L = -1 ∨ ∃ m, L = nI m ∧ Fit k z ks kb kc ss m) := by
  obtain ⟨K, hK, eK⟩ := kcin hW
  obtain ⟨c, c1, c2, c3, c4⟩ := conc_s hW hB hK eK K 0 4000 ss (by omega) (by omega)
  obtain ⟨r, r1, r2, r3⟩ := len_s hW hB c 6 0 4000 (-1) (by omega) (by omega) (Or.inl rfl)
  unfold f_X0_length f_X6_places f_X6_slotsOfAll
  rw [sheetM_s hB, n0, c1]
  simp only [c2, r1, r2, Option.bind_some]
  rcases r3 with r3 | ⟨e, r3, r4, r5, r6⟩
  · rw [r3]
    exact ⟨-1, rfl, rfl, Or.inl rfl⟩
  · rw [r3]
    simp only [Sum.elim_inl]
    rcases r4 with r4 | ⟨m, hm, r4⟩
    · rw [r4, skip_s hB hK eK (by decide) K 0 4000 (by omega) (by omega)]
      exact ⟨-1, by rw [if_pos (by decide)], rfl, Or.inl rfl⟩
    · have hsz : ∀ j, j < K → ∃ s κ : Nat, s < 6 ∧ κ < 12 ∧ ks j = nI s ∧ k s = nI κ ∧ z s = nI m := by
        intro j hj
        obtain ⟨s, b, hs, hb', e1, e2⟩ := keyin hW (show j < 4 by omega)
        have := r6 s (by omega) hs (c4 j (by omega) hj s hs e1)
        obtain ⟨κ, hκ, ek⟩ := kin hW hs
        rw [ek, nI_toInt (by omega)] at this
        exact ⟨s, κ, hs, by omega, e1, ek, by rw [this.2, r4]⟩
      have hsh : ∀ s, s < 6 → hb ss s = true → (k s).toInt ≤ 11 ∧ z s = nI m := by
        intro s hs h
        have := r6 s (by omega) hs (c3 s hs h)
        rw [r4] at this
        exact this
      rw [r4]
      by_cases h0 : m = 0
      · subst h0
        rw [skip_s hB hK eK (by decide) K 0 4000 (by omega) (by omega), if_pos (by decide)]
        refine ⟨nI 0, rfl, rfl, Or.inr ⟨0, rfl, by omega, hsh, K, hK, eK, ?_⟩⟩
        intro j hj
        obtain ⟨s, κ, hs, hκ, e1, ek, ez⟩ := hsz j hj
        obtain ⟨_, b, _, hb', _, e2⟩ := keyin hW (show j < 4 by omega)
        exact ⟨s, b, κ, hs, hb', hκ, e1, e2, ek, ez, fun q => by omega⟩
      · obtain ⟨q, q1, q2⟩ := canR_s hW hB hK eK (show 0 < m by omega) hm hsz K 0 4000 (by omega) (by omega)
        rw [if_neg (nI_ge (by omega) (by omega))]
        unfold f_X0_keysCanRead
        rw [n0, q1, Option.bind_some]
        rcases q2 with ⟨q2, q3⟩ | ⟨q2, q3, q4⟩
        · rw [q2, q3]
          exact ⟨-1, rfl, rfl, Or.inl rfl⟩
        · rw [q2, q3]
          exact ⟨nI m, rfl, rfl, Or.inr ⟨m, rfl, hm, hsh, K, hK, eK, fun j hj => q4 j (by omega) hj⟩⟩
end PL1
