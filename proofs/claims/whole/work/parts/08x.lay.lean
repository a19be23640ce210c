/-! lay, pour, drift -/
theorem f0_24 : FP.f2l (FP.l2f 0) = 0 := by decide +kernel
theorem f0_53 : FP.d2l (FP.l2d 0) = 0 := by decide +kernel
theorem ok_zero {a : Nat} (ha : a < 10) : okV (nI a) 0 := by
  refine ok_of ha (fun _ => Or.inl rfl) (fun _ => by decide) (fun _ => by decide) (fun _ => by decide) (fun _ => by decide) (fun _ => f0_24) (fun _ => f0_53) (fun _ => by decide) (fun _ => rfl)
section LY1
variable {k z t g ks kb kw : Nat → Int32} {n : Nat → Int64} {kc ss hs : Int32} {hn : Int64} {w : Nat → Int64}
theorem lay_s {s κ : Nat} (hs' : s < 6) (hκ : κ < 15) (hB : RBu (k, z, t, n, g, ks, kb, kw, kc, ss, hs, hn) w 0) : ∃ (t' : Nat → Int32) (n' w' : Nat → Int64), L_X0_renew_35 (nI s) (nI κ) 4000 0 t n = some (t', n') ∧ L_X6_lay_72 (nI s) (nI κ) 4000 0 w = some w' ∧ RBu (k, z, t', n', g, ks, kb, kw, kc, ss, hs, hn) w' 0 ∧ (∀ i, i < 12 → t' (12 * s + i) = nI (if κ ≤ 7 then κ else 9) ∧ n' (12 * s + i) = 0) ∧ (∀ c, (c < 12 * s ∨ 12 * s + 12 ≤ c) → t' c = t c ∧ n' c = n c) ∧ ∀ j, 180 ≤ j → w' j = w j := by
  have key : ∃ r p, L_X0_renew_35 (nI s) (nI κ) 4000 (nI 0) t n = some r ∧ L_X6_lay_72 (nI s) (nI κ) 4000 (nI 0) w = some p ∧ (RBu (k, z, r.1, r.2, g, ks, kb, kw, kc, ss, hs, hn) p 0 ∧ (∀ i, i < 12 → r.1 (12 * s + i) = nI (if κ ≤ 7 then κ else 9) ∧ r.2 (12 * s + i) = 0) ∧ (∀ c, (c < 12 * s ∨ 12 * s + 12 ≤ c) → r.1 c = t c ∧ r.2 c = n c) ∧ ∀ j, 180 ≤ j → p j = w j) := by
    refine lock (fun f q (a : (Nat → Int32) × (Nat → Int64)) => L_X0_renew_35 (nI s) (nI κ) f (nI q) a.1 a.2) (fun f q (v : Nat → Int64) => L_X6_lay_72 (nI s) (nI κ) f (nI q) v) (fun q r p => RBu (k, z, r.1, r.2, g, ks, kb, kw, kc, ss, hs, hn) p 0 ∧ (∀ i, i < q → r.1 (12 * s + i) = nI (if κ ≤ 7 then κ else 9) ∧ r.2 (12 * s + i) = 0) ∧ (∀ c, (c < 12 * s ∨ 12 * s + 12 ≤ c) → r.1 c = t c ∧ r.2 c = n c) ∧ ∀ j, 180 ≤ j → p j = w j) _ 12 ?_ ?_ 12 0 4000 4000 (t, n) w (by omega) (by omega) (by omega) ⟨hB, fun i hi => by omega, fun _ _ => ⟨rfl, rfl⟩, fun _ _ => rfl⟩
    · intro f g' a v hI
      exact ⟨_, _, rfl, rfl, hI⟩
    · rintro f g' q ⟨t1, n1⟩ v hq ⟨hb1, hb2, hb3, hb4⟩
      refine Or.inl ?_
      show ∃ (s' : (Nat → Int32) × (Nat → Int64)) (v' : Nat → Int64), _ ∧ L_X0_renew_35 (nI s) (nI κ) (f + 1) (nI q) t1 n1 = L_X0_renew_35 (nI s) (nI κ) f (nI (q + 1)) s'.1 s'.2 ∧ L_X6_lay_72 (nI s) (nI κ) (g' + 1) (nI q) v = L_X6_lay_72 (nI s) (nI κ) g' (nI (q + 1)) v'
      have h12 : ¬ (12 : Int32) ≤ nI q := show ¬ nI 12 ≤ nI q from nI_ge hq (by omega)
      have e1 : (12 : Int32) + nI (12 * s + q) = nI (12 + (12 * s + q)) := by rw [n12, nI_add]
      have e2 : (84 : Int32) + nI (12 * s + q) = nI (84 + (12 * s + q)) := by rw [n84, nI_add]
      have i1 := ib_n (show 12 + (12 * s + q) < 3420 by omega) (show 3420 < 2 ^ 31 by omega)
      have i2 := ib_n (show 84 + (12 * s + q) < 3420 by omega) (show 3420 < 2 ^ 31 by omega)
      have fin : ∀ σ : Int32, σ = nI (if κ ≤ 7 then κ else 9) → RBu (k, z, upd t1 (12 * s + q) σ, vp_updL n1 (12 * s + q) 0, g, ks, kb, kw, kc, ss, hs, hn) (vp_updL (vp_updL v (12 + (12 * s + q)) (Int32.toInt64 σ)) (84 + (12 * s + q)) 0) 0 ∧ (∀ i, i < q + 1 → upd t1 (12 * s + q) σ (12 * s + i) = nI (if κ ≤ 7 then κ else 9) ∧ vp_updL n1 (12 * s + q) 0 (12 * s + i) = 0) ∧ (∀ c, (c < 12 * s ∨ 12 * s + 12 ≤ c) → upd t1 (12 * s + q) σ c = t c ∧ vp_updL n1 (12 * s + q) 0 c = n c) ∧ ∀ j, 180 ≤ j → vp_updL (vp_updL v (12 + (12 * s + q)) (Int32.toInt64 σ)) (84 + (12 * s + q)) 0 j = w j := by
        intro σ hσ
        refine ⟨setCB hb1 (by omega) σ 0, fun i hi => ?_, fun c hc => ?_, fun j hj => ?_⟩
        · by_cases e : i = q
          · subst e; rw [pk_us, pk_uLs]; exact ⟨hσ, rfl⟩
          · rw [pk_un (by omega), pk_uLn (by omega)]; exact hb2 i (by omega)
        · rw [pk_un (by omega), pk_uLn (by omega)]; exact hb3 c hc
        · rw [pk_uLn (by omega), pk_uLn (by omega)]; exact hb4 j hj
      rw [L_X0_renew_35, L_X6_lay_72, if_neg h12, if_neg h12, atM_n, setCell_n hs' hq, setCell_n hs' hq]
      simp only [Option.bind_some, e1, e2, i1, i2, if_true, nI_clamp (show 12 + (12 * s + q) < 2 ^ 31 by omega), nI_clamp (show 84 + (12 * s + q) < 2 ^ 31 by omega), nI_1]
      by_cases h7 : 7 < κ
      · have c7 : (7 : Int32) < nI κ := show nI 7 < nI κ from nI_lt h7 (by omega)
        rw [if_pos c7, if_pos c7]
        exact ⟨(_, _), _, fin 9 (by rw [if_neg (by omega)]; rfl), rfl, rfl⟩
      · have c7 : ¬ (7 : Int32) < nI κ := show ¬ nI 7 < nI κ from nI_nlt (by omega) (by omega)
        rw [if_neg c7, if_neg c7]
        exact ⟨(_, _), _, fin (nI κ) (by rw [if_pos (by omega)]), rfl, rfl⟩
  obtain ⟨r, p, e1, e2, h1, h2, h3, h4⟩ := key
  exact ⟨r.1, r.2, p, e1, e2, h1, h2, h3, h4⟩
theorem setKZ (hB : RBu (k, z, t, n, g, ks, kb, kw, kc, ss, hs, hn) w 0) {s : Nat} (hs' : s < 6) (x y y' : Int32) (hy : x.toInt ≤ 11 → y' = y) : RBu (upd k s x, upd z s y', t, n, g, ks, kb, kw, kc, ss, hs, hn) (vp_updL (vp_updL w s (Int32.toInt64 x)) (6 + s) (Int32.toInt64 y)) 0 := by
  have far : ∀ j, 12 ≤ j → (vp_updL (vp_updL w s (Int32.toInt64 x)) (6 + s) (Int32.toInt64 y)) j = w j := by
    intro j hj
    rw [pk_uLn (by omega), pk_uLn (by omega)]
  refine RB0 (fun s' hs2 => ?_) (fun d hd => ?_) ?_ (fun i hi => ?_) ?_ (fun i hi => ?_)
  · by_cases e : s' = s
    · subst e
      rw [pk_us, pk_us, pk_uLs, pk_uLn (by omega), pk_uLs]
      exact ⟨rfl, fun q => by rw [hy q]⟩
    · rw [pk_un e, pk_un e, pk_uLn (by omega), pk_uLn (by omega), pk_uLn (by omega), pk_uLn (by omega)]
      exact rb1 hB hs2
  · rw [far _ (by omega), far _ (by omega)]; exact rb2 hB hd
  · rw [far _ (by omega)]; exact rb3 hB
  · rw [far _ (by omega), far _ (by omega), far _ (by omega)]; exact rb4 hB hi
  · rw [far _ (by omega), far _ (by omega), far _ (by omega)]; exact rb5 hB
  · rw [far _ (by omega)]; exact rb6 hB hi
end LY1
theorem sim_lay {b_kinds : Nat → Int32} {b_sizes : Nat → Int32} {b_sorts : Nat → Int32} {b_numbers : Nat → Int64} {b_weights : Nat → Int32} {b_keySlots : Nat → Int32} {b_keyBys : Nat → Int32} {b_keyWays : Nat → Int32} {b_keyCount : Int32} {b_sheetSet : Int32} {b_handSort : Int32} {b_handNumber : Int64} {x_imageRandoms : Nat → Int32} {x_random : Int32} {h_next : Int32} {h_count : Int32} {k_places : Nat → Int32} {k_positions : Nat → Int32} {k_count : Int32} {w_w : Nat → Int64} {w_imageSeed : Nat → Int32} {w_isKept : Nat → Int32} {w_undos : Int32} {w_seed : Int32} {w_entries : Int32} {w_bookPlace : Nat → Int32} {w_bookPosition : Nat → Int32} {P_hs : HT} (hR : Rel (b_kinds, b_sizes, b_sorts, b_numbers, b_weights, b_keySlots, b_keyBys, b_keyWays, b_keyCount, b_sheetSet, b_handSort, b_handNumber) x_imageRandoms x_random h_next h_count P_hs k_places k_positions k_count w_w w_imageSeed w_isKept w_undos w_seed w_entries w_bookPlace w_bookPosition) (x1 : Int32) (x2 : Int32) (x3 : Int32) : ∃ (zc : Int32 × (Nat → Int32) × (Nat → Int32) × (Nat → Int32) × (Nat → Int64) × Int32 × Int32 × HT) (zm : Int32 × (Nat → Int64) × Int32), f_X5_lay b_kinds b_sizes b_sorts b_numbers b_weights b_keySlots b_keyBys b_keyWays b_keyCount b_sheetSet b_handSort b_handNumber h_next h_count P_hs x1 x2 x3 = some zc ∧ f_X6_lay w_w w_undos x1 x2 x3 = some zm ∧ zc.1 = zm.1 ∧ Rel (zc.2.1, zc.2.2.1, zc.2.2.2.1, zc.2.2.2.2.1, b_weights, b_keySlots, b_keyBys, b_keyWays, b_keyCount, b_sheetSet, b_handSort, b_handNumber) x_imageRandoms x_random zc.2.2.2.2.2.1 zc.2.2.2.2.2.2.1 zc.2.2.2.2.2.2.2 k_places k_positions k_count zm.2.1 w_imageSeed w_isKept zm.2.2 w_seed w_entries w_bookPlace w_bookPosition := by
  have hR0 := hR
  obtain ⟨hW, hB, hH, hI, hS, hK⟩ := hR
  unfold f_X5_lay f_X6_lay
  rcases slotC x1 with ⟨h1, h2⟩ | ⟨s, hs, rfl, h1, h2⟩
  · rw [h1, h2]; exact ⟨_, _, rfl, rfl, rfl, hR0⟩
  rcases inC x2 0 14 0 14 rfl rfl with ⟨h3, h4, _⟩ | ⟨h3, h4, h5⟩
  · rw [h1, h2, h3, h4]; exact ⟨_, _, rfl, rfl, rfl, hR0⟩
  rcases inC x3 0 12 0 12 rfl rfl with ⟨h6, h7, _⟩ | ⟨h6, h7, h8⟩
  · rw [h1, h2, h3, h4, h6, h7]; exact ⟨_, _, rfl, rfl, rfl, hR0⟩
  obtain ⟨κ, hκ, rfl⟩ := inN (N := 15) h5.1 (by have := h5.2; have e9 : (14 : Int32).toInt = 14 := rfl; omega)
  obtain ⟨ζ, hζ, rfl⟩ := inN (N := 13) h8.1 (by have := h8.2; have e9 : (12 : Int32).toInt = 12 := rfl; omega)
  obtain ⟨nx', ct', hs', w', un', e1, e2, hB', hH', hI'⟩ := remember_s hW hB hH hI
  have hz0 := setKZ hB' hs (nI κ) (nI ζ) (nI (if κ ≤ 11 then ζ else 0)) (fun q => by rw [nI_toInt (by omega)] at q; rw [if_pos (by omega)])
  obtain ⟨t', n', w'', g1, g2, g3, g4, g5, g6⟩ := lay_s hs hκ hz0
  have i1 := ib_n (show s < 3420 by omega) (show 3420 < 2 ^ 31 by omega)
  have i2 := ib_n (show 6 + s < 3420 by omega) (show 3420 < 2 ^ 31 by omega)
  have i6 := ib_n hs (show 6 < 2 ^ 31 by omega)
  have es : (0 : Int32) + nI s = nI s := by rw [n0, nI_add, Nat.zero_add]
  have e6 : (6 : Int32) + nI s = nI (6 + s) := by rw [n6, nI_add]
  have gr : f_X0_renew b_kinds b_sizes b_sorts b_numbers (nI s) (nI κ) (nI ζ) = some (upd b_kinds s (nI κ), upd b_sizes s (nI (if κ ≤ 11 then ζ else 0)), t', n') := by
    unfold f_X0_renew
    rw [h1]
    simp only [Option.bind_some, if_neg z10, i6, if_true, nI_clamp (show s < 2 ^ 31 by omega), g1]
    by_cases h11 : 11 < κ
    · have c11 : (11 : Int32) < nI κ := show nI 11 < nI κ from nI_lt h11 (by omega)
      rw [if_pos c11, if_neg (show ¬ κ ≤ 11 by omega)]
      rfl
    · have c11 : ¬ (11 : Int32) < nI κ := show ¬ nI 11 < nI κ from nI_nlt (by omega) (by omega)
      rw [if_neg c11, if_pos (show κ ≤ 11 by omega)]
  rw [h1, h2, h3, h4, h6, h7, kindOf_n hs, e1, e2, gr]
  simp only [Option.bind_some, if_neg z10, kindM_n hB' hs, es, e6, i1, i2, if_true, nI_clamp (show s < 2 ^ 31 by omega), nI_clamp (show 6 + s < 2 ^ 31 by omega), g2]
  refine ⟨_, _, rfl, rfl, rfl, relD ⟨?_, ?_, hW.2.2⟩ g3 (fun j hj => ?_) hH' hI' hS hK⟩
  · intro s' hs2
    show 0 ≤ (upd b_kinds s (nI κ) s').toInt ∧ (upd b_kinds s (nI κ) s').toInt ≤ 14 ∧ 0 ≤ (upd b_sizes s (nI (if κ ≤ 11 then ζ else 0)) s').toInt ∧ (upd b_sizes s (nI (if κ ≤ 11 then ζ else 0)) s').toInt ≤ 12 ∧ (11 < (upd b_kinds s (nI κ) s').toInt → upd b_sizes s (nI (if κ ≤ 11 then ζ else 0)) s' = 0)
    by_cases e : s' = s
    · subst e
      rw [pk_us, pk_us, nI_toInt (by omega)]
      by_cases h11 : κ ≤ 11
      · rw [if_pos h11, nI_toInt (by omega)]; omega
      · rw [if_neg h11, nI_toInt (by omega)]
        exact ⟨by omega, by omega, by omega, by omega, fun _ => rfl⟩
    · rw [pk_un e, pk_un e]
      exact hW.1 s' hs2
  · intro s' i hs2 hi
    show okV (t' (12 * s' + i)) (n' (12 * s' + i)) ∧ ((upd b_kinds s (nI κ) s').toInt ≤ 7 → t' (12 * s' + i) = upd b_kinds s (nI κ) s')
    by_cases e : s' = s
    · subst e
      rw [(g4 i hi).1, (g4 i hi).2, pk_us]
      refine ⟨ok_zero (by by_cases h : κ ≤ 7 <;> simp [h] <;> omega), fun q => ?_⟩
      rw [nI_toInt (by omega)] at q
      rw [if_pos (by omega)]
    · rw [pk_un e, (g5 (12 * s' + i) (by omega)).1, (g5 (12 * s' + i) (by omega)).2]
      exact hW.2.1 s' i hs2 hi
  · show w'' j = w' j
    rw [g6 j hj, pk_uLn (by omega), pk_uLn (by omega)]
/-- the reason by an index of any size -/
def reaL (k z : Nat → Int32) (s : Nat) (i : Int) : Int32 := if k s = 14 then 1 else if 11 < (k s).toInt then 2 else if 0 ≤ i ∧ i < (z s).toInt then 0 else 3
section PR1
variable {k z t g ks kb kw : Nat → Int32} {n : Nat → Int64} {kc ss hs : Int32} {hn : Int64} {w : Nat → Int64}
theorem lacksL (hW : WFu (k, z, t, n, g, ks, kb, kw, kc, ss, hs, hn)) (hB : RBu (k, z, t, n, g, ks, kb, kw, kc, ss, hs, hn) w 0) {s : Nat} (h : s < 6) (y : Int64) : f_X6_lacks w (nI s) y = some (reaL k z s y.toInt) := by
  obtain ⟨h1, h2, h3, h4, h5⟩ := wf1 hW h
  unfold f_X6_lacks reaL
  rw [kindM_n hB h]
  show (if k s = 14 then some 1 else _) = _
  by_cases e : k s = 14
  · rw [if_pos e, if_pos e]
  · rw [if_neg e, if_neg e, isRowM_n hB h]
    by_cases e2 : (k s).toInt ≤ 11
    · rw [if_pos e2, if_neg (show ¬ 11 < (k s).toInt by omega), manyM_n hB h e2]
      rw [Option.bind_some, if_neg (show ¬ (1 : Int32) = 0 by decide), Option.bind_some, in_v, t64, sub1 h3]
      have e0 : (0 : Int64).toInt = 0 := rfl
      rw [e0]
      by_cases e3 : 0 ≤ y.toInt ∧ y.toInt < (z s).toInt
      · rw [if_pos e3, if_pos (by omega)]; rfl
      · rw [if_neg e3, if_neg (by omega)]; rfl
    · rw [if_neg e2, if_pos (show 11 < (k s).toInt by omega)]; rfl
/-- the sum of an int and a small number, as int and as long -/
theorem reaC (hW : WFu (k, z, t, n, g, ks, kb, kw, kc, ss, hs, hn)) {s : Nat} (h : s < 6) (x : Int32) {q : Nat} (hq : q < 12) : ((rea k z s (x + nI q) = 0 ↔ reaL k z s ((Int32.toInt64 x) + (Int32.toInt64 (nI q))).toInt = 0)) := by
  obtain ⟨h1, h2, h3, h4, h5⟩ := wf1 hW h
  have hb1 := Int32.toInt_lt x
  have hb2 := Int32.le_toInt x
  have e1 : ((Int32.toInt64 x) + (Int32.toInt64 (nI q))).toInt = x.toInt + q := by
    rw [Int64.toInt_add, t64, t64, nI_toInt (by omega), Int.bmod_def]; omega
  have e2 : (x + nI q).toInt = (x.toInt + q).bmod (2 ^ 32) := by
    rw [Int32.toInt_add, nI_toInt (by omega)]
  rw [e1]
  unfold rea reaL
  by_cases e : k s = 14
  · rw [if_pos e, if_pos e]
  · rw [if_neg e, if_neg e]
    by_cases e2' : 11 < (k s).toInt
    · rw [if_pos e2', if_pos e2']
    · rw [if_neg e2', if_neg e2', e2]
      by_cases e3 : 0 ≤ x.toInt + (q : Int) ∧ x.toInt + (q : Int) < (z s).toInt
      · rw [if_pos e3, if_pos]
        rw [Int.bmod_def]; omega
      · rw [if_neg e3, if_neg]
        rw [Int.bmod_def]; omega
/-- one cell copied, by both -/
theorem copyC (hW : WFu (k, z, t, n, g, ks, kb, kw, kc, ss, hs, hn)) (hB : RBu (k, z, t, n, g, ks, kb, kw, kc, ss, hs, hn) w 0) {a c q : Nat} (ha : a < 6) (hc : c < 6) (hq : q < 12) (x y : Int32) : (f_X0_copyCell k z t n (nI a) (x + nI q) (nI c) (y + nI q) = some (0, t, n) ∧ ∀ f (m : Int32), ¬ m ≤ nI q → L_X6_pour_40 (nI a) x (nI c) y m (f + 1) (nI q) w = some (nI q, w)) ∨ ∃ (t' : Nat → Int32) (n' w' : Nat → Int64), f_X0_copyCell k z t n (nI a) (x + nI q) (nI c) (y + nI q) = some (1, t', n') ∧ (∀ f (m : Int32), ¬ m ≤ nI q → L_X6_pour_40 (nI a) x (nI c) y m (f + 1) (nI q) w = L_X6_pour_40 (nI a) x (nI c) y m f (nI (q + 1)) w') ∧ WFu (k, z, t', n', g, ks, kb, kw, kc, ss, hs, hn) ∧ RBu (k, z, t', n', g, ks, kb, kw, kc, ss, hs, hn) w' 0 ∧ ∀ j, 180 ≤ j → w' j = w j := by
  obtain ⟨κa, hκa, eka⟩ := kin hW ha
  obtain ⟨κc, hκc, ekc⟩ := kin hW hc
  have hwr := whyRead_n hW ha hκa eka (show 8 < 9 by omega) (x + nI q)
  unfold f_X0_copyCell
  rw [show (8 : Int32) = nI 8 from rfl, hwr]
  by_cases h0 : rea k z a (x + nI q) = 0
  · obtain ⟨h11, i, hi, _, ei⟩ := rea_0 hW ha h0
    rw [eka, nI_toInt (by omega)] at h11
    have hcr : crb κa 8 = true := by unfold crb; rw [if_pos rfl]; exact decide_eq_true (by omega)
    have hl := (reaC hW ha x hq).mp h0
    obtain ⟨hok, _⟩ := wf2 hW ha hi
    obtain ⟨b, hb0, eb⟩ := sortN hok
    have hwp := whyPut_n hW hc hκc ekc hb0 (y + nI q) (n (12 * a + i)) 0
    rw [if_pos h0, if_pos hcr, ei, sortAt_n ha hi, numberAt_n ha hi, eb]
    simp only [Option.bind_some, if_true, hwp]
    by_cases h0c : rea k z c (y + nI q) = 0
    · obtain ⟨h11c, j, hj, _, ej⟩ := rea_0 hW hc h0c
      rw [ekc, nI_toInt (by omega)] at h11c
      have hlc := (reaC hW hc y hq).mp h0c
      have htk := takes_n hB hc (by omega) ekc hb0 (n (12 * a + i))
      rw [eb] at hok
      simp only [if_pos h0c]
      cases ht : tk κc b (decide (4 ≤ (n (12 * a + i)).toInt))
      · have hw4 : whyP κc b (n (12 * a + i)) 0 = 4 := by
          unfold whyP
          rw [if_neg (fun q => by rw [ht] at q; exact Bool.noConfusion q.1)]
        have e40 : ¬ (4 : Int32) = 0 := by decide
        rw [hw4]
        simp only [if_neg e40]
        refine Or.inl ⟨trivial, fun f m hm => ?_⟩
        rw [L_X6_pour_40, if_neg hm, lacksL hW hB ha, lacksL hW hB hc, hl, hlc, ei, sortM_n hB ha hi, atM_n, eb]
        simp only [Option.bind_some, if_true, (numM_s hB ha hi).1, (numM_s hB ha hi).2, htk, ht, if_pos bI_f]
      · have hw0 : whyP κc b (n (12 * a + i)) 0 = 0 := by
          unfold whyP
          rw [if_pos ⟨ht, Or.inr rfl⟩]
        have hbt : ¬ bI true = 0 := by decide
        obtain ⟨a', v', g1, g2, g3, g4⟩ := store_s hW hB hc hj (by omega) ekc hb0 hok ht
        rw [hw0, ej, g1]
        simp only [if_true, Option.bind_some]
        refine Or.inr ⟨_, _, _, rfl, fun f m hm => ?_, setCW hW hc hj g3 g4, setCB hB (by omega) a' v', fun l hl' => by rw [pk_uLn (by omega), pk_uLn (by omega)]⟩
        rw [L_X6_pour_40, if_neg hm, lacksL hW hB ha, lacksL hW hB hc, hl, hlc, ei, sortM_n hB ha hi, atM_n, eb, ej]
        simp only [Option.bind_some, if_true, (numM_s hB ha hi).1, (numM_s hB ha hi).2, htk, ht, if_neg hbt, g2, nI_1]
    · simp only [if_neg h0c]
      refine Or.inl ⟨trivial, fun f m hm => ?_⟩
      have hlc : ¬ reaL k z c ((Int32.toInt64 y) + (Int32.toInt64 (nI q))).toInt = 0 := fun e => h0c ((reaC hW hc y hq).mpr e)
      rw [L_X6_pour_40, if_neg hm, lacksL hW hB ha, lacksL hW hB hc, hl]
      simp only [Option.bind_some, if_true, if_neg hlc]
  · rw [if_neg h0]
    simp only [Option.bind_some, if_neg h0]
    refine Or.inl ⟨trivial, fun f m hm => ?_⟩
    have hla : ¬ reaL k z a ((Int32.toInt64 x) + (Int32.toInt64 (nI q))).toInt = 0 := fun e => h0 ((reaC hW ha x hq).mpr e)
    rw [L_X6_pour_40, if_neg hm, lacksL hW hB ha]
    simp only [Option.bind_some, if_neg hla]
end PR1
theorem sim_pour {b_kinds : Nat → Int32} {b_sizes : Nat → Int32} {b_sorts : Nat → Int32} {b_numbers : Nat → Int64} {b_weights : Nat → Int32} {b_keySlots : Nat → Int32} {b_keyBys : Nat → Int32} {b_keyWays : Nat → Int32} {b_keyCount : Int32} {b_sheetSet : Int32} {b_handSort : Int32} {b_handNumber : Int64} {x_imageRandoms : Nat → Int32} {x_random : Int32} {h_next : Int32} {h_count : Int32} {k_places : Nat → Int32} {k_positions : Nat → Int32} {k_count : Int32} {w_w : Nat → Int64} {w_imageSeed : Nat → Int32} {w_isKept : Nat → Int32} {w_undos : Int32} {w_seed : Int32} {w_entries : Int32} {w_bookPlace : Nat → Int32} {w_bookPosition : Nat → Int32} {P_hs : HT} (hR : Rel (b_kinds, b_sizes, b_sorts, b_numbers, b_weights, b_keySlots, b_keyBys, b_keyWays, b_keyCount, b_sheetSet, b_handSort, b_handNumber) x_imageRandoms x_random h_next h_count P_hs k_places k_positions k_count w_w w_imageSeed w_isKept w_undos w_seed w_entries w_bookPlace w_bookPosition) (x1 : Int32) (x2 : Int32) (x3 : Int32) (x4 : Int32) (x5 : Int32) : ∃ (zc : Int32 × (Nat → Int32) × (Nat → Int64) × Int32 × Int32 × HT) (zm : Int32 × (Nat → Int64) × Int32), f_X5_pour b_kinds b_sizes b_sorts b_numbers b_weights b_keySlots b_keyBys b_keyWays b_keyCount b_sheetSet b_handSort b_handNumber h_next h_count P_hs x1 x2 x3 x4 x5 = some zc ∧ f_X6_pour w_w w_undos x1 x2 x3 x4 x5 = some zm ∧ zc.1 = zm.1 ∧ Rel (b_kinds, b_sizes, zc.2.1, zc.2.2.1, b_weights, b_keySlots, b_keyBys, b_keyWays, b_keyCount, b_sheetSet, b_handSort, b_handNumber) x_imageRandoms x_random zc.2.2.2.1 zc.2.2.2.2.1 zc.2.2.2.2.2 k_places k_positions k_count zm.2.1 w_imageSeed w_isKept zm.2.2 w_seed w_entries w_bookPlace w_bookPosition := by
  have hR0 := hR
  obtain ⟨hW, hB, hH, hI, hS, hK⟩ := hR
  unfold f_X5_pour f_X6_pour
  rcases slotC x1 with ⟨h1, h2⟩ | ⟨a, ha, rfl, h1, h2⟩
  · rw [h1, h2]; exact ⟨_, _, rfl, rfl, rfl, hR0⟩
  rcases slotC x3 with ⟨h3, h4⟩ | ⟨c, hc, rfl, h3, h4⟩
  · rw [h1, h2, h3, h4]; exact ⟨_, _, rfl, rfl, rfl, hR0⟩
  rcases inC x5 0 12 0 12 rfl rfl with ⟨h6, h7, _⟩ | ⟨h6, h7, h8⟩
  · rw [h1, h2, h3, h4, h6, h7]; exact ⟨_, _, rfl, rfl, rfl, hR0⟩
  obtain ⟨m, hm, rfl⟩ := inN (N := 13) h8.1 (by have := h8.2; have e9 : (12 : Int32).toInt = 12 := rfl; omega)
  obtain ⟨nx', ct', hs', w', un', e1, e2, hB', hH', hI'⟩ := remember_s hW hB hH hI
  have key : ∃ r p, L_X5_pour_45 b_kinds b_sizes (nI a) x2 (nI c) x4 (nI m) 4000 (nI 0) b_sorts b_numbers = some r ∧ L_X6_pour_40 (nI a) x2 (nI c) x4 (nI m) 4000 (nI 0) w' = some p ∧ (r.1 = p.1 ∧ WFu (b_kinds, b_sizes, r.2.1, r.2.2, b_weights, b_keySlots, b_keyBys, b_keyWays, b_keyCount, b_sheetSet, b_handSort, b_handNumber) ∧ RBu (b_kinds, b_sizes, r.2.1, r.2.2, b_weights, b_keySlots, b_keyBys, b_keyWays, b_keyCount, b_sheetSet, b_handSort, b_handNumber) p.2 0 ∧ ∀ j, 180 ≤ j → p.2 j = w' j) := by
    refine lock (fun f q (s : (Nat → Int32) × (Nat → Int64)) => L_X5_pour_45 b_kinds b_sizes (nI a) x2 (nI c) x4 (nI m) f (nI q) s.1 s.2) (fun f q (v : Nat → Int64) => L_X6_pour_40 (nI a) x2 (nI c) x4 (nI m) f (nI q) v) (fun q r p => WFu (b_kinds, b_sizes, r.1, r.2, b_weights, b_keySlots, b_keyBys, b_keyWays, b_keyCount, b_sheetSet, b_handSort, b_handNumber) ∧ RBu (b_kinds, b_sizes, r.1, r.2, b_weights, b_keySlots, b_keyBys, b_keyWays, b_keyCount, b_sheetSet, b_handSort, b_handNumber) p 0 ∧ ∀ j, 180 ≤ j → p j = w' j) _ m ?_ ?_ m 0 4000 4000 (b_sorts, b_numbers) w' (by omega) (by omega) (by omega) ⟨hW, hB', fun _ _ => rfl⟩
    · rintro f g' ⟨t1, n1⟩ v ⟨q1, q2, q3⟩
      refine ⟨(nI m, t1, n1), (nI m, v), ?_, ?_, rfl, q1, q2, q3⟩
      · show L_X5_pour_45 b_kinds b_sizes (nI a) x2 (nI c) x4 (nI m) (f + 1) (nI m) t1 n1 = _
        rw [L_X5_pour_45, if_pos (nI_le (by omega) (by omega))]
      · show L_X6_pour_40 (nI a) x2 (nI c) x4 (nI m) (g' + 1) (nI m) v = _
        rw [L_X6_pour_40, if_pos (nI_le (by omega) (by omega))]
    · rintro f g' q ⟨t1, n1⟩ v hq ⟨q1, q2, q3⟩
      have hge : ¬ nI m ≤ nI q := nI_ge hq (by omega)
      show (∃ (s' : (Nat → Int32) × (Nat → Int64)) (v' : Nat → Int64), _ ∧ L_X5_pour_45 b_kinds b_sizes (nI a) x2 (nI c) x4 (nI m) (f + 1) (nI q) t1 n1 = L_X5_pour_45 b_kinds b_sizes (nI a) x2 (nI c) x4 (nI m) f (nI (q + 1)) s'.1 s'.2 ∧ L_X6_pour_40 (nI a) x2 (nI c) x4 (nI m) (g' + 1) (nI q) v = L_X6_pour_40 (nI a) x2 (nI c) x4 (nI m) g' (nI (q + 1)) v') ∨ (∃ r p, L_X5_pour_45 b_kinds b_sizes (nI a) x2 (nI c) x4 (nI m) (f + 1) (nI q) t1 n1 = some r ∧ L_X6_pour_40 (nI a) x2 (nI c) x4 (nI m) (g' + 1) (nI q) v = some p ∧ _)
      rcases copyC q1 q2 ha hc (show q < 12 by omega) x2 x4 with ⟨g1, g2⟩ | ⟨t', n', v', g1, g2, g3, g4, g5⟩
      · refine Or.inr ⟨(nI q, t1, n1), (nI q, v), ?_, g2 g' _ hge, rfl, q1, q2, q3⟩
        rw [L_X5_pour_45, if_neg hge, g1]
        rfl
      · refine Or.inl ⟨(t', n'), v', ⟨g3, g4, fun j hj => by rw [g5 j hj, q3 j hj]⟩, ?_, g2 g' _ hge⟩
        rw [L_X5_pour_45, if_neg hge, g1]
        simp only [Option.bind_some, if_neg z10, nI_1]
  obtain ⟨r, p, g1, g2, g3, g4, g5, g6⟩ := key
  rw [h1, h2, h3, h4, h6, h7, e1, e2]
  simp only [Option.bind_some, if_neg z10]
  rw [show L_X5_pour_45 b_kinds b_sizes (nI a) x2 (nI c) x4 (nI m) 4000 0 b_sorts b_numbers = _ from g1, show L_X6_pour_40 (nI a) x2 (nI c) x4 (nI m) 4000 0 w' = _ from g2]
  exact ⟨_, _, rfl, rfl, g3, relD g4 g5 g6 hH' hI' hS hK⟩
