/-! the first explanation; the first wrong entry; told, write -/
section XQ1
variable {k z t g ks kb kw : Nat → Int32} {n : Nat → Int64} {kc ss hs : Int32} {hn : Int64} {w : Nat → Int64}
theorem exM (hB : RBu (k, z, t, n, g, ks, kb, kw, kc, ss, hs, hn) w 0) {s b y : Nat} (hs : s < 6) (hb0 : b < 9) (hy : y < 2) (f : Nat) : L_X6_explained_2 w (f + 1) (nI (18 * s + 2 * b + y)) = ((f_X6_isRising w (nI s) (nI b) (nI y)).bind (fun z6 => if z6 = 0 then L_X6_explained_2 w f (nI (18 * s + 2 * b + y + 1)) else (some (.inr (nI (18 * s + 2 * b + y)))))) := by
  have e18 : (18 : Int32) = nI 18 := rfl
  have e9 : (9 : Int32) = nI 9 := rfl
  have h108 : ¬ (108 : Int32) ≤ nI (18 * s + 2 * b + y) := show ¬ nI 108 ≤ nI (18 * s + 2 * b + y) from nI_ge (by omega) (by omega)
  rw [L_X6_explained_2, if_neg h108, e18, n2, e9, pk_div (by omega) (by omega) (by omega), pk_div (by omega) (by omega) (by omega), pk_rem (by omega) (by omega) (by omega)]
  have r2 : nI (18 * s + 2 * b + y) - nI ((18 * s + 2 * b + y) / 2) * nI 2 = nI ((18 * s + 2 * b + y) % 2) := by
    rw [← pk_rem (by omega) (by omega) (by omega), pk_div (by omega) (by omega) (by omega)]
  rw [r2, show (18 * s + 2 * b + y) / 18 = s by omega, show (18 * s + 2 * b + y) / 2 % 9 = b by omega, show (18 * s + 2 * b + y) % 2 = y by omega, nI_1]
  rfl
/-- both go on, or both stop with one answer -/
def GoOn (c : Option (Unit ⊕ Int32)) (r r' : Option (Unit ⊕ Int32)) : Prop := (c = some (.inl ()) ∧ r = r') ∨ ∃ v, c = some (.inr v) ∧ r = some (.inr v)
theorem exA (hW : WFu (k, z, t, n, g, ks, kb, kw, kc, ss, hs, hn)) (hB : RBu (k, z, t, n, g, ks, kb, kw, kc, ss, hs, hn) w 0) {s b : Nat} (hs : s < 6) (hb0 : b < 9) (f : Nat) : GoOn (L_X0_explanation_18 k z t n g (nI s) (nI b) 4000 0) (L_X6_explained_2 w (f + 2) (nI (18 * s + 2 * b))) (L_X6_explained_2 w f (nI (18 * s + 2 * (b + 1)))) := by
  have e18 : (18 : Int32) = nI 18 := rfl
  obtain ⟨v0, a0, b0⟩ := expl_s hW hB hs hb0 (show 0 < 2 by omega)
  obtain ⟨v1, a1, b1⟩ := expl_s hW hB hs hb0 (show 1 < 2 by omega)
  have m0 := exM hB hs hb0 (show 0 < 2 by omega) (f + 1)
  have m1 := exM hB hs hb0 (show 1 < 2 by omega) f
  rw [show 18 * s + 2 * b + 0 = 18 * s + 2 * b from rfl, b0, Option.bind_some] at m0
  rw [b1, Option.bind_some] at m1
  have c0 : ¬ (1 : Int32) < nI 0 := by decide
  have c1 : ¬ (1 : Int32) < nI 1 := by decide
  have c2 : (1 : Int32) < nI 2 := by decide
  have go : ∀ F, L_X0_explanation_18 k z t n g (nI s) (nI b) (F + 1 + 1 + 1) (nI 0) = (if bI v0 = 0 then (if bI v1 = 0 then some (.inl ()) else some (.inr (nI (18 * s + 2 * b + 1)))) else some (.inr (nI (18 * s + 2 * b)))) := by
    intro F
    rw [L_X0_explanation_18, if_neg c0, a0, Option.bind_some]
    by_cases h0 : bI v0 = 0
    · rw [if_pos h0, if_pos h0, Option.bind_some, nI_1, Nat.zero_add, L_X0_explanation_18, if_neg c1, a1, Option.bind_some]
      by_cases h1 : bI v1 = 0
      · rw [if_pos h1, if_pos h1, Option.bind_some, nI_1, L_X0_explanation_18, if_pos c2]
      · rw [if_neg h1, if_neg h1, e18, n2, pk_mul, pk_mul, nI_add, nI_add]
    · rw [if_neg h0, if_neg h0, e18, n2, pk_mul, pk_mul, nI_add, nI_add, Nat.add_zero]
  have g1 := go 3997
  unfold GoOn
  rw [show L_X0_explanation_18 k z t n g (nI s) (nI b) 4000 0 = _ from g1, show f + 2 = f + 1 + 1 from rfl, m0]
  by_cases h0 : bI v0 = 0
  · rw [if_pos h0, if_pos h0, m1]
    by_cases h1 : bI v1 = 0
    · rw [if_pos h1, if_pos h1]
      exact Or.inl ⟨rfl, by rw [show 18 * s + 2 * b + 1 + 1 = 18 * s + 2 * (b + 1) by omega]⟩
    · rw [if_neg h1, if_neg h1]
      exact Or.inr ⟨_, rfl, rfl⟩
  · rw [if_neg h0, if_neg h0]
    exact Or.inr ⟨_, rfl, rfl⟩
theorem exB (hW : WFu (k, z, t, n, g, ks, kb, kw, kc, ss, hs, hn)) (hB : RBu (k, z, t, n, g, ks, kb, kw, kc, ss, hs, hn) w 0) {s : Nat} (hs : s < 6) : ∀ d b F f, b + d = 9 → d < F → GoOn (L_X0_explanation_10 k z t n g (nI s) F (nI b)) (L_X6_explained_2 w (f + 2 * d) (nI (18 * s + 2 * b))) (L_X6_explained_2 w f (nI (18 * (s + 1)))) := by
  intro d
  induction d with
  | zero =>
    intro b F f hb0 hF
    obtain ⟨F, rfl⟩ : ∃ h, F = h + 1 := ⟨F - 1, by omega⟩
    refine Or.inl ⟨?_, ?_⟩
    · rw [L_X0_explanation_10, show (8 : Int32) = nI 8 from rfl, if_pos (nI_lt (by omega) (by omega))]
    · rw [show f + 2 * 0 = f by omega, show 18 * s + 2 * b = 18 * (s + 1) by omega]
  | succ d ih =>
    intro b F f hb0 hF
    obtain ⟨F, rfl⟩ : ∃ h, F = h + 1 := ⟨F - 1, by omega⟩
    have h8 : ¬ (8 : Int32) < nI b := show ¬ nI 8 < nI b from nI_nlt (by omega) (by omega)
    have hA := exA hW hB hs (show b < 9 by omega) (f + 2 * d)
    rw [show f + 2 * (d + 1) = f + 2 * d + 2 by omega, L_X0_explanation_10, if_neg h8]
    rcases hA with ⟨h1, h2⟩ | ⟨v, h1, h2⟩
    · rw [h1, h2]
      show GoOn (L_X0_explanation_10 k z t n g (nI s) F (nI b + 1)) _ _
      rw [nI_1]
      exact ih (b + 1) F f (by omega) (by omega)
    · rw [h1, h2]
      exact Or.inr ⟨v, rfl, rfl⟩
theorem exC (hW : WFu (k, z, t, n, g, ks, kb, kw, kc, ss, hs, hn)) (hB : RBu (k, z, t, n, g, ks, kb, kw, kc, ss, hs, hn) w 0) : ∀ d s F f, s + d = 6 → d < F → GoOn (L_X0_explanation_2 k z t n g F (nI s)) (L_X6_explained_2 w (f + 18 * d) (nI (18 * s))) (L_X6_explained_2 w f (nI 108)) := by
  intro d
  induction d with
  | zero =>
    intro s F f hs hF
    obtain ⟨F, rfl⟩ : ∃ h, F = h + 1 := ⟨F - 1, by omega⟩
    refine Or.inl ⟨?_, ?_⟩
    · rw [L_X0_explanation_2, n6, if_pos (nI_le (by omega) (by omega))]
    · rw [show f + 18 * 0 = f by omega, show 18 * s = 108 by omega]
  | succ d ih =>
    intro s F f hs hF
    obtain ⟨F, rfl⟩ : ∃ h, F = h + 1 := ⟨F - 1, by omega⟩
    have hA := exB hW hB (show s < 6 by omega) 9 0 4000 (f + 18 * d) (by omega) (by omega)
    rw [show f + 18 * (d + 1) = f + 18 * d + 2 * 9 by omega, L_X0_explanation_2, n6, if_neg (nI_ge (by omega) (by omega)), show 18 * s = 18 * s + 2 * 0 by omega, n0]
    rcases hA with ⟨h1, h2⟩ | ⟨v, h1, h2⟩
    · rw [h1, h2]
      show GoOn (L_X0_explanation_2 k z t n g F (nI s + 1)) _ _
      rw [nI_1]
      exact ih (s + 1) F f (by omega) (by omega)
    · rw [h1, h2]
      exact Or.inr ⟨v, rfl, rfl⟩
theorem expl2_s (hW : WFu (k, z, t, n, g, ks, kb, kw, kc, ss, hs, hn)) (hB : RBu (k, z, t, n, g, ks, kb, kw, kc, ss, hs, hn) w 0) : ∃ v, f_X0_explanation k z t n g = some v ∧ f_X6_explained w = some v := by
  have h := exC hW hB 6 0 4000 3892 (by omega) (by omega)
  have h108 : L_X6_explained_2 w (3891 + 1) (nI 108) = some (.inl ()) := by
    rw [L_X6_explained_2, if_pos (show (108 : Int32) ≤ nI 108 by decide)]
  unfold f_X0_explanation f_X6_explained
  rcases h with ⟨h1, h2⟩ | ⟨v, h1, h2⟩
  · rw [show L_X0_explanation_2 k z t n g 4000 0 = _ from h1, show L_X6_explained_2 w 4000 0 = _ from h2, show L_X6_explained_2 w 3892 (nI 108) = _ from h108]
    exact ⟨_, rfl, rfl⟩
  · rw [show L_X0_explanation_2 k z t n g 4000 0 = _ from h1, show L_X6_explained_2 w 4000 0 = _ from h2]
    exact ⟨_, rfl, rfl⟩
end XQ1
section BK1
variable {V : Nat → Int} {m : Nat} {po : Nat → Int32} {w : Nat → Int64} {kp kq bp bq : Nat → Int32} {kct en : Int32}
theorem wrong_s (hm : m ≤ 12) (hp' : PO V m po) (hy : BY w 15 V m) (hK : RelB kp kq kct en bp bq) (hP : f_X6_places w = some (nI m)) : ∃ v, f_X1_firstWrong kp kq kct po (nI m) = some v ∧ f_X6_wrong w en bp bq = some v := by
  obtain ⟨hc, N, hN, eN, hall⟩ := hK
  have key : ∃ r q, L_X1_firstWrong_2 kp kq kct po (nI m) 4000 (nI 0) = some r ∧ L_X6_wrong_7 w en bp bq (nI m) 4000 (nI 0) = some q ∧ r = q := by
    refine lock (fun f q (_ : Unit) => L_X1_firstWrong_2 kp kq kct po (nI m) f (nI q)) (fun f q (_ : Unit) => L_X6_wrong_7 w en bp bq (nI m) f (nI q)) (fun _ _ _ => True) (fun r q => r = q) N ?_ ?_ N 0 4000 4000 () () (by omega) (by omega) (by omega) trivial
    · intro f g _ _ _
      show ∃ r q, L_X1_firstWrong_2 kp kq kct po (nI m) (f + 1) (nI N) = some r ∧ L_X6_wrong_7 w en bp bq (nI m) (g + 1) (nI N) = some q ∧ r = q
      rw [L_X1_firstWrong_2, L_X6_wrong_7, hc, eN, if_pos (nI_le (by omega) (by omega)), if_pos (nI_le (by omega) (by omega))]
      exact ⟨_, _, rfl, rfl, rfl⟩
    · intro f g q _ _ hq _
      show (∃ (_ _ : Unit), _ ∧ L_X1_firstWrong_2 kp kq kct po (nI m) (f + 1) (nI q) = L_X1_firstWrong_2 kp kq kct po (nI m) f (nI (q + 1)) ∧ L_X6_wrong_7 w en bp bq (nI m) (g + 1) (nI q) = L_X6_wrong_7 w en bp bq (nI m) g (nI (q + 1))) ∨ (∃ r p, L_X1_firstWrong_2 kp kq kct po (nI m) (f + 1) (nI q) = some r ∧ L_X6_wrong_7 w en bp bq (nI m) (g + 1) (nI q) = some p ∧ r = p)
      obtain ⟨e1, e2, a, ha, e3⟩ := hall q hq
      have hge : ¬ nI N ≤ nI q := nI_ge hq (by omega)
      have h20 : ¬ (20 : Int32) ≤ nI q := show ¬ nI 20 ≤ nI q from nI_ge (by omega) (by omega)
      rw [L_X1_firstWrong_2, L_X6_wrong_7, hc, eN, if_neg hge, if_neg hge, if_neg h20]
      simp only [ib_n (show q < 20 by omega) (show 20 < 2 ^ 31 by omega), nI_clamp (show q < 2 ^ 31 by omega), if_true, e1, e2, e3]
      by_cases ham : a < m
      · rw [isPl_n hm ham, posOf_s hm ham (hp' a ham), position_s hm hy ham, if_neg (nI_ge ham (by omega))]
        simp only [Option.bind_some, if_neg z10, nI_1]
        by_cases hz : nI (ps V m a) = kq q
        · rw [if_pos hz, if_pos hz]
          exact Or.inl ⟨(), (), trivial, rfl, rfl⟩
        · rw [if_neg hz, if_neg hz]
          exact Or.inr ⟨_, _, rfl, rfl, rfl⟩
      · rw [isPl_s, nI_toInt (by omega), nI_toInt (by omega), if_neg (by omega), Option.bind_some, if_pos rfl, if_pos (nI_le (by omega) (by omega))]
        exact Or.inr ⟨_, _, rfl, rfl, rfl⟩
  obtain ⟨r, q, e1, e2, rfl⟩ := key
  unfold f_X1_firstWrong f_X6_wrong
  rw [show (L_X1_firstWrong_2 kp kq kct po (nI m) 4000 0) = _ from e1, hP]
  simp only [Option.bind_some]
  rw [show (L_X6_wrong_7 w en bp bq (nI m) 4000 0) = _ from e2]
  cases r with
  | inl a => exact ⟨_, rfl, rfl⟩
  | inr a => exact ⟨_, rfl, rfl⟩
theorem wrong_no (hK : RelB kp kq kct en bp bq) (hP : f_X6_places w = some (-1)) : ∃ v, f_X1_firstWrong kp kq kct po (-1) = some v ∧ f_X6_wrong w en bp bq = some v := by
  obtain ⟨hc, N, hN, eN, hall⟩ := hK
  unfold f_X1_firstWrong f_X6_wrong
  rw [hP, Option.bind_some, n0]
  by_cases h0 : N = 0
  · subst h0
    rw [L_X1_firstWrong_2, L_X6_wrong_7, hc, eN, if_pos (nI_le (by omega) (by omega)), if_pos (nI_le (by omega) (by omega))]
    exact ⟨_, rfl, rfl⟩
  · obtain ⟨e1, e2, a, ha, e3⟩ := hall 0 (by omega)
    have hge : ¬ nI N ≤ nI 0 := nI_ge (by omega) (by omega)
    have h20 : ¬ (20 : Int32) ≤ nI 0 := by decide
    rw [L_X1_firstWrong_2, L_X6_wrong_7, hc, eN, if_neg hge, if_neg hge, if_neg h20]
    simp only [ib_n (show 0 < 20 by omega) (show 20 < 2 ^ 31 by omega), nI_clamp (show 0 < 2 ^ 31 by omega), if_true, e1, e3]
    have hle : (-1 : Int32) ≤ nI a := by
      rw [le32, nI_toInt (by omega), show (-1 : Int32).toInt = -1 from rfl]; omega
    rw [isPl_s, nI_toInt (by omega), show (-1 : Int32).toInt = -1 from rfl, if_neg (by omega), Option.bind_some, if_pos rfl, if_pos hle]
    exact ⟨_, rfl, rfl⟩
end BK1
theorem sim_write {b_kinds : Nat → Int32} {b_sizes : Nat → Int32} {b_sorts : Nat → Int32} {b_numbers : Nat → Int64} {b_weights : Nat → Int32} {b_keySlots : Nat → Int32} {b_keyBys : Nat → Int32} {b_keyWays : Nat → Int32} {b_keyCount : Int32} {b_sheetSet : Int32} {b_handSort : Int32} {b_handNumber : Int64} {x_imageRandoms : Nat → Int32} {x_random : Int32} {h_next : Int32} {h_count : Int32} {k_places : Nat → Int32} {k_positions : Nat → Int32} {k_count : Int32} {w_w : Nat → Int64} {w_imageSeed : Nat → Int32} {w_isKept : Nat → Int32} {w_undos : Int32} {w_seed : Int32} {w_entries : Int32} {w_bookPlace : Nat → Int32} {w_bookPosition : Nat → Int32} {P_hs : HT} (hR : Rel (b_kinds, b_sizes, b_sorts, b_numbers, b_weights, b_keySlots, b_keyBys, b_keyWays, b_keyCount, b_sheetSet, b_handSort, b_handNumber) x_imageRandoms x_random h_next h_count P_hs k_places k_positions k_count w_w w_imageSeed w_isKept w_undos w_seed w_entries w_bookPlace w_bookPosition) (x1 : Int32) (x2 : Int32) : ∃ (zc : Int32 × (Nat → Int32) × (Nat → Int32) × Int32) (zm : Int32 × Int32 × (Nat → Int32) × (Nat → Int32)), f_X5_write b_kinds b_sizes b_keySlots b_keyBys b_keyCount b_sheetSet k_places k_positions k_count x1 x2 = some zc ∧ f_X6_write w_w w_entries w_bookPlace w_bookPosition x1 x2 = some zm ∧ zc.1 = zm.1 ∧ Rel (b_kinds, b_sizes, b_sorts, b_numbers, b_weights, b_keySlots, b_keyBys, b_keyWays, b_keyCount, b_sheetSet, b_handSort, b_handNumber) x_imageRandoms x_random h_next h_count P_hs zc.2.1 zc.2.2.1 zc.2.2.2 w_w w_imageSeed w_isKept w_undos w_seed zm.2.1 zm.2.2.1 zm.2.2.2 := by
  have hW := hR.1
  have hB := hR.2.1
  obtain ⟨_, _, hH, hI, hS, hK⟩ := hR
  have hK0 := hK
  obtain ⟨hc, N, hN, eN, hall⟩ := hK
  unfold f_X5_write f_X6_write
  rcases ord_s hW hB with ⟨e1, e2⟩ | ⟨m, hm, hF, e1, e2, hC, hY⟩
  · obtain ⟨h1, h2, _⟩ := plN e2 x1
    rw [e1, h2, Option.bind_some, h1]
    exact ⟨_, _, rfl, rfl, rfl, hW, hB, hH, hI, hS, hK0⟩
  rw [e1, Option.bind_some]
  rcases plC hm e2 x1 with ⟨h1, h2, _⟩ | ⟨a, ha, rfl, h1, h2, _⟩
  · rw [h1, h2]
    exact ⟨_, _, rfl, rfl, rfl, hW, hB, hH, hI, hS, hK0⟩
  rw [h1, h2, Option.bind_some, Option.bind_some, if_neg z10, if_neg z10]
  by_cases h20 : N = 20
  · subst h20
    have e20 : w_entries = 20 := eN
    have k20 : ¬ k_count < 20 := by rw [hc, e20]; decide
    rw [if_neg k20, if_pos e20]
    exact ⟨_, _, rfl, rfl, rfl, hW, hB, hH, hI, hS, hK0⟩
  · have l20 : k_count < (20 : Int32) := by rw [hc, eN]; exact (show nI N < nI 20 from nI_lt (by omega) (by omega))
    have n20 : ¬ w_entries = (20 : Int32) := by rw [eN, show (20 : Int32) = nI 20 from rfl, nI_eq (by omega) (by omega)]; exact h20
    have g20 : ¬ (20 : Int32) ≤ k_count := by rw [hc, eN]; exact (show ¬ nI 20 ≤ nI N from nI_ge (by omega) (by omega))
    have k0 : ¬ k_count < 0 := by rw [hc, eN]; exact nI_pos (by omega)
    have ib1 : ib k_count 20 = true := by rw [hc, eN]; exact ib_n (by omega) (by omega)
    have ib2 : ib w_entries 20 = true := by rw [eN]; exact ib_n (by omega) (by omega)
    have c1 : k_count.toNatClampNeg = N := by rw [hc, eN]; exact nI_clamp (by omega)
    have c2 : w_entries.toNatClampNeg = N := by rw [eN]; exact nI_clamp (by omega)
    rw [if_pos l20, if_neg n20]
    unfold f_X1_add
    simp only [if_neg k0, if_neg g20, ib1, ib2, c1, c2, if_true, Option.bind_some]
    refine ⟨_, _, rfl, rfl, ?_, hW, hB, hH, hI, hS, ?_, N + 1, by omega, ?_, ?_⟩
    · show k_count + 1 = w_entries + 1
      rw [hc]
    · show k_count + 1 = w_entries + 1
      rw [hc]
    · show w_entries + 1 = nI (N + 1)
      rw [eN, nI_1]
    intro j hj
    show upd w_bookPlace N (nI a) j = upd k_places N (nI a) j ∧ upd w_bookPosition N x2 j = upd k_positions N x2 j ∧ ∃ b, b < 12 ∧ upd k_places N (nI a) j = nI b
    by_cases e : j = N
    · subst e
      exact ⟨by rw [pk_us, pk_us], by rw [pk_us, pk_us], a, by omega, pk_us⟩
    · obtain ⟨q1, q2, q3⟩ := hall j (by omega)
      rw [pk_un e, pk_un e, pk_un e, pk_un e]
      exact ⟨q1, q2, q3⟩
