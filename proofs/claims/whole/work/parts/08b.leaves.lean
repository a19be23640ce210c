/-! leaves of both, over a bench and the row of longs -/
/-- why a cell isn't there -/
def rea (k z : Nat → Int32) (s : Nat) (x : Int32) : Int32 := if k s = 14 then 1 else if 11 < (k s).toInt then 2 else if 0 ≤ x.toInt ∧ x.toInt < (z s).toInt then 0 else 3
section LV1
variable {k z t g ks kb kw : Nat → Int32} {n : Nat → Int64} {kc ss hs : Int32} {hn : Int64} {w : Nat → Int64}
theorem wf1 (hW : WFu (k, z, t, n, g, ks, kb, kw, kc, ss, hs, hn)) {s : Nat} (h : s < 6) : 0 ≤ (k s).toInt ∧ (k s).toInt ≤ 14 ∧ 0 ≤ (z s).toInt ∧ (z s).toInt ≤ 12 ∧ (11 < (k s).toInt → z s = 0) := hW.1 s h
theorem wf2 (hW : WFu (k, z, t, n, g, ks, kb, kw, kc, ss, hs, hn)) {s i : Nat} (h : s < 6) (hi : i < 12) : okV (t (12 * s + i)) (n (12 * s + i)) ∧ ((k s).toInt ≤ 7 → t (12 * s + i) = k s) := hW.2.1 s i h hi
theorem wf3 (hW : WFu (k, z, t, n, g, ks, kb, kw, kc, ss, hs, hn)) {i : Nat} (h : i < 8) : -1000 ≤ (g i).toInt ∧ (g i).toInt ≤ 1000 := hW.2.2.1 i h
theorem wf4 (hW : WFu (k, z, t, n, g, ks, kb, kw, kc, ss, hs, hn)) {i : Nat} (h : i < 4) : 0 ≤ (ks i).toInt ∧ (ks i).toInt ≤ 5 ∧ 0 ≤ (kb i).toInt ∧ (kb i).toInt ≤ 8 ∧ 0 ≤ (kw i).toInt ∧ (kw i).toInt ≤ 1 := hW.2.2.2.1 i h
theorem wf5 (hW : WFu (k, z, t, n, g, ks, kb, kw, kc, ss, hs, hn)) : 0 ≤ kc.toInt ∧ kc.toInt ≤ 4 := hW.2.2.2.2.1
theorem wf6 (hW : WFu (k, z, t, n, g, ks, kb, kw, kc, ss, hs, hn)) : 0 ≤ ss.toInt ∧ ss.toInt ≤ 63 := hW.2.2.2.2.2.1
theorem wf7 (hW : WFu (k, z, t, n, g, ks, kb, kw, kc, ss, hs, hn)) : okV hs hn := hW.2.2.2.2.2.2
theorem rb1 (hB : RBu (k, z, t, n, g, ks, kb, kw, kc, ss, hs, hn) w 0) {s : Nat} (h : s < 6) : w s = (k s).toInt64 ∧ ((k s).toInt ≤ 11 → w (6 + s) = (z s).toInt64) := by
  have := hB.1 s h
  rw [Nat.zero_add, Nat.zero_add] at this
  exact this
theorem rb2 (hB : RBu (k, z, t, n, g, ks, kb, kw, kc, ss, hs, hn) w 0) {c : Nat} (h : c < 72) : w (12 + c) = (t c).toInt64 ∧ w (84 + c) = n c := by
  have := hB.2.1 c h
  rw [Nat.zero_add, Nat.zero_add] at this
  exact this
theorem rb3 (hB : RBu (k, z, t, n, g, ks, kb, kw, kc, ss, hs, hn) w 0) : w 156 = kc.toInt64 := hB.2.2.1
theorem rb4 (hB : RBu (k, z, t, n, g, ks, kb, kw, kc, ss, hs, hn) w 0) {i : Nat} (h : i < 4) : w (157 + 3 * i) = (ks i).toInt64 ∧ w (158 + 3 * i) = (kb i).toInt64 ∧ w (159 + 3 * i) = (kw i).toInt64 := by
  have := hB.2.2.2.1 i h
  rw [Nat.zero_add, Nat.zero_add, Nat.zero_add] at this
  exact this
theorem rb5 (hB : RBu (k, z, t, n, g, ks, kb, kw, kc, ss, hs, hn) w 0) : w 169 = ss.toInt64 ∧ w 170 = hs.toInt64 ∧ w 171 = hn := ⟨hB.2.2.2.2.1, hB.2.2.2.2.2.1, hB.2.2.2.2.2.2.1⟩
theorem rb6 (hB : RBu (k, z, t, n, g, ks, kb, kw, kc, ss, hs, hn) w 0) {i : Nat} (h : i < 8) : w (172 + i) = (g i).toInt64 := by
  have := hB.2.2.2.2.2.2.2 i h
  rw [Nat.zero_add] at this
  exact this
theorem sub1 {x : Int32} (h : 0 ≤ x.toInt) : (x - 1).toInt = x.toInt - 1 := by
  rw [Int32.toInt_sub]
  have e : (1 : Int32).toInt = 1 := rfl
  have hb := Int32.toInt_lt x
  rw [e, Int.bmod_def]
  omega
theorem reach_n (hW : WFu (k, z, t, n, g, ks, kb, kw, kc, ss, hs, hn)) {s : Nat} (h : s < 6) (x : Int32) : f_X0_whyNotReach k z (nI s) x = some (rea k z s x) := by
  obtain ⟨h1, h2, h3, h4, h5⟩ := wf1 hW h
  unfold f_X0_whyNotReach rea
  rw [kindOf_n h]
  show (if k s = 14 then some 1 else _) = _
  by_cases e : k s = 14
  · rw [if_pos e, if_pos e]
  · rw [if_neg e, if_neg e, holds_n h]
    by_cases e2 : (k s).toInt ≤ 11
    · rw [if_pos e2, if_neg (show ¬ 11 < (k s).toInt by omega), sizeOf_n h]
      rw [Option.bind_some, if_neg (show ¬ (1 : Int32) = 0 by decide), Option.bind_some, isIn_v, sub1 h3]
      have e0 : (0 : Int32).toInt = 0 := rfl
      rw [e0]
      by_cases e3 : 0 ≤ x.toInt ∧ x.toInt < (z s).toInt
      · rw [if_pos e3, if_pos (by omega)]; rfl
      · rw [if_neg e3, if_neg (by omega)]; rfl
    · rw [if_neg e2, if_pos (show 11 < (k s).toInt by omega)]; rfl
theorem kindM_n (hB : RBu (k, z, t, n, g, ks, kb, kw, kc, ss, hs, hn) w 0) {s : Nat} (h : s < 6) : f_X6_kind w (nI s) = some (k s) := by
  unfold f_X6_kind
  rw [n0, nI_add, if_pos (ib_n (by omega) (by decide)), nI_clamp (by omega), Nat.zero_add, (rb1 hB h).1, t6432]
theorem manyM_n (hB : RBu (k, z, t, n, g, ks, kb, kw, kc, ss, hs, hn) w 0) {s : Nat} (h : s < 6) (hk : (k s).toInt ≤ 11) : f_X6_many w (nI s) = some (z s) := by
  unfold f_X6_many
  rw [n6, nI_add, if_pos (ib_n (by omega) (by decide)), nI_clamp (by omega), (rb1 hB h).2 hk, t6432]
theorem isRowM_n (hB : RBu (k, z, t, n, g, ks, kb, kw, kc, ss, hs, hn) w 0) {s : Nat} (h : s < 6) : f_X6_isRow w (nI s) = some (if (k s).toInt ≤ 11 then 1 else 0) := by
  unfold f_X6_isRow
  rw [kindM_n hB h]
  show (if 11 < k s then some 0 else some 1) = _
  simp only [lt32]
  have e : (11 : Int32).toInt = 11 := rfl
  rw [e]
  by_cases h1 : (k s).toInt ≤ 11
  · rw [if_neg (by omega), if_pos h1]
  · rw [if_pos (by omega), if_neg h1]
theorem lacksM_n (hW : WFu (k, z, t, n, g, ks, kb, kw, kc, ss, hs, hn)) (hB : RBu (k, z, t, n, g, ks, kb, kw, kc, ss, hs, hn) w 0) {s : Nat} (h : s < 6) {x : Int32} {y : Int64} (hy : y.toInt = x.toInt) : f_X6_lacks w (nI s) y = some (rea k z s x) := by
  obtain ⟨h1, h2, h3, h4, h5⟩ := wf1 hW h
  unfold f_X6_lacks rea
  rw [kindM_n hB h]
  show (if k s = 14 then some 1 else _) = _
  by_cases e : k s = 14
  · rw [if_pos e, if_pos e]
  · rw [if_neg e, if_neg e, isRowM_n hB h]
    by_cases e2 : (k s).toInt ≤ 11
    · rw [if_pos e2, if_neg (show ¬ 11 < (k s).toInt by omega), manyM_n hB h e2]
      rw [Option.bind_some, if_neg (show ¬ (1 : Int32) = 0 by decide), Option.bind_some, in_v, t64, sub1 h3, hy]
      have e0 : (0 : Int64).toInt = 0 := rfl
      rw [e0]
      by_cases e3 : 0 ≤ x.toInt ∧ x.toInt < (z s).toInt
      · rw [if_pos e3, if_pos (by omega)]; rfl
      · rw [if_neg e3, if_neg (by omega)]; rfl
    · rw [if_neg e2, if_pos (show 11 < (k s).toInt by omega)]; rfl
theorem isCell_n {s i : Nat} (h : s < 6) (hi : i < 12) : f_X0_isCell (nI s) (nI i) = some 1 := by
  unfold f_X0_isCell
  rw [if_neg (nI_pos (by omega)), n6, if_neg (by rw [nI_leI (by omega) (by omega)]; omega), if_neg (nI_pos (by omega)), n12, if_neg (by rw [nI_leI (by omega) (by omega)]; omega)]
theorem at_n (s i : Nat) : nI s * 12 + nI i = nI (12 * s + i) := by rw [n12, pk_mul, nI_add, Nat.mul_comm]
theorem sortAt_n {s i : Nat} (h : s < 6) (hi : i < 12) : f_X0_sortAt t (nI s) (nI i) = some (t (12 * s + i)) := by
  unfold f_X0_sortAt
  rw [isCell_n h hi]
  rw [Option.bind_some, if_neg (show ¬ (1 : Int32) = 0 by decide), at_n, if_pos (ib_n (by omega) (by decide)), nI_clamp (by omega)]
theorem numberAt_n {s i : Nat} (h : s < 6) (hi : i < 12) : f_X0_numberAt n (nI s) (nI i) = some (n (12 * s + i)) := by
  unfold f_X0_numberAt
  rw [isCell_n h hi]
  rw [Option.bind_some, if_neg (show ¬ (1 : Int32) = 0 by decide), at_n, if_pos (ib_n (by omega) (by decide)), nI_clamp (by omega)]
theorem atM_n (s i : Nat) : f_X6_at (nI s) (nI i) = some (nI (12 * s + i)) := by
  unfold f_X6_at
  rw [n12, pk_mul, nI_add]
theorem sortM_n (hB : RBu (k, z, t, n, g, ks, kb, kw, kc, ss, hs, hn) w 0) {s i : Nat} (h : s < 6) (hi : i < 12) : f_X6_sortAt w (nI s) (nI i) = some (t (12 * s + i)) := by
  unfold f_X6_sortAt
  rw [atM_n]
  show (if ib ((12 : Int32) + nI (12 * s + i)) 3420 = true then _ else _) = _
  rw [n12, nI_add, if_pos (ib_n (by omega) (by decide)), nI_clamp (by omega), (rb2 hB (by omega)).1, t6432]
/-- a reason is one of the four -/
theorem rea_in (s : Nat) (x : Int32) : rea k z s x = 0 ∨ rea k z s x = 1 ∨ rea k z s x = 2 ∨ rea k z s x = 3 := by
  unfold rea
  by_cases e : k s = 14
  · rw [if_pos e]; exact Or.inr (Or.inl rfl)
  · rw [if_neg e]
    by_cases e2 : 11 < (k s).toInt
    · rw [if_pos e2]; exact Or.inr (Or.inr (Or.inl rfl))
    · rw [if_neg e2]
      by_cases e3 : 0 ≤ x.toInt ∧ x.toInt < (z s).toInt
      · rw [if_pos e3]; exact Or.inl rfl
      · rw [if_neg e3]; exact Or.inr (Or.inr (Or.inr rfl))
theorem rea_0 (hW : WFu (k, z, t, n, g, ks, kb, kw, kc, ss, hs, hn)) {s : Nat} (h : s < 6) {x : Int32} (e : rea k z s x = 0) : (k s).toInt ≤ 11 ∧ ∃ i : Nat, i < 12 ∧ (i : Int) < (z s).toInt ∧ x = nI i := by
  obtain ⟨h1, h2, h3, h4, h5⟩ := wf1 hW h
  unfold rea at e
  by_cases e1 : k s = 14
  · rw [if_pos e1] at e; exact absurd e (by decide)
  · rw [if_neg e1] at e
    by_cases e2 : 11 < (k s).toInt
    · rw [if_pos e2] at e; exact absurd e (by decide)
    · rw [if_neg e2] at e
      by_cases e3 : 0 ≤ x.toInt ∧ x.toInt < (z s).toInt
      · obtain ⟨i, hi, rfl⟩ := inN (N := 12) e3.1 (by omega)
        rw [nI_toInt (by omega)] at e3
        exact ⟨by omega, i, hi, e3.2, rfl⟩
      · rw [if_neg e3] at e; exact absurd e (by decide)
end LV1
/-- a slot, or none -/
theorem slotC (x : Int32) : (f_X5_isSlot x = some 0 ∧ f_X6_isSlot x = some 0) ∨ ∃ s : Nat, s < 6 ∧ x = nI s ∧ f_X5_isSlot x = some 1 ∧ f_X6_isSlot x = some 1 := by
  rw [isSlot_v, isSlotM_v]
  by_cases h : 0 ≤ x.toInt ∧ x.toInt < 6
  · obtain ⟨s, hs, rfl⟩ := inN (N := 6) h.1 (by omega)
    rw [if_pos h]
    exact Or.inr ⟨s, hs, rfl, rfl, rfl⟩
  · rw [if_neg h]
    exact Or.inl ⟨rfl, rfl⟩
