/-! the class's sorting of the places -/
def CPs (t g ks kb kw : Nat → Int32) (n : Nat → Int64) (kc S : Int32) (V : Nat → Int) (m : Nat) : Prop := ∀ a b, a < m → b < m → f_X0_comparePlaces t n g ks kb kw kc (nI a) (nI b) S = some (sg (V a) (V b))
def PO (V : Nat → Int) (m : Nat) (po : Nat → Int32) : Prop := ∀ p, p < m → po p = nI (ps V m p)
def PLc (V : Nat → Int) (m : Nat) (pl : Nat → Int32) : Prop := ∀ p, p < m → pl (ps V m p) = nI p
section SP1
variable {k z t g ks kb kw : Nat → Int32} {n : Nat → Int64} {kc ss hs : Int32} {hn : Int64} {w : Nat → Int64}
variable {V : Nat → Int} {m : Nat} {S : Int32}
theorem sort33 (hm : m ≤ 12) (hc : CPs t g ks kb kw n kc S V m) {p : Nat} (hp : p < m) (le0 : Nat → Int32) (h0 : le0 p = 0) : ∃ le, L_X4_sortPlaces_33 t n g ks kb kw kc (nI m) S (nI p) 4000 0 le0 = some le ∧ (le p = nI (ls V m p) ∧ ∀ j, j ≠ p → le j = le0 j) := by
  refine solo (fun f q le => L_X4_sortPlaces_33 t n g ks kb kw kc (nI m) S (nI p) f (nI q) le) (fun q le => le p = nI (cn (fun i => decide (V i < V p)) q) ∧ ∀ j, j ≠ p → le j = le0 j) (fun le => le p = nI (ls V m p) ∧ ∀ j, j ≠ p → le j = le0 j) m ?_ ?_ m 0 4000 le0 (by omega) (by omega) ⟨h0, fun _ _ => rfl⟩
  · intro f le hI
    refine ⟨le, ?_, hI⟩
    show L_X4_sortPlaces_33 t n g ks kb kw kc (nI m) S (nI p) (f + 1) (nI m) le = some le
    rw [L_X4_sortPlaces_33, if_pos (nI_le (by omega) (by omega))]
  · intro f q le hq hI
    refine Or.inl ?_
    show ∃ s', _ ∧ L_X4_sortPlaces_33 t n g ks kb kw kc (nI m) S (nI p) (f + 1) (nI q) le = L_X4_sortPlaces_33 t n g ks kb kw kc (nI m) S (nI p) f (nI (q + 1)) s'
    rw [L_X4_sortPlaces_33, if_neg (nI_ge hq (by omega)), hc q p hq hp]
    simp only [Option.bind_some, nI_1, ib_n (show p < 12 by omega) (show 12 < 2 ^ 31 by omega), nI_clamp (show p < 2 ^ 31 by omega), if_true]
    by_cases h : V p ≤ V q
    · rw [if_pos (sg_ge.mpr h)]
      refine ⟨le, ⟨?_, hI.2⟩, rfl⟩
      rw [cn_f (decide_eq_false (by omega))]
      exact hI.1
    · rw [if_neg (fun e => h (sg_ge.mp e))]
      refine ⟨_, ⟨?_, ?_⟩, rfl⟩
      · rw [pk_us, hI.1, nI_1, cn_t (decide_eq_true (by omega))]
      · intro j hj
        rw [pk_un hj]
        exact hI.2 j hj
theorem sort15 (hm : m ≤ 12) (hc : CPs t g ks kb kw n kc S V m) (le0 : Nat → Int32) : ∃ le, L_X4_sortPlaces_15 t n g ks kb kw kc (nI m) S 4000 0 le0 = some le ∧ LE V m le := by
  refine solo (fun f q le => L_X4_sortPlaces_15 t n g ks kb kw kc (nI m) S f (nI q) le) (fun q le => ∀ j, j < q → le j = nI (ls V m j)) (LE V m) m ?_ ?_ m 0 4000 le0 (by omega) (by omega) (fun j hj => by omega)
  · intro f le hI
    refine ⟨le, ?_, hI⟩
    show L_X4_sortPlaces_15 t n g ks kb kw kc (nI m) S (f + 1) (nI m) le = some le
    rw [L_X4_sortPlaces_15, if_pos (nI_le (by omega) (by omega))]
  · intro f q le hq hI
    refine Or.inl ?_
    show ∃ s', _ ∧ L_X4_sortPlaces_15 t n g ks kb kw kc (nI m) S (f + 1) (nI q) le = L_X4_sortPlaces_15 t n g ks kb kw kc (nI m) S f (nI (q + 1)) s'
    rw [L_X4_sortPlaces_15, if_neg (nI_ge hq (by omega))]
    obtain ⟨le', e1, e2, e3⟩ := sort33 hm hc hq (upd le q 0) pk_us
    simp only [Option.bind_some, nI_1, ib_n (show q < 12 by omega) (show 12 < 2 ^ 31 by omega), nI_clamp (show q < 2 ^ 31 by omega), if_true, e1]
    refine ⟨le', ?_, rfl⟩
    intro j hj
    by_cases hjq : j = q
    · subst hjq; exact e2
    · rw [e3 j hjq, pk_un hjq]
      exact hI j (by omega)
theorem sort77 {le : Nat → Int32} (hm : m ≤ 12) (hl : LE V m le) (po0 : Nat → Int32) : ∃ po, L_X4_sortPlaces_77 le (nI m) 4000 0 po0 = some po ∧ PO V m po := by
  refine solo (fun f q po => L_X4_sortPlaces_77 le (nI m) f (nI q) po) (fun q po => ∀ j, j < q → po j = nI (ps V m j)) (PO V m) m ?_ ?_ m 0 4000 po0 (by omega) (by omega) (fun j hj => by omega)
  · intro f po hI
    refine ⟨po, ?_, hI⟩
    show L_X4_sortPlaces_77 le (nI m) (f + 1) (nI m) po = some po
    rw [L_X4_sortPlaces_77, if_pos (nI_le (by omega) (by omega))]
  · intro f q po hq hI
    refine Or.inl ?_
    show ∃ s', _ ∧ L_X4_sortPlaces_77 le (nI m) (f + 1) (nI q) po = L_X4_sortPlaces_77 le (nI m) f (nI (q + 1)) s'
    rw [L_X4_sortPlaces_77, if_neg (nI_ge hq (by omega)), alikeBefore_s hm hl hq]
    simp only [Option.bind_some, nI_1, ib_n (show q < 12 by omega) (show 12 < 2 ^ 31 by omega), nI_clamp (show q < 2 ^ 31 by omega), if_true]
    refine ⟨_, ?_, rfl⟩
    intro j hj
    by_cases hjq : j = q
    · subst hjq; rw [pk_us, hl j hq, nI_add, ps_eq hm hq]
    · rw [pk_un hjq]
      exact hI j (by omega)
theorem sort111 {po : Nat → Int32} (hm : m ≤ 12) (hl : PO V m po) (pl0 : Nat → Int32) : ∃ pl, L_X4_sortPlaces_111 po (nI m) 4000 0 pl0 = some pl ∧ PLc V m pl := by
  refine solo (fun f q pl => L_X4_sortPlaces_111 po (nI m) f (nI q) pl) (fun q pl => ∀ j, j < q → pl (ps V m j) = nI j) (PLc V m) m ?_ ?_ m 0 4000 pl0 (by omega) (by omega) (fun j hj => by omega)
  · intro f pl hI
    refine ⟨pl, ?_, hI⟩
    show L_X4_sortPlaces_111 po (nI m) (f + 1) (nI m) pl = some pl
    rw [L_X4_sortPlaces_111, if_pos (nI_le (by omega) (by omega))]
  · intro f q pl hq hI
    refine Or.inl ?_
    have hps := ps_m (V := V) hq
    show ∃ s', _ ∧ L_X4_sortPlaces_111 po (nI m) (f + 1) (nI q) pl = L_X4_sortPlaces_111 po (nI m) f (nI (q + 1)) s'
    rw [L_X4_sortPlaces_111, if_neg (nI_ge hq (by omega))]
    have h10 : ¬ (1 : Int32) = 0 := by decide
    simp only [Option.bind_some, nI_1, ib_n (show q < 12 by omega) (show 12 < 2 ^ 31 by omega), nI_clamp (show q < 2 ^ 31 by omega), if_true, hl q hq, isPl_n hm hps, if_neg h10, ib_n (show ps V m q < 12 by omega) (show 12 < 2 ^ 31 by omega), nI_clamp (show ps V m q < 2 ^ 31 by omega)]
    refine ⟨_, ?_, rfl⟩
    intro j hj
    by_cases hjq : j = q
    · subst hjq; rw [pk_us]
    · rw [pk_un (fun e => hjq (ps_inj hm (by omega) hq e))]
      exact hI j (by omega)
theorem sortP_s (hm : m ≤ 12) (hL : f_X0_length k z ks kb kc ss = some (nI m)) (hc : CPs t g ks kb kw n kc S V m) (a b c : Nat → Int32) (d : Int32) : ∃ le po pl, f_X4_sortPlaces k z t n g ks kb kw kc ss a b c d S = some (le, po, pl, nI m) ∧ LE V m le ∧ PO V m po ∧ PLc V m pl := by
  obtain ⟨le, e1, h1⟩ := sort15 hm hc a
  obtain ⟨po, e2, h2⟩ := sort77 hm h1 b
  obtain ⟨pl, e3, h3⟩ := sort111 hm h2 c
  refine ⟨le, po, pl, ?_, h1, h2, h3⟩
  unfold f_X4_sortPlaces
  have h12 : ¬ (12 : Int32) < nI m := show ¬ nI 12 < nI m from nI_nlt hm (by omega)
  simp only [hL, Option.bind_some, if_neg h12, e1, e2, e3]
theorem sortP_no (hL : f_X0_length k z ks kb kc ss = some (-1)) (a b c : Nat → Int32) (d : Int32) : f_X4_sortPlaces k z t n g ks kb kw kc ss a b c d S = some (a, b, c, -1) := by
  unfold f_X4_sortPlaces
  have h12 : ¬ (12 : Int32) < -1 := by decide
  have hle : (-1 : Int32) ≤ 0 := by decide
  simp only [hL, Option.bind_some, if_neg h12]
  rw [L_X4_sortPlaces_15, if_pos hle]
  simp only [Option.bind_some]
  rw [L_X4_sortPlaces_77, if_pos hle]
  simp only [Option.bind_some]
  rw [L_X4_sortPlaces_111, if_pos hle]
  simp only [Option.bind_some]
end SP1
