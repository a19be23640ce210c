/-! explanation, the book, told -/
theorem le1 {a : Nat} (h : a ≤ 1) : nI a ≤ 1 := show nI a ≤ nI 1 from nI_le h (by omega)
theorem nle1 {a : Nat} (h : 1 < a) (h2 : a < 2 ^ 31) : ¬ nI a ≤ 1 := show ¬ nI a ≤ nI 1 from nI_ge h h2
section XP1
variable {k z t g ks kb kw : Nat → Int32} {n : Nat → Int64} {kc ss hs : Int32} {hn : Int64} {w : Nat → Int64}
/-- the cells i and i + 1 stand rightly -/
noncomputable def upP (g t : Nat → Int32) (n : Nat → Int64) (s b y i : Nat) : Bool := if y = 0 then decide (rv g t n s b i ≤ rv g t n s b (i + 1)) else decide (rv g t n s b (i + 1) ≤ rv g t n s b i)
theorem expl_s (hW : WFu (k, z, t, n, g, ks, kb, kw, kc, ss, hs, hn)) (hB : RBu (k, z, t, n, g, ks, kb, kw, kc, ss, hs, hn) w 0) {s b y : Nat} (hs : s < 6) (hb0 : b < 9) (hy : y < 2) : ∃ v : Bool, f_X0_explains k z t n g (nI s) (nI b) (nI y) = some (bI v) ∧ f_X6_isRising w (nI s) (nI b) (nI y) = some (bI v) := by
  obtain ⟨κ, hκ, ek⟩ := kin hW hs
  obtain ⟨ζ, hζ, ez⟩ := zin hW hs
  have hnI1 : ∀ f, L_X6_isRising_36 w (nI s) (nI b) (nI y) (f + 1) 0 1 = some 0 := by
    intro f
    rw [L_X6_isRising_36, if_pos rfl]
  have off : ∃ v : Bool, some (0 : Int32) = some (bI v) ∧ (L_X6_isRising_36 w (nI s) (nI b) (nI y) (3999 + 1) 0 1).bind (fun z14 => if z14 = 0 ∨ z14 = 1 then some z14 else none) = some (bI v) := by
    refine ⟨false, rfl, ?_⟩
    rw [hnI1, Option.bind_some, if_pos (Or.inl rfl)]
    rfl
  have e2 : (2 : Int32) = nI 2 := rfl
  unfold f_X0_explains f_X6_isRising
  rw [sizeOf_n hs, isRowM_n hB hs, Option.bind_some, ez, e2]
  by_cases h11 : κ ≤ 11
  · have h11' : (k s).toInt ≤ 11 := by rw [ek, nI_toInt (by omega)]; omega
    rw [if_pos h11', Option.bind_some, if_neg z10, manyM_n hB hs h11', ez, Option.bind_some]
    by_cases h2 : ζ < 2
    · rw [if_pos (nI_lt h2 (by omega)), if_pos (le1 (show ζ ≤ 1 by omega))]
      exact off
    rw [if_neg (nI_nlt (by omega) (by omega)), if_neg (nle1 (show 1 < ζ by omega) (show ζ < 2 ^ 31 by omega)), canRead_n hs hκ ek hb0, reads_n hB hs hκ ek hb0, Option.bind_some, Option.bind_some]
    have hr8 : (b == 8 || crb κ b) = crb κ b := by
      by_cases h8 : b = 8
      · subst h8
        have : crb κ 8 = true := by unfold crb; rw [if_pos rfl]; exact decide_eq_true h11
        rw [this]; rfl
      · rw [show (b == 8) = false from beq_eq_false_iff_ne.mpr h8, Bool.false_or]
    rw [hr8]
    cases hcr : crb κ b
    · rw [if_pos bI_f, if_pos bI_f]
      exact off
    have ht : ¬ bI true = 0 := by decide
    rw [if_neg ht, if_neg ht]
    have hcc : ∀ i, i + 1 < ζ → f_X0_compareCells t n g (nI s) (nI b) (nI (i + 1)) (nI (i + 1) - 1) = some (sg (rv g t n s b (i + 1)) (rv g t n s b i)) := by
      intro i hi
      rw [nI_pred]
      exact compC_s hW hs hb0 (by omega) (by omega)
    have hcm : ∀ i, i + 1 < ζ → f_X6_cells w (nI s) (nI b) (nI (i + 1)) (nI (i + 1) - (1 : Int32)) = some (sg (rv g t n s b (i + 1)) (rv g t n s b i)) := by
      intro i hi
      rw [nI_pred]
      exact cells_s hW hB hs hb0 (by omega) (by omega) (by omega) ek hcr
    have hy0 : (nI y = 0) ↔ y = 0 := nI_z (by omega)
    have c1 : ∃ r, L_X0_explains_23 z t n g (nI s) (nI b) (nI y) 4000 (nI (0 + 1)) = some r ∧ ((r = .inl () ∧ ∀ i, i < ζ - 1 → upP g t n s b y i = true) ∨ (r = .inr 0 ∧ ∃ i, i < ζ - 1 ∧ upP g t n s b y i = false)) := by
      refine solo (fun f q (_ : Unit) => L_X0_explains_23 z t n g (nI s) (nI b) (nI y) f (nI (q + 1))) (fun q _ => ∀ i, i < q → upP g t n s b y i = true) _ (ζ - 1) ?_ ?_ (ζ - 1) 0 4000 () (by omega) (by omega) (fun i hi => by omega)
      · intro f _ hI
        refine ⟨.inl (), ?_, Or.inl ⟨rfl, hI⟩⟩
        show L_X0_explains_23 z t n g (nI s) (nI b) (nI y) (f + 1) (nI (ζ - 1 + 1)) = some (.inl ())
        rw [L_X0_explains_23, sizeOf_n hs, ez, Option.bind_some, if_pos (nI_le (by omega) (by omega))]
      · intro f q _ hq hI
        have hge : ¬ nI ζ ≤ nI (q + 1) := nI_ge (by omega) (by omega)
        show (∃ (_ : Unit), _ ∧ L_X0_explains_23 z t n g (nI s) (nI b) (nI y) (f + 1) (nI (q + 1)) = L_X0_explains_23 z t n g (nI s) (nI b) (nI y) f (nI (q + 1 + 1))) ∨ (∃ r, L_X0_explains_23 z t n g (nI s) (nI b) (nI y) (f + 1) (nI (q + 1)) = some r ∧ _)
        rw [L_X0_explains_23, sizeOf_n hs, ez, Option.bind_some, if_neg hge, hcc q (by omega), Option.bind_some, Option.bind_some, nI_1]
        have up : ∀ (h : upP g t n s b y q = true), ∀ i, i < q + 1 → upP g t n s b y i = true := by
          intro h i hi
          by_cases e : i = q
          · rw [e]; exact h
          · exact hI i (by omega)
        by_cases h0 : y = 0
        · rw [if_pos (hy0.mpr h0)]
          by_cases h : rv g t n s b q ≤ rv g t n s b (q + 1)
          · rw [if_pos (sg_ge.mpr h)]
            exact Or.inl ⟨(), up (by unfold upP; rw [if_pos h0]; exact decide_eq_true h), rfl⟩
          · rw [if_neg (fun e => h (sg_ge.mp e))]
            exact Or.inr ⟨_, rfl, Or.inr ⟨rfl, q, hq, by unfold upP; rw [if_pos h0]; exact decide_eq_false h⟩⟩
        · rw [if_neg (fun e => h0 (hy0.mp e))]
          by_cases h : rv g t n s b (q + 1) ≤ rv g t n s b q
          · rw [if_pos (sg_le.mpr h)]
            exact Or.inl ⟨(), up (by unfold upP; rw [if_neg h0]; exact decide_eq_true h), rfl⟩
          · rw [if_neg (fun e => h (sg_le.mp e))]
            exact Or.inr ⟨_, rfl, Or.inr ⟨rfl, q, hq, by unfold upP; rw [if_neg h0]; exact decide_eq_false h⟩⟩
    have c2 : ∃ r, L_X6_isRising_36 w (nI s) (nI b) (nI y) 4000 1 (nI (0 + 1)) = some r ∧ ((r = 1 ∧ ∀ i, i < ζ - 1 → upP g t n s b y i = true) ∨ (r = 0 ∧ ∃ i, i < ζ - 1 ∧ upP g t n s b y i = false)) := by
      refine solo (fun f q (a : Int32) => L_X6_isRising_36 w (nI s) (nI b) (nI y) f a (nI (q + 1))) (fun q a => (a = 1 ∧ ∀ i, i < q → upP g t n s b y i = true) ∨ (a = 0 ∧ ∃ i, i < q ∧ upP g t n s b y i = false)) _ (ζ - 1) ?_ ?_ (ζ - 1) 0 4000 (1 : Int32) (by omega) (by omega) (Or.inl ⟨rfl, fun i hi => by omega⟩)
      · intro f a hI
        refine ⟨a, ?_, hI⟩
        show L_X6_isRising_36 w (nI s) (nI b) (nI y) (f + 1) a (nI (ζ - 1 + 1)) = some a
        rw [L_X6_isRising_36, manyM_n hB hs h11', ez, Option.bind_some, if_pos (nI_le (by omega) (by omega))]
        by_cases ha : a = 0
        · rw [if_pos ha]
        · rw [if_neg ha]
      · intro f q a hq hI
        have hge : ¬ nI ζ ≤ nI (q + 1) := nI_ge (by omega) (by omega)
        show (∃ (s' : Int32), _ ∧ L_X6_isRising_36 w (nI s) (nI b) (nI y) (f + 1) a (nI (q + 1)) = L_X6_isRising_36 w (nI s) (nI b) (nI y) f s' (nI (q + 1 + 1))) ∨ (∃ r, L_X6_isRising_36 w (nI s) (nI b) (nI y) (f + 1) a (nI (q + 1)) = some r ∧ _)
        rcases hI with ⟨rfl, hI⟩ | ⟨rfl, i, hi, hI⟩
        · rw [L_X6_isRising_36, if_neg z10, manyM_n hB hs h11', ez, Option.bind_some, if_neg hge, hcm q (by omega), Option.bind_some, Option.bind_some, Option.bind_some, nI_1, sg_neg]
          have up : ∀ (h : upP g t n s b y q = true), ∀ i, i < q + 1 → upP g t n s b y i = true := by
            intro h i hi
            by_cases e : i = q
            · rw [e]; exact h
            · exact hI i (by omega)
          by_cases h0 : y = 0
          · rw [if_pos (hy0.mpr h0)]
            by_cases h : rv g t n s b (q + 1) < rv g t n s b q
            · rw [if_pos (sg_n.mpr h)]
              exact Or.inl ⟨0, Or.inr ⟨rfl, q, by omega, by unfold upP; rw [if_pos h0]; exact decide_eq_false (by omega)⟩, rfl⟩
            · rw [if_neg (fun e => h (sg_n.mp e))]
              exact Or.inl ⟨1, Or.inl ⟨rfl, up (by unfold upP; rw [if_pos h0]; exact decide_eq_true (by omega))⟩, rfl⟩
          · rw [if_neg (fun e => h0 (hy0.mp e))]
            by_cases h : rv g t n s b q < rv g t n s b (q + 1)
            · rw [if_pos (sg_n.mpr h)]
              exact Or.inl ⟨0, Or.inr ⟨rfl, q, by omega, by unfold upP; rw [if_neg h0]; exact decide_eq_false (by omega)⟩, rfl⟩
            · rw [if_neg (fun e => h (sg_n.mp e))]
              exact Or.inl ⟨1, Or.inl ⟨rfl, up (by unfold upP; rw [if_neg h0]; exact decide_eq_true (by omega))⟩, rfl⟩
        · rw [L_X6_isRising_36, if_pos rfl]
          exact Or.inr ⟨0, rfl, Or.inr ⟨rfl, i, by omega, hI⟩⟩
    obtain ⟨r1, e3, q1⟩ := c1
    obtain ⟨r2, e4, q2⟩ := c2
    rw [show L_X0_explains_23 z t n g (nI s) (nI b) (nI y) 4000 1 = some r1 from e3, show L_X6_isRising_36 w (nI s) (nI b) (nI y) 4000 1 1 = some r2 from e4]
    rcases q1 with ⟨rfl, q1⟩ | ⟨rfl, i, hi, q1⟩
    · rcases q2 with ⟨rfl, q2⟩ | ⟨rfl, j, hj, q2⟩
      · exact ⟨true, rfl, rfl⟩
      · rw [q1 j hj] at q2; exact Bool.noConfusion q2
    · rcases q2 with ⟨rfl, q2⟩ | ⟨rfl, j, hj, q2⟩
      · rw [q2 i hi] at q1; exact Bool.noConfusion q1
      · exact ⟨false, rfl, rfl⟩
  · have h11' : ¬ (k s).toInt ≤ 11 := by rw [ek, nI_toInt (by omega)]; omega
    have ez0 : z s = 0 := (wf1 hW hs).2.2.2.2 (by omega)
    have : ζ = 0 := by rw [ez] at ez0; exact (nI_z (by omega)).mp ez0
    subst this
    rw [if_pos (nI_lt (by omega) (by omega)), if_neg h11', Option.bind_some, if_pos rfl]
    exact off
end XP1
