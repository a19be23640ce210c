/-! exchanges and swaps -/
theorem hb_0 {x : Int32} {j : Nat} : (((x >>> (nI j &&& 31)) &&& 1) = 0) ↔ hb x j = false := by
  have e1 : (x >>> (nI j &&& 31)) &&& 1 = nI ((x >>> (nI j &&& 31)).toBitVec.toNat % 2 ^ 1) := pk_and _ 1 (by rfl)
  unfold hb
  rw [e1, show (2 : Nat) ^ 1 = 2 from rfl]
  have : (x >>> (nI j &&& 31)).toBitVec.toNat % 2 = 0 ∨ (x >>> (nI j &&& 31)).toBitVec.toNat % 2 = 1 := by omega
  rcases this with h | h <;> rw [h] <;> decide
section EX1
variable {V : Nat → Int} {m : Nat} {po : Nat → Int32} {w : Nat → Int64}
theorem cn_bit {x : Int32} {p : Nat} (hm : m ≤ 12) (hp : p < m) (h : hb x p = false) : cn (fun j => !(hb (x ||| ((1 : Int32) <<< (nI p &&& 31))) j)) m < cn (fun j => !(hb x j)) m := by
  refine cn_lt (p := p) ?_ hp ?_ ?_
  · intro q hq e
    rw [hb_or x (by omega) (by omega)] at e
    cases hx : hb x q
    · rfl
    · rw [hx] at e; exact e
  · show (!(hb (x ||| ((1 : Int32) <<< (nI p &&& 31))) p)) = false
    rw [hb_or x (by omega) (by omega), decide_eq_true rfl, Bool.or_true]; rfl
  · show (!(hb x p)) = true
    rw [h]; rfl
theorem ring (hm : m ≤ 12) (hp' : PO V m po) (hy : BY w 15 V m) {s : Nat} (hs : s < m) : ∀ (d : Nat) (x c : Int32) (p step f g : Nat), cn (fun j => !(hb x j)) m ≤ d → step + d ≤ m → d < f → d < g → p < m → hb x p = false → (∀ j, j < m → hb x (ps V m j) = true → hb x j = true ∨ ps V m j = s) → (p = s ∨ (hb x s = true ∧ ∃ j, j < m ∧ hb x j = true ∧ ps V m j = p)) → ∃ (x' c' : Int32), L_X4_exchanges_20 po (nI m) (nI s) f c x (nI p) (nI step) = some (c', x') ∧ L_X6_swaps_34 w (nI m) g x (c + (-1)) (nI p) = some (x', c') ∧ (∀ j, j < m → hb x' (ps V m j) = true → hb x' j = true) := by
  intro d
  induction d with
  | zero =>
    intro x c p step f g h1 h2 h3 h4 hp hx hB hD
    have := cn_bit hm hp hx
    omega
  | succ d ih =>
    intro x c p step f g h1 h2 h3 h4 hp hx hB hD
    have hu := cn_bit hm hp hx
    have hpm := ps_m (V := V) hp
    obtain ⟨f, rfl⟩ : ∃ h, f = h + 1 := ⟨f - 1, by omega⟩
    obtain ⟨g, rfl⟩ : ∃ h, g = h + 1 := ⟨g - 1, by omega⟩
    have hst : ¬ nI m ≤ nI step := nI_ge (by omega) (by omega)
    have ho : ∀ j, j < m → hb (x ||| ((1 : Int32) <<< (nI p &&& 31))) j = (hb x j || decide (p = j)) := fun j hj => hb_or x (by omega) (by omega)
    rw [L_X4_exchanges_20, L_X6_swaps_34, if_neg hst, if_pos (hb_0.mpr hx), has_s, hx, position_s hm hy hp, posOf_s hm hp (hp' p hp)]
    simp only [Option.bind_some, nI_1, if_pos bI_f, Int32.add_zero]
    generalize hxx : x ||| ((1 : Int32) <<< (nI p &&& 31)) = x' at hu ho
    have hxs : hb x' s = true := by
      rw [ho s hs]
      rcases hD with e | ⟨e, _⟩
      · rw [decide_eq_true e, Bool.or_true]
      · rw [e]; rfl
    have hxp : hb x' p = true := by rw [ho p hp, decide_eq_true rfl, Bool.or_true]
    have hB' : ∀ j, j < m → hb x' (ps V m j) = true → hb x' j = true ∨ ps V m j = s := by
      intro j hj h
      rw [ho _ (ps_m hj), Bool.or_eq_true] at h
      rcases h with h | h
      · rcases hB j hj h with h | h
        · exact Or.inl (by rw [ho j hj, h]; rfl)
        · exact Or.inr h
      · have e := of_decide_eq_true h
        rcases hD with e2 | ⟨_, i, hi, h5, h6⟩
        · exact Or.inr (e.symm.trans e2)
        · have : i = j := ps_inj hm hi hj (h6.trans e)
          subst this
          exact Or.inl (by rw [ho i hi, h5]; rfl)
    by_cases he : ps V m p = s
    · rw [he, if_pos rfl]
      obtain ⟨f, rfl⟩ : ∃ h, f = h + 1 := ⟨f - 1, by omega⟩
      obtain ⟨g, rfl⟩ : ∃ h, g = h + 1 := ⟨g - 1, by omega⟩
      refine ⟨x', c, ?_, ?_, ?_⟩
      · have hb1 : ¬ ((x' >>> (nI s &&& 31)) &&& 1) = 0 := fun e => by rw [hb_0.mp e] at hxs; exact Bool.noConfusion hxs
        rw [L_X4_exchanges_20]
        by_cases hms : nI m ≤ nI (step + 1)
        · rw [if_pos hms]
        · rw [if_neg hms, if_neg hb1]
      · rw [L_X6_swaps_34, has_s, hxs, Option.bind_some, if_neg (by decide)]
        refine congrArg some (Prod.ext rfl ?_)
        show c + (-1) + 1 = c
        rw [Int32.add_assoc]
        exact Int32.add_zero c
      · intro j hj h
        rcases hB' j hj h with h | h
        · exact h
        · have : p = j := ps_inj hm hp hj (he.trans h.symm)
          subst this
          exact hxp
    · rw [if_neg (fun e => he ((nI_eq (by omega) (by omega)).mp e))]
      have hnew : hb x' (ps V m p) = false := by
        cases hq : hb x' (ps V m p)
        · rfl
        · exfalso
          rw [ho _ hpm, Bool.or_eq_true] at hq
          rcases hq with hq | hq
          · rcases hB p hp hq with h | h
            · rw [h] at hx; exact Bool.noConfusion hx
            · exact he h
          · have e := of_decide_eq_true hq
            rcases hD with e2 | ⟨_, i, hi, h5, h6⟩
            · exact he (e.symm.trans e2)
            · have : i = p := ps_inj hm hi hp (h6.trans e)
              subst this
              rw [h5] at hx; exact Bool.noConfusion hx
      obtain ⟨x2, c2, g1, g2, g3⟩ := ih x' (c + 1) (ps V m p) (step + 1) f g (by omega) (by omega) (by omega) (by omega) hpm hnew hB' (Or.inr ⟨hxs, p, hp, hxp, rfl⟩)
      refine ⟨x2, c2, g1, ?_, g3⟩
      have e : c + (-1) + 1 = c + 1 + (-1) := by rw [Int32.add_assoc, Int32.add_assoc, Int32.add_comm 1 (-1)]
      rw [e]
      exact g2
theorem swaps_s (hm : m ≤ 12) (hp' : PO V m po) (hy : BY w 15 V m) : ∃ v, f_X4_exchanges po (nI m) = some v ∧ f_X6_swaps w (nI m) = some v := by
  have key : ∃ r q, L_X4_exchanges_6 po (nI m) 4000 0 0 (nI 0) = some r ∧ L_X6_swaps_7 w (nI m) 4000 0 0 (nI 0) = some q ∧ r = q := by
    refine lock (fun f q (s : Int32 × Int32) => L_X4_exchanges_6 po (nI m) f s.1 s.2 (nI q)) (fun f q (s : Int32 × Int32) => L_X6_swaps_7 w (nI m) f s.1 s.2 (nI q)) (fun q a b => a.1 = b.2 ∧ a.2 = b.1 ∧ ∀ j, j < m → hb a.2 (ps V m j) = true → hb a.2 j = true) (fun r q => r = q) m ?_ ?_ m 0 4000 4000 ((0 : Int32), (0 : Int32)) ((0 : Int32), (0 : Int32)) (by omega) (by omega) (by omega) ⟨rfl, rfl, ?_⟩
    · rintro f g ⟨c, x⟩ ⟨x2, c2⟩ ⟨h1, h2, _⟩
      have h1' : c = c2 := h1
      subst h1'
      show ∃ r q, L_X4_exchanges_6 po (nI m) (f + 1) c x (nI m) = some r ∧ L_X6_swaps_7 w (nI m) (g + 1) x2 c (nI m) = some q ∧ r = q
      rw [L_X4_exchanges_6, L_X6_swaps_7, if_pos (nI_le (by omega) (by omega)), if_pos (nI_le (by omega) (by omega))]
      exact ⟨_, _, rfl, rfl, rfl⟩
    · rintro f g s ⟨c, x⟩ ⟨x2, c2⟩ hs ⟨h1, h2, h3⟩
      have h1' : c = c2 := h1
      have h2' : x = x2 := h2
      subst h1' h2'
      refine Or.inl ?_
      show ∃ (s' t' : Int32 × Int32), _ ∧ L_X4_exchanges_6 po (nI m) (f + 1) c x (nI s) = L_X4_exchanges_6 po (nI m) f s'.1 s'.2 (nI (s + 1)) ∧ L_X6_swaps_7 w (nI m) (g + 1) x c (nI s) = L_X6_swaps_7 w (nI m) g t'.1 t'.2 (nI (s + 1))
      have hge : ¬ nI m ≤ nI s := nI_ge hs (by omega)
      rw [L_X4_exchanges_6, L_X6_swaps_7, if_neg hge, if_neg hge, has_s, n0]
      cases hx : hb x s
      · obtain ⟨x', c', g1, g2, g3⟩ := ring hm hp' hy hs m x c s 0 4000 4000 (cn_le _ _) (by omega) (by omega) (by omega) hs hx (fun j hj h => Or.inl (h3 j hj h)) (Or.inl rfl)
        simp only [Option.bind_some, nI_1, g1]
        rw [if_pos (show bI false = nI 0 from rfl), g2]
        exact ⟨(c', x'), (x', c'), ⟨rfl, rfl, g3⟩, rfl, rfl⟩
      · have g1 : L_X4_exchanges_20 po (nI m) (nI s) 4000 c x (nI s) (nI 0) = some (c, x) := by
          rw [L_X4_exchanges_20, if_neg (nI_ge (by omega) (by omega)), if_neg (fun e => by rw [hb_0.mp e] at hx; exact Bool.noConfusion hx)]
        have g2 : L_X6_swaps_34 w (nI m) 4000 x (c + nI 0) (nI s) = some (x, c) := by
          rw [L_X6_swaps_34, has_s, hx, Option.bind_some, if_neg (by decide), show c + nI 0 = c from Int32.add_zero c]
        simp only [Option.bind_some, nI_1, g1, g2]
        rw [if_neg (show ¬ bI true = nI 0 by decide)]
        exact ⟨(c, x), (x, c), ⟨rfl, rfl, h3⟩, rfl, rfl⟩
    · intro j hj h
      have := ps_m (V := V) hj
      rw [hb_bit _ (by omega)] at h
      have e : (0 : Int32).toBitVec.getLsbD (ps V m j) = false := by
        show (0#32).getLsbD _ = false
        exact BitVec.getLsbD_zero
      have h' : (0 : Int32).toBitVec.getLsbD (ps V m j) = true := h
      rw [e] at h'
      exact Bool.noConfusion h'
  obtain ⟨r, q, e1, e2, rfl⟩ := key
  unfold f_X4_exchanges f_X6_swaps
  rw [show (L_X4_exchanges_6 po (nI m) 4000 0 0 0) = _ from e1, show (L_X6_swaps_7 w (nI m) 4000 0 0 0) = _ from e2]
  exact ⟨r, rfl, rfl⟩
end EX1
