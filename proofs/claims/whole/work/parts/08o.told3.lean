/-! orders by other keys; keys that matter, fewest; explanation; the book -/
section MT1
variable {V V' : Nat → Int} {m : Nat} {po qo : Nat → Int32} {w : Nat → Int64} {S : Int32}
theorem order_s (hm : m ≤ 12) (h1 : PO V m po) (h2 : PO V' m qo) (hy : BY w 15 V m) (hy' : BY w S V' m) : ∃ v, f_X4_hasOrderOf po (nI m) qo (nI m) = some v ∧ f_X6_isSameOrder w S (nI m) = some v := by
  have key : ∃ r q, L_X4_hasOrderOf_2 po (nI m) qo (nI m) 4000 (nI 0) = some r ∧ L_X6_isSameOrder_2 w S (nI m) 4000 (nI 0) = some q ∧ r = q := by
    refine lock (fun f q (_ : Unit) => L_X4_hasOrderOf_2 po (nI m) qo (nI m) f (nI q)) (fun f q (_ : Unit) => L_X6_isSameOrder_2 w S (nI m) f (nI q)) (fun _ _ _ => True) (fun r q => r = q) m ?_ ?_ m 0 4000 4000 () () (by omega) (by omega) (by omega) trivial
    · intro f g _ _ _
      show ∃ r q, L_X4_hasOrderOf_2 po (nI m) qo (nI m) (f + 1) (nI m) = some r ∧ L_X6_isSameOrder_2 w S (nI m) (g + 1) (nI m) = some q ∧ r = q
      rw [L_X4_hasOrderOf_2, L_X6_isSameOrder_2, if_pos (nI_le (by omega) (by omega)), if_pos (nI_le (by omega) (by omega))]
      exact ⟨_, _, rfl, rfl, rfl⟩
    · intro f g q _ _ hq _
      show (∃ (_ _ : Unit), _ ∧ L_X4_hasOrderOf_2 po (nI m) qo (nI m) (f + 1) (nI q) = L_X4_hasOrderOf_2 po (nI m) qo (nI m) f (nI (q + 1)) ∧ L_X6_isSameOrder_2 w S (nI m) (g + 1) (nI q) = L_X6_isSameOrder_2 w S (nI m) g (nI (q + 1))) ∨ (∃ r p, L_X4_hasOrderOf_2 po (nI m) qo (nI m) (f + 1) (nI q) = some r ∧ L_X6_isSameOrder_2 w S (nI m) (g + 1) (nI q) = some p ∧ r = p)
      have hge : ¬ nI m ≤ nI q := nI_ge hq (by omega)
      rw [L_X4_hasOrderOf_2, L_X6_isSameOrder_2, if_neg hge, if_neg hge, posOf_s hm hq (h1 q hq), posOf_s hm hq (h2 q hq), position_s hm hy hq, position_s hm hy' hq]
      simp only [Option.bind_some, nI_1]
      by_cases h : nI (ps V m q) = nI (ps V' m q)
      · rw [if_pos h, if_pos h.symm]
        exact Or.inl ⟨(), (), trivial, rfl, rfl⟩
      · rw [if_neg h, if_neg (fun e => h e.symm)]
        exact Or.inr ⟨_, _, rfl, rfl, rfl⟩
  obtain ⟨r, q, e1, e2, rfl⟩ := key
  unfold f_X4_hasOrderOf f_X6_isSameOrder
  rw [show (L_X4_hasOrderOf_2 po (nI m) qo (nI m) 4000 0) = _ from e1, show (L_X6_isSameOrder_2 w S (nI m) 4000 0) = _ from e2]
  cases r with
  | inl a => exact ⟨_, rfl, rfl⟩
  | inr a => exact ⟨_, rfl, rfl⟩
end MT1
/-- how many bits, of sixteen -/
def pc (b : Nat) : Nat := b % 2 + b / 2 % 2 + b / 4 % 2 + b / 8 % 2
theorem bitCount_d : ∀ b, b < 16 → f_J6_bitCount_0f7a4 (nI b) = some (nI (pc b)) := by decide +kernel
theorem ones_d : ∀ b, b < 16 → f_X6_ones (nI b) = some (nI (pc b)) := by decide +kernel
theorem pc_d : ∀ K, K < 5 → ∀ b, b < 2 ^ K → pc b ≤ K ∧ pc (2 ^ K - 1) = K := by decide +kernel
theorem shl_d : ∀ K, K < 5 → ((1 : Int32) <<< (nI K &&& 31)) = nI (2 ^ K) ∧ ((1 : Int32) <<< (nI K &&& 31)) - 1 = nI (2 ^ K - 1) := by decide +kernel
section MT2
variable {k z t g ks kb kw : Nat → Int32} {n : Nat → Int64} {kc ss hs : Int32} {hn : Int64} {w : Nat → Int64}
variable {m : Nat} {po : Nat → Int32}
theorem matters_s (hW : WFu (k, z, t, n, g, ks, kb, kw, kc, ss, hs, hn)) (hB : RBu (k, z, t, n, g, ks, kb, kw, kc, ss, hs, hn) w 0) (hm : m ≤ 12) (hL : f_X0_length k z ks kb kc ss = some (nI m)) (hC : ∀ S, CPs t g ks kb kw n kc S (vP g t n ks kb kw kc S) m) (hY : ∀ S, BY w S (vP g t n ks kb kw kc S) m) (hpo : PO (vP g t n ks kb kw kc 15) m po) (ql qp qpl : Nat → Int32) (qn : Int32) : ∃ r v, L_X5_keysThatMatter_29 k z t n g ks kb kw kc ss po (nI m) 4000 0 0 ql qp qpl qn = some r ∧ f_X6_matters w (nI m) = some v ∧ r.1 = v := by
  obtain ⟨K, hK, eK⟩ := kcin hW
  have key : ∃ r q, L_X5_keysThatMatter_29 k z t n g ks kb kw kc ss po (nI m) 4000 0 (nI 0) ql qp qpl qn = some r ∧ L_X6_matters_4 w (nI m) 4000 0 (nI 0) = some q ∧ r.1 = q := by
    refine lock (fun f q (s : Int32 × (Nat → Int32) × (Nat → Int32) × (Nat → Int32) × Int32) => L_X5_keysThatMatter_29 k z t n g ks kb kw kc ss po (nI m) f s.1 (nI q) s.2.1 s.2.2.1 s.2.2.2.1 s.2.2.2.2) (fun f q (s : Int32) => L_X6_matters_4 w (nI m) f s (nI q)) (fun _ a b => a.1 = b) (fun r q => r.1 = q) K ?_ ?_ K 0 4000 4000 ((0 : Int32), ql, qp, qpl, qn) (0 : Int32) (by omega) (by omega) (by omega) rfl
    · rintro f g ⟨a, ql, qp, qpl, qn⟩ b h
      have h' : a = b := h
      subst h'
      show ∃ r q, L_X5_keysThatMatter_29 k z t n _ ks kb kw kc ss po (nI m) (f + 1) a (nI K) ql qp qpl qn = some r ∧ L_X6_matters_4 w (nI m) (g + 1) a (nI K) = some q ∧ r.1 = q
      rw [L_X5_keysThatMatter_29, L_X6_matters_4, keysM_s hB, Option.bind_some, eK, if_pos (nI_le (by omega) (by omega)), if_pos (nI_le (by omega) (by omega))]
      exact ⟨_, _, rfl, rfl, rfl⟩
    · rintro f g' q ⟨a, ql, qp, qpl, qn⟩ b hq h
      have h' : a = b := h
      subst h'
      refine Or.inl ?_
      show ∃ (s' : Int32 × (Nat → Int32) × (Nat → Int32) × (Nat → Int32) × Int32) (t' : Int32), _ ∧ L_X5_keysThatMatter_29 k z t n g ks kb kw kc ss po (nI m) (f + 1) a (nI q) ql qp qpl qn = L_X5_keysThatMatter_29 k z t n g ks kb kw kc ss po (nI m) f s'.1 (nI (q + 1)) s'.2.1 s'.2.2.1 s'.2.2.2.1 s'.2.2.2.2 ∧ L_X6_matters_4 w (nI m) (g' + 1) a (nI q) = L_X6_matters_4 w (nI m) g' t' (nI (q + 1))
      have hge : ¬ kc ≤ nI q := by rw [eK]; exact nI_ge hq (by omega)
      obtain ⟨le', po', pl', e3, _, hpo', _⟩ := sortP_s hm hL (hC ((15 : Int32) &&& (((1 : Int32) <<< (nI q &&& 31)) ^^^ ((-1) : Int32)))) ql qp qpl qn
      obtain ⟨v, e4, e5⟩ := order_s hm hpo hpo' (hY 15) (hY ((15 : Int32) &&& (((1 : Int32) <<< (nI q &&& 31)) ^^^ ((-1) : Int32))))
      rw [L_X5_keysThatMatter_29, L_X6_matters_4, keysM_s hB, e3, e5]
      simp only [Option.bind_some, nI_1, if_neg hge, e4]
      by_cases hv : v = 0
      · simp only [if_pos hv]
        exact ⟨(_, _, _, _, _), _, rfl, rfl, rfl⟩
      · simp only [if_neg hv, Int32.or_zero]
        exact ⟨(_, _, _, _, _), _, rfl, rfl, rfl⟩
  obtain ⟨r, q, e1, e2, e3⟩ := key
  unfold f_X6_matters
  refine ⟨r, q, e1, ?_, e3⟩
  rw [show (L_X6_matters_4 w (nI m) 4000 0 0) = _ from e2]
  rfl
theorem fewest_n (hW : WFu (k, z, t, n, g, ks, kb, kw, kc, ss, hs, hn)) (hB : RBu (k, z, t, n, g, ks, kb, kw, kc, ss, hs, hn) w 0) {N : Nat} (hN : N < 16) (hall : ∀ x, x < N + 1 → pc x ≤ pc N) (hk1 : ((1 : Int32) <<< (kc &&& 31)) = nI (N + 1)) (hk2 : ((1 : Int32) <<< (kc &&& 31)) - 1 = nI N) (hm : m ≤ 12) (hL : f_X0_length k z ks kb kc ss = some (nI m)) (hC : ∀ S, CPs t g ks kb kw n kc S (vP g t n ks kb kw kc S) m) (hY : ∀ S, BY w S (vP g t n ks kb kw kc S) m) (hpo : PO (vP g t n ks kb kw kc 15) m po) (ql qp qpl : Nat → Int32) (qn : Int32) : ∃ r v, L_X5_fewestKeys_41 k z t n g ks kb kw kc ss po (nI m) (((1 : Int32) <<< (kc &&& 31)) - 1) 4000 (((1 : Int32) <<< (kc &&& 31)) - 1) 0 ql qp qpl qn = some r ∧ f_X6_fewest w (nI m) = some v ∧ r.1 = v := by
  have key : ∀ F G, 20 < F → 20 < G → ∃ r q, L_X5_fewestKeys_41 k z t n g ks kb kw kc ss po (nI m) (nI (N)) G (nI (N)) (nI 0) ql qp qpl qn = some r ∧ L_X6_fewest_11 w (nI m) (F + 1) (nI (N)) (nI 0) = some q ∧ r.1 = q := by
    intro F G hF hG
    refine lock (fun f q (s : Int32 × (Nat → Int32) × (Nat → Int32) × (Nat → Int32) × Int32) => L_X5_fewestKeys_41 k z t n g ks kb kw kc ss po (nI m) (nI (N)) f s.1 (nI q) s.2.1 s.2.2.1 s.2.2.2.1 s.2.2.2.2) (fun f q (s : Int32) => L_X6_fewest_11 w (nI m) (f + 1) s (nI q)) (fun _ a b => a.1 = b ∧ ∃ x, x < N + 1 ∧ b = nI x) (fun r q => r.1 = q) (N) ?_ ?_ (N) 0 G F (nI (N), ql, qp, qpl, qn) (nI (N)) (by omega) (by omega) (by omega) ⟨rfl, N, by omega, rfl⟩
    · rintro f g' ⟨a, ql, qp, qpl, qn⟩ b ⟨h, x, hx, hxe⟩
      have h' : a = b := h
      subst h'
      show ∃ r q, L_X5_fewestKeys_41 k z t n g ks kb kw kc ss po (nI m) (nI (N)) (f + 1) a (nI (N)) ql qp qpl qn = some r ∧ L_X6_fewest_11 w (nI m) (g' + 1 + 1) a (nI (N)) = some q ∧ r.1 = q
      have hpc := hall x hx
      generalize hG : g' + 1 = G
      rw [L_X5_fewestKeys_41, if_pos (nI_le (by omega) (by omega))]
      refine ⟨_, a, rfl, ?_, rfl⟩
      rw [L_X6_fewest_11, keysM_s hB, hxe, ones_d N hN, ones_d x (by omega), Option.bind_some, hk1]
      have c1 : ¬ nI (N + 1) ≤ nI (N) := nI_ge (by omega) (by omega)
      have c2 : nI (pc x) ≤ nI (pc N) := nI_le hpc (by unfold pc; omega)
      rw [if_neg c1, Option.bind_some, Option.bind_some, if_pos c2, Option.bind_some, nI_1]
      subst hG
      rw [L_X6_fewest_11, keysM_s hB, Option.bind_some, hk1, if_pos (nI_le (by omega) (by omega))]
    · rintro f g' q ⟨a, ql, qp, qpl, qn⟩ b hq ⟨h, x, hx, hxe⟩
      have h' : a = b := h
      subst h'
      refine Or.inl ?_
      show ∃ (s' : Int32 × (Nat → Int32) × (Nat → Int32) × (Nat → Int32) × Int32) (t' : Int32), _ ∧ L_X5_fewestKeys_41 k z t n g ks kb kw kc ss po (nI m) (nI (N)) (f + 1) a (nI q) ql qp qpl qn = L_X5_fewestKeys_41 k z t n g ks kb kw kc ss po (nI m) (nI (N)) f s'.1 (nI (q + 1)) s'.2.1 s'.2.2.1 s'.2.2.2.1 s'.2.2.2.2 ∧ L_X6_fewest_11 w (nI m) (g' + 1 + 1) a (nI q) = L_X6_fewest_11 w (nI m) (g' + 1) t' (nI (q + 1))
      generalize g' + 1 = G
      have hge : ¬ nI (N) ≤ nI q := nI_ge hq (by omega)
      have hge2 : ¬ nI (N + 1) ≤ nI q := nI_ge (by omega) (by omega)
      obtain ⟨le', po', pl', e3, _, hpo', _⟩ := sortP_s hm hL (hC (nI q)) ql qp qpl qn
      obtain ⟨v, e4, e5⟩ := order_s hm hpo hpo' (hY 15) (hY (nI q))
      rw [L_X6_fewest_11, keysM_s hB, hxe, e5, ones_d q (by omega), ones_d x (by omega), Option.bind_some, hk1, if_neg hge2, Option.bind_some, Option.bind_some]
      rw [L_X5_fewestKeys_41, if_neg hge, e3, bitCount_d q (by omega), bitCount_d x (by omega)]
      rw [Option.bind_some, Option.bind_some, Option.bind_some]
      by_cases hc : nI (pc x) ≤ nI (pc q)
      · refine ⟨(nI x, le', po', pl', nI m), nI x, ⟨rfl, x, hx, rfl⟩, ?_, ?_⟩
        · rw [if_pos hc, Option.bind_some, nI_1]
        · rw [if_pos hc, Option.bind_some, nI_1]
      · rw [if_neg hc, if_neg hc]
        rw [show f_X4_hasOrderOf po (nI m) (le', po', pl', nI m).2.1 (le', po', pl', nI m).2.2.2 = some v from e4, Option.bind_some]
        by_cases hv : v = 0
        · refine ⟨(nI x, le', po', pl', nI m), nI x, ⟨rfl, x, hx, rfl⟩, ?_, ?_⟩
          · rw [if_pos hv, Option.bind_some, nI_1]
          · rw [Option.bind_some, if_pos hv, Option.bind_some, nI_1]
        · refine ⟨(nI q, le', po', pl', nI m), nI q, ⟨rfl, q, by omega, rfl⟩, ?_, ?_⟩
          · rw [if_neg hv, Option.bind_some, nI_1]
          · rw [Option.bind_some, if_neg hv, Option.bind_some, nI_1]
  obtain ⟨r, q, e1, e2, e3⟩ := key 3999 4000 (by omega) (by omega)
  rw [hk2]
  refine ⟨r, q, e1, ?_, e3⟩
  unfold f_X6_fewest
  rw [keysM_s hB, Option.bind_some, hk2, Option.bind_some]
  rw [show (4000 : Nat) = 3999 + 1 from rfl, n0, e2]
  rfl
theorem fewest_s (hW : WFu (k, z, t, n, g, ks, kb, kw, kc, ss, hs, hn)) (hB : RBu (k, z, t, n, g, ks, kb, kw, kc, ss, hs, hn) w 0) (hm : m ≤ 12) (hL : f_X0_length k z ks kb kc ss = some (nI m)) (hC : ∀ S, CPs t g ks kb kw n kc S (vP g t n ks kb kw kc S) m) (hY : ∀ S, BY w S (vP g t n ks kb kw kc S) m) (hpo : PO (vP g t n ks kb kw kc 15) m po) (ql qp qpl : Nat → Int32) (qn : Int32) : ∃ r v, L_X5_fewestKeys_41 k z t n g ks kb kw kc ss po (nI m) (((1 : Int32) <<< (kc &&& 31)) - 1) 4000 (((1 : Int32) <<< (kc &&& 31)) - 1) 0 ql qp qpl qn = some r ∧ f_X6_fewest w (nI m) = some v ∧ r.1 = v := by
  obtain ⟨K, hK, eK⟩ := kcin hW
  obtain ⟨s1, s2⟩ := shl_d K hK
  have hp : 2 ^ K ≤ 16 := Nat.pow_le_pow_right (n := 2) (by omega) (show K ≤ 4 by omega)
  have h1 : 1 ≤ 2 ^ K := Nat.one_le_two_pow
  obtain ⟨N, hN⟩ : ∃ N, 2 ^ K = N + 1 := ⟨2 ^ K - 1, by omega⟩
  have hN1 : 2 ^ K - 1 = N := by omega
  rw [hN1] at s2
  rw [hN] at s1
  rw [← eK] at s1 s2
  refine fewest_n hW hB (N := N) (by omega) ?_ s1 s2 hm hL hC hY hpo ql qp qpl qn
  intro x hx
  have := pc_d K hK x (by omega)
  rw [hN1] at this
  omega
end MT2
