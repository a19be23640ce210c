/-! the cells moved by a plan -/
section MV1
variable {k z t g ks kb kw : Nat → Int32} {n : Nat → Int64} {kc ss hs : Int32} {hn : Int64} {w : Nat → Int64}
variable {m : Nat} {φ : Nat → Nat} {vf wf : Nat → Int32}
/-- both plans say the same -/
def PLN (m : Nat) (φ : Nat → Nat) (vf wf : Nat → Int32) : Prop := ∀ p, p < m → φ p < m ∧ vf p = nI (φ p) ∧ wf p = nI (φ p)
theorem rd_c (hm : m ≤ 12) (hP : PLN m φ vf wf) {s : Nat} (hs' : s < 6) (os0 : Nat → Int32) (on0 : Nat → Int64) : ∃ os on, L_X3_applyToSlot_2 t n vf (nI m) (nI s) 4000 0 os0 on0 = some (os, on) ∧ ∀ p, p < m → os p = t (12 * s + φ p) ∧ on p = n (12 * s + φ p) := by
  have key : ∃ r, L_X3_applyToSlot_2 t n vf (nI m) (nI s) 4000 (nI 0) os0 on0 = some r ∧ ∀ p, p < m → r.1 p = t (12 * s + φ p) ∧ r.2 p = n (12 * s + φ p) := by
    refine solo (fun f q (a : (Nat → Int32) × (Nat → Int64)) => L_X3_applyToSlot_2 t n vf (nI m) (nI s) f (nI q) a.1 a.2) (fun q a => ∀ p, p < q → a.1 p = t (12 * s + φ p) ∧ a.2 p = n (12 * s + φ p)) _ m ?_ ?_ m 0 4000 (os0, on0) (by omega) (by omega) (fun p hp => by omega)
    · rintro f ⟨a, b⟩ hI
      refine ⟨(a, b), ?_, hI⟩
      show L_X3_applyToSlot_2 t n vf (nI m) (nI s) (f + 1) (nI m) a b = _
      rw [L_X3_applyToSlot_2, if_pos (nI_le (by omega) (by omega))]
    · rintro f q ⟨a, b⟩ hq hI
      refine Or.inl ?_
      show ∃ (s' : (Nat → Int32) × (Nat → Int64)), _ ∧ L_X3_applyToSlot_2 t n vf (nI m) (nI s) (f + 1) (nI q) a b = L_X3_applyToSlot_2 t n vf (nI m) (nI s) f (nI (q + 1)) s'.1 s'.2
      obtain ⟨h1, h2, h3⟩ := hP q hq
      have hge : ¬ nI m ≤ nI q := nI_ge hq (by omega)
      have h12 : ¬ (12 : Int32) ≤ nI q := show ¬ nI 12 ≤ nI q from nI_ge (by omega) (by omega)
      rw [L_X3_applyToSlot_2, if_neg hge, if_neg h12]
      simp only [ib_n (show q < 12 by omega) (show 12 < 2 ^ 31 by omega), if_true, nI_clamp (show q < 2 ^ 31 by omega), h2, sortAt_n hs' (show φ q < 12 by omega), numberAt_n hs' (show φ q < 12 by omega), Option.bind_some, nI_1]
      refine ⟨(_, _), ?_, rfl⟩
      intro p hp
      show upd a q (t (12 * s + φ q)) p = _ ∧ vp_updL b q (n (12 * s + φ q)) p = _
      by_cases e : p = q
      · subst e; rw [pk_us, pk_uLs]; exact ⟨rfl, rfl⟩
      · rw [pk_un e, pk_uLn e]; exact hI p (by omega)
  obtain ⟨r, e, h⟩ := key
  exact ⟨r.1, r.2, e, h⟩
theorem rd_m (hm : m ≤ 12) {s : Nat} (hs' : s < 6) (hs0 hn0 : Nat → Int64) : ∃ hS hN, L_X6_moves_13 w (nI m) (nI s) 4000 0 hs0 hn0 = some (hS, hN) ∧ ∀ p, p < m → hS p = w (12 + (12 * s + p)) ∧ hN p = w (84 + (12 * s + p)) := by
  have key : ∃ r, L_X6_moves_13 w (nI m) (nI s) 4000 (nI 0) hs0 hn0 = some r ∧ ∀ p, p < m → r.1 p = w (12 + (12 * s + p)) ∧ r.2 p = w (84 + (12 * s + p)) := by
    refine solo (fun f q (a : (Nat → Int64) × (Nat → Int64)) => L_X6_moves_13 w (nI m) (nI s) f (nI q) a.1 a.2) (fun q a => ∀ p, p < q → a.1 p = w (12 + (12 * s + p)) ∧ a.2 p = w (84 + (12 * s + p))) _ m ?_ ?_ m 0 4000 (hs0, hn0) (by omega) (by omega) (fun p hp => by omega)
    · rintro f ⟨a, b⟩ hI
      refine ⟨(a, b), ?_, hI⟩
      show L_X6_moves_13 w (nI m) (nI s) (f + 1) (nI m) a b = _
      rw [L_X6_moves_13, if_pos (nI_le (by omega) (by omega))]
    · rintro f q ⟨a, b⟩ hq hI
      refine Or.inl ?_
      show ∃ (s' : (Nat → Int64) × (Nat → Int64)), _ ∧ L_X6_moves_13 w (nI m) (nI s) (f + 1) (nI q) a b = L_X6_moves_13 w (nI m) (nI s) f (nI (q + 1)) s'.1 s'.2
      have hge : ¬ nI m ≤ nI q := nI_ge hq (by omega)
      have e1 : (12 : Int32) + nI (12 * s + q) = nI (12 + (12 * s + q)) := by rw [n12, nI_add]
      have e2 : (84 : Int32) + nI (12 * s + q) = nI (84 + (12 * s + q)) := by rw [n84, nI_add]
      have i1 := ib_n (show 12 + (12 * s + q) < 3420 by omega) (show 3420 < 2 ^ 31 by omega)
      have i2 := ib_n (show 84 + (12 * s + q) < 3420 by omega) (show 3420 < 2 ^ 31 by omega)
      rw [L_X6_moves_13, if_neg hge, atM_n]
      simp only [ib_n (show q < 12 by omega) (show 12 < 2 ^ 31 by omega), if_true, nI_clamp (show q < 2 ^ 31 by omega), Option.bind_some, nI_1, e1, e2, i1, i2, nI_clamp (show 12 + (12 * s + q) < 2 ^ 31 by omega), nI_clamp (show 84 + (12 * s + q) < 2 ^ 31 by omega)]
      refine ⟨(_, _), ?_, rfl⟩
      intro p hp
      show vp_updL a q (w (12 + (12 * s + q))) p = _ ∧ vp_updL b q (w (84 + (12 * s + q))) p = _
      by_cases e : p = q
      · subst e; rw [pk_uLs, pk_uLs]; exact ⟨rfl, rfl⟩
      · rw [pk_uLn e, pk_uLn e]; exact hI p (by omega)
  obtain ⟨r, e, h⟩ := key
  exact ⟨r.1, r.2, e, h⟩
theorem slot_s (hW : WFu (k, z, t, n, g, ks, kb, kw, kc, ss, hs, hn)) (hB : RBu (k, z, t, n, g, ks, kb, kw, kc, ss, hs, hn) w 0) (hm : m ≤ 12) (hP : PLN m φ vf wf) {s : Nat} (hs' : s < 6) (hc : hb ss s = true) (os0 : Nat → Int32) (on0 hs0 hn0 : Nat → Int64) : ∃ (t' : Nat → Int32) (n' w' : Nat → Int64) (os : Nat → Int32) (on hS hN : Nat → Int64), f_X3_applyToSlot t n vf os0 on0 (nI m) (nI s) = some (t', n', os, on) ∧ L_X6_moves_13 w (nI m) (nI s) 4000 0 hs0 hn0 = some (hS, hN) ∧ L_X6_moves_70 wf hS hN (nI m) (nI s) 4000 0 w = some w' ∧ WFu (k, z, t', n', g, ks, kb, kw, kc, ss, hs, hn) ∧ RBu (k, z, t', n', g, ks, kb, kw, kc, ss, hs, hn) w' 0 ∧ ∀ j, 180 ≤ j → w' j = w j := by
  obtain ⟨os, on, e1, h1⟩ := rd_c (t := t) (n := n) hm hP hs' os0 on0
  obtain ⟨hS, hN, e2, h2⟩ := rd_m (w := w) hm hs' hs0 hn0
  have key : ∃ r p, L_X3_applyToSlot_58 os on (nI m) (nI s) 4000 (nI 0) t n = some r ∧ L_X6_moves_70 wf hS hN (nI m) (nI s) 4000 (nI 0) w = some p ∧ (RBu (k, z, r.1, r.2, g, ks, kb, kw, kc, ss, hs, hn) p 0 ∧ (∀ i, i < m → r.1 (12 * s + i) = t (12 * s + φ i) ∧ r.2 (12 * s + i) = n (12 * s + φ i)) ∧ (∀ c, (c < 12 * s ∨ 12 * s + m ≤ c) → r.1 c = t c ∧ r.2 c = n c) ∧ ∀ j, 180 ≤ j → p j = w j) := by
    refine lock (fun f q (a : (Nat → Int32) × (Nat → Int64)) => L_X3_applyToSlot_58 os on (nI m) (nI s) f (nI q) a.1 a.2) (fun f q (v : Nat → Int64) => L_X6_moves_70 wf hS hN (nI m) (nI s) f (nI q) v) (fun q r p => RBu (k, z, r.1, r.2, g, ks, kb, kw, kc, ss, hs, hn) p 0 ∧ (∀ i, i < q → r.1 (12 * s + i) = t (12 * s + φ i) ∧ r.2 (12 * s + i) = n (12 * s + φ i)) ∧ (∀ c, (c < 12 * s ∨ 12 * s + m ≤ c) → r.1 c = t c ∧ r.2 c = n c) ∧ ∀ j, 180 ≤ j → p j = w j) _ m ?_ ?_ m 0 4000 4000 (t, n) w (by omega) (by omega) (by omega) ⟨hB, fun i hi => by omega, fun _ _ => ⟨rfl, rfl⟩, fun _ _ => rfl⟩
    · rintro f g' ⟨a, b⟩ v hI
      refine ⟨(a, b), v, ?_, ?_, hI⟩
      · show L_X3_applyToSlot_58 os on (nI m) (nI s) (f + 1) (nI m) a b = _
        rw [L_X3_applyToSlot_58, if_pos (nI_le (by omega) (by omega))]
      · show L_X6_moves_70 wf hS hN (nI m) (nI s) (g' + 1) (nI m) v = _
        rw [L_X6_moves_70, if_pos (nI_le (by omega) (by omega))]
    · rintro f g' q ⟨a, b⟩ v hq ⟨q1, q2, q3, q4⟩
      refine Or.inl ?_
      show ∃ (s' : (Nat → Int32) × (Nat → Int64)) (v' : Nat → Int64), _ ∧ L_X3_applyToSlot_58 os on (nI m) (nI s) (f + 1) (nI q) a b = L_X3_applyToSlot_58 os on (nI m) (nI s) f (nI (q + 1)) s'.1 s'.2 ∧ L_X6_moves_70 wf hS hN (nI m) (nI s) (g' + 1) (nI q) v = L_X6_moves_70 wf hS hN (nI m) (nI s) g' (nI (q + 1)) v'
      obtain ⟨p1, p2, p3⟩ := hP q hq
      have hge : ¬ nI m ≤ nI q := nI_ge hq (by omega)
      have h12 : ¬ (12 : Int32) ≤ nI q := show ¬ nI 12 ≤ nI q from nI_ge (by omega) (by omega)
      have hbt : ¬ bI true = 0 := by decide
      have e1 : (12 : Int32) + nI (12 * s + q) = nI (12 + (12 * s + q)) := by rw [n12, nI_add]
      have e2 : (84 : Int32) + nI (12 * s + q) = nI (84 + (12 * s + q)) := by rw [n84, nI_add]
      have i1 := ib_n (show 12 + (12 * s + q) < 3420 by omega) (show 3420 < 2 ^ 31 by omega)
      have i2 := ib_n (show 84 + (12 * s + q) < 3420 by omega) (show 3420 < 2 ^ 31 by omega)
      have iq := ib_n (show q < 12 by omega) (show 12 < 2 ^ 31 by omega)
      have iφ := ib_n (show φ q < 12 by omega) (show 12 < 2 ^ 31 by omega)
      have hv1 : hS (φ q) = Int32.toInt64 (t (12 * s + φ q)) := by rw [(h2 (φ q) p1).1, (rb2 hB (by omega)).1]
      have hv2 : hN (φ q) = n (12 * s + φ q) := by rw [(h2 (φ q) p1).2, (rb2 hB (by omega)).2]
      rw [L_X3_applyToSlot_58, L_X6_moves_70, if_neg hge, if_neg hge, if_neg h12, sheetM_s q1, Option.bind_some, has_s, hc, Option.bind_some, if_neg hbt, atM_n, setCell_n hs' (show q < 12 by omega)]
      simp only [iq, iφ, if_true, nI_clamp (show q < 2 ^ 31 by omega), p3, nI_clamp (show φ q < 2 ^ 31 by omega), Option.bind_some, nI_1, e1, e2, i1, i2, nI_clamp (show 12 + (12 * s + q) < 2 ^ 31 by omega), nI_clamp (show 84 + (12 * s + q) < 2 ^ 31 by omega), (h1 q hq).1, (h1 q hq).2, hv1, hv2]
      refine ⟨(_, _), _, ⟨setCB q1 (by omega) (t (12 * s + φ q)) (n (12 * s + φ q)), fun i hi => ?_, fun c hc => ?_, fun j hj => ?_⟩, rfl, rfl⟩
      · show upd a (12 * s + q) _ (12 * s + i) = _ ∧ vp_updL b (12 * s + q) _ (12 * s + i) = _
        by_cases e : i = q
        · subst e; rw [pk_us, pk_uLs]; exact ⟨rfl, rfl⟩
        · rw [pk_un (by omega), pk_uLn (by omega)]; exact q2 i (by omega)
      · show upd a (12 * s + q) _ c = _ ∧ vp_updL b (12 * s + q) _ c = _
        rw [pk_un (by omega), pk_uLn (by omega)]; exact q3 c hc
      · rw [pk_uLn (by omega), pk_uLn (by omega)]; exact q4 j hj
  obtain ⟨r, p, g1, g2, g3, g4, g5, g6⟩ := key
  refine ⟨r.1, r.2, p, os, on, hS, hN, ?_, e2, g2, ?_, g3, g6⟩
  · unfold f_X3_applyToSlot
    rw [e1, Option.bind_some, show L_X3_applyToSlot_58 os on (nI m) (nI s) 4000 0 t n = _ from g1]
    rfl
  · refine ⟨hW.1, fun s' i hs2 hi => ?_, hW.2.2⟩
    show okV (r.1 (12 * s' + i)) (r.2 (12 * s' + i)) ∧ ((k s').toInt ≤ 7 → r.1 (12 * s' + i) = k s')
    by_cases e : s' = s ∧ i < m
    · obtain ⟨rfl, e⟩ := e
      rw [(g4 i e).1, (g4 i e).2]
      exact hW.2.1 s' (φ i) hs2 (by have := (hP i e).1; omega)
    · rw [(g5 (12 * s' + i) (by omega)).1, (g5 (12 * s' + i) (by omega)).2]
      exact hW.2.1 s' i hs2 hi
theorem moves_s (hW : WFu (k, z, t, n, g, ks, kb, kw, kc, ss, hs, hn)) (hB : RBu (k, z, t, n, g, ks, kb, kw, kc, ss, hs, hn) w 0) (hm : m ≤ 12) (hP : PLN m φ vf wf) (os0 : Nat → Int32) (on0 hs0 hn0 : Nat → Int64) : ∃ (t' : Nat → Int32) (n' w' : Nat → Int64) (os : Nat → Int32) (on hS hN : Nat → Int64) (cnt : Int32), f_X3_applyTo t n ss vf os0 on0 (nI m) = some (t', n', os, on) ∧ f_X3_countMoved vf (nI m) = some cnt ∧ f_X6_moves w wf hs0 hn0 (nI m) = some (cnt, w', hS, hN) ∧ WFu (k, z, t', n', g, ks, kb, kw, kc, ss, hs, hn) ∧ RBu (k, z, t', n', g, ks, kb, kw, kc, ss, hs, hn) w' 0 ∧ ∀ j, 180 ≤ j → w' j = w j := by
  have key : ∃ r p, L_X3_applyTo_2 ss vf (nI m) 4000 (nI 0) t n os0 on0 = some r ∧ L_X6_moves_4 wf (nI m) 4000 (nI 0) w hs0 hn0 = some p ∧ (WFu (k, z, r.1, r.2.1, g, ks, kb, kw, kc, ss, hs, hn) ∧ RBu (k, z, r.1, r.2.1, g, ks, kb, kw, kc, ss, hs, hn) p.1 0 ∧ ∀ j, 180 ≤ j → p.1 j = w j) := by
    refine lock (fun f q (a : (Nat → Int32) × (Nat → Int64) × (Nat → Int32) × (Nat → Int64)) => L_X3_applyTo_2 ss vf (nI m) f (nI q) a.1 a.2.1 a.2.2.1 a.2.2.2) (fun f q (v : (Nat → Int64) × (Nat → Int64) × (Nat → Int64)) => L_X6_moves_4 wf (nI m) f (nI q) v.1 v.2.1 v.2.2) (fun q r p => WFu (k, z, r.1, r.2.1, g, ks, kb, kw, kc, ss, hs, hn) ∧ RBu (k, z, r.1, r.2.1, g, ks, kb, kw, kc, ss, hs, hn) p.1 0 ∧ ∀ j, 180 ≤ j → p.1 j = w j) _ 6 ?_ ?_ 6 0 4000 4000 (t, n, os0, on0) (w, hs0, hn0) (by omega) (by omega) (by omega) ⟨hW, hB, fun _ _ => rfl⟩
    · rintro f g' ⟨a, b, c, d⟩ ⟨v, v1, v2⟩ hI
      exact ⟨_, _, rfl, rfl, hI⟩
    · rintro f g' q ⟨a, b, c, d⟩ ⟨v, v1, v2⟩ hq ⟨q1, q2, q3⟩
      refine Or.inl ?_
      show ∃ (s' : (Nat → Int32) × (Nat → Int64) × (Nat → Int32) × (Nat → Int64)) (v' : (Nat → Int64) × (Nat → Int64) × (Nat → Int64)), _ ∧ L_X3_applyTo_2 ss vf (nI m) (f + 1) (nI q) a b c d = L_X3_applyTo_2 ss vf (nI m) f (nI (q + 1)) s'.1 s'.2.1 s'.2.2.1 s'.2.2.2 ∧ L_X6_moves_4 wf (nI m) (g' + 1) (nI q) v v1 v2 = L_X6_moves_4 wf (nI m) g' (nI (q + 1)) v'.1 v'.2.1 v'.2.2
      have h6 : ¬ (6 : Int32) ≤ nI q := show ¬ nI 6 ≤ nI q from nI_ge (by omega) (by omega)
      cases hc : hb ss q
      · obtain ⟨hS, hN, e2, h2⟩ := rd_m (w := v) hm hq v1 v2
        have e3 : L_X6_moves_70 wf hS hN (nI m) (nI q) 4000 0 v = some v := by
          rw [n0, L_X6_moves_70]
          by_cases h0 : nI m ≤ nI 0
          · rw [if_pos h0]
          · rw [if_neg h0, sheetM_s q2, Option.bind_some, has_s, hc, Option.bind_some, if_pos bI_f]
        have hnb : ¬ ((ss >>> (nI q &&& 31)) &&& 1) = 1 := fun e => by rw [hb_t.mp e] at hc; exact Bool.noConfusion hc
        rw [L_X3_applyTo_2, L_X6_moves_4, if_neg h6, if_neg h6, if_neg hnb, e2]
        simp only [Option.bind_some, e3, nI_1]
        exact ⟨(a, b, c, d), (v, hS, hN), ⟨q1, q2, q3⟩, rfl, rfl⟩
      · obtain ⟨t', n', w', os, on, hS, hN, g1, g2, g3, g4, g5, g6⟩ := slot_s q1 q2 hm hP hq hc c d v1 v2
        rw [L_X3_applyTo_2, L_X6_moves_4, if_neg h6, if_neg h6, if_pos (hb_t.mpr hc), g1, g2]
        simp only [Option.bind_some, g3, nI_1]
        exact ⟨(t', n', os, on), (w', hS, hN), ⟨g4, g5, fun j hj => (g6 j hj).trans (q3 j hj)⟩, rfl, rfl⟩
  obtain ⟨r, p, e1, e2, h1, h2, h3⟩ := key
  have c1 : f_X3_countMoved vf (nI m) = some (nI (cn (fun p => decide (¬ φ p = p)) m)) := by
    unfold f_X3_countMoved
    rw [cloop0 (L_X3_countMoved_4 vf (nI m)) (fun p => decide (¬ φ p = p)) m (by omega)]
    · rfl
    · intro f a
      rw [L_X3_countMoved_4, if_pos (nI_le (by omega) (by omega))]
    · intro f a q hq hp
      obtain ⟨p1, p2, p3⟩ := hP q hq
      have h12 : ¬ (12 : Int32) ≤ nI q := show ¬ nI 12 ≤ nI q from nI_ge (by omega) (by omega)
      have hne : ¬ nI (φ q) = nI q := fun e => of_decide_eq_true hp ((nI_eq (by omega) (by omega)).mp e)
      rw [L_X3_countMoved_4, if_neg (nI_ge hq (by omega)), if_neg h12, if_pos (ib_n (by omega) (by omega)), nI_clamp (by omega), p2, if_neg hne]
      simp only [Option.bind_some, nI_1]
    · intro f a q hq hp
      obtain ⟨p1, p2, p3⟩ := hP q hq
      have h12 : ¬ (12 : Int32) ≤ nI q := show ¬ nI 12 ≤ nI q from nI_ge (by omega) (by omega)
      have heq : nI (φ q) = nI q := by rw [Classical.not_not.mp (of_decide_eq_false hp)]
      rw [L_X3_countMoved_4, if_neg (nI_ge hq (by omega)), if_neg h12, if_pos (ib_n (by omega) (by omega)), nI_clamp (by omega), p2, if_pos heq]
      simp only [Option.bind_some, nI_1]
  have c2 : L_X6_moves_153 wf (nI m) 4000 0 0 = some (nI (cn (fun p => decide (¬ φ p = p)) m)) := by
    refine cloop0 (L_X6_moves_153 wf (nI m)) (fun p => decide (¬ φ p = p)) m (by omega) ?_ ?_ ?_
    · intro f a
      rw [L_X6_moves_153, if_pos (nI_le (by omega) (by omega))]
    · intro f a q hq hp
      obtain ⟨p1, p2, p3⟩ := hP q hq
      have hne : ¬ nI (φ q) = nI q := fun e => of_decide_eq_true hp ((nI_eq (by omega) (by omega)).mp e)
      rw [L_X6_moves_153, if_neg (nI_ge hq (by omega)), if_pos (ib_n (by omega) (by omega)), nI_clamp (by omega), p3, if_neg hne]
      simp only [Option.bind_some, nI_1]
    · intro f a q hq hp
      obtain ⟨p1, p2, p3⟩ := hP q hq
      have heq : nI (φ q) = nI q := by rw [Classical.not_not.mp (of_decide_eq_false hp)]
      rw [L_X6_moves_153, if_neg (nI_ge hq (by omega)), if_pos (ib_n (by omega) (by omega)), nI_clamp (by omega), p3, if_pos heq]
      simp only [Option.bind_some, nI_1, Int32.add_zero]
  refine ⟨r.1, r.2.1, p.1, r.2.2.1, r.2.2.2, p.2.1, p.2.2, _, ?_, c1, ?_, h1, h2, h3⟩
  · unfold f_X3_applyTo
    rw [show L_X3_applyTo_2 ss vf (nI m) 4000 0 t n os0 on0 = _ from e1]
    rfl
  · unfold f_X6_moves
    rw [show L_X6_moves_4 wf (nI m) 4000 0 w hs0 hn0 = _ from e2, c2]
    rfl
/-- remember, then the moves: both -/
theorem rearr_s {ir is ik : Nat → Int32} {rnd nx ct un sd en kct : Int32} {hst : HT} {kp kq bp bq : Nat → Int32} (hR : Rel (k, z, t, n, g, ks, kb, kw, kc, ss, hs, hn) ir rnd nx ct hst kp kq kct w is ik un sd en bp bq) (hm : m ≤ 12) (hP : PLN m φ vf wf) (os0 : Nat → Int32) (on0 hs0 hn0 : Nat → Int64) {w' : Nat → Int64} {un' : Int32} (hmd : f_X6_minds w un = some (w', un')) : ∃ (zc : Int32 × (Nat → Int32) × (Nat → Int64) × Int32 × Int32 × (Nat → Int32) × (Nat → Int64) × HT) (w'' hS hN : Nat → Int64), f_X5_rearrange k z t n g ks kb kw kc ss hs hn nx ct vf os0 on0 (nI m) hst = some zc ∧ f_X6_moves w' wf hs0 hn0 (nI m) = some (zc.1, w'', hS, hN) ∧ Rel (k, z, zc.2.1, zc.2.2.1, g, ks, kb, kw, kc, ss, hs, hn) ir rnd zc.2.2.2.1 zc.2.2.2.2.1 zc.2.2.2.2.2.2.2 kp kq kct w'' is ik un' sd en bp bq := by
  obtain ⟨hW, hB, hH, hI, hS0, hK⟩ := hR
  obtain ⟨nx', ct', hs', w1, un1, e1, e2, hB', hH', hI'⟩ := remember_s hW hB hH hI
  rw [hmd] at e2
  have e3 := Option.some.inj e2
  have e4 : w' = w1 := congrArg Prod.fst e3
  have e5 : un' = un1 := congrArg Prod.snd e3
  subst e4 e5
  obtain ⟨t', n', w'', os, on, hS, hN, cnt, g1, g2, g3, g4, g5, g6⟩ := moves_s hW hB' hm hP os0 on0 hs0 hn0
  refine ⟨(cnt, t', n', nx', ct', os, on, hs'), w'', hS, hN, ?_, g3, relD g4 g5 g6 hH' hI' hS0 hK⟩
  unfold f_X5_rearrange
  rw [e1, g1, g2]
  rfl
end MV1
