/-! plans: what is added to both -/
theorem cn_single {m x : Nat} (hx : x < m) : cn (fun y => decide (y = x)) m = 1 := by
  induction m with
  | zero => omega
  | succ m ih =>
    by_cases e : m = x
    · subst e
      rw [cn_t (decide_eq_true rfl)]
      have : cn (fun y => decide (y = m)) m = cn (fun _ => false) m := cn_cg (fun q hq => decide_eq_false (by omega))
      rw [this]
      have z : ∀ l, cn (fun _ => false) l = 0 := by
        intro l
        induction l with
        | zero => rfl
        | succ l ih => rw [cn_f rfl, ih]
      rw [z]
    · rw [cn_f (decide_eq_false e), ih (by omega)]
/-- the plans hold the places of D, each once, one after the other -/
def AD (m c : Nat) (D : Nat → Bool) (vf wf : Nat → Int32) : Prop := c = cn D m ∧ ∀ j, j < c → ∃ x, x < m ∧ vf j = nI x ∧ wf j = nI x
theorem AD_cg {m c : Nat} {D E : Nat → Bool} {vf wf : Nat → Int32} (h : AD m c D vf wf) (e : ∀ x, x < m → D x = E x) : AD m c E vf wf := ⟨h.1.trans (cn_cg e), h.2⟩
theorem AD_lt {m c x : Nat} {D : Nat → Bool} {vf wf : Nat → Int32} (h : AD m c D vf wf) (hx : x < m) (hD : D x = false) : c < m := by rw [h.1]; exact cn_ltm hx hD
theorem AD_add {m c x : Nat} {D E : Nat → Bool} {vf wf : Nat → Int32} (h : AD m c D vf wf) (hx : x < m) (hD : D x = false) (hE : ∀ y, y < m → E y = (D y || decide (y = x))) : AD m (c + 1) E (upd vf c (nI x)) (upd wf c (nI x)) := by
  obtain ⟨h1, h2⟩ := h
  refine ⟨?_, fun j hj => ?_⟩
  · rw [cn_cg hE, cn_or, cn_single hx, h1]
    intro q _ hh
    have := of_decide_eq_true hh.2
    rw [this, hD] at hh
    exact Bool.noConfusion hh.1
  · by_cases e : j = c
    · subst e; rw [pk_us, pk_us]; exact ⟨x, hx, rfl, rfl⟩
    · rw [pk_un e, pk_un e]; exact h2 j (by omega)
theorem AD_all {m c : Nat} {D : Nat → Bool} {vf wf : Nat → Int32} (hm : m ≤ 12) (h : AD m c D vf wf) (e : ∀ x, x < m → D x = true) : c = m ∧ ∃ φ, PLN m φ vf wf := by
  have hc : c = m := by rw [h.1, cn_cg e, cn_all]
  subst hc
  refine ⟨rfl, fun j => (vf j).toNatClampNeg, fun p hp => ?_⟩
  obtain ⟨x, hx, e1, e2⟩ := h.2 p hp
  show (vf p).toNatClampNeg < c ∧ vf p = nI (vf p).toNatClampNeg ∧ wf p = nI (vf p).toNatClampNeg
  rw [e1, nI_clamp (by omega)]
  exact ⟨hx, rfl, e2⟩
theorem add_s (vf : Nat → Int32) {c x : Nat} (hc : c < 12) (hx : x < 12) : f_X3_add vf (nI c) (nI x) = some (upd vf c (nI x), nI (c + 1)) := by
  unfold f_X3_add
  have h1 : ¬ (12 : Int32) ≤ nI c := show ¬ nI 12 ≤ nI c from nI_ge hc (by omega)
  have h2 : ¬ (12 : Int32) ≤ nI x := show ¬ nI 12 ≤ nI x from nI_ge hx (by omega)
  simp only [if_neg (nI_pos (show c < 2 ^ 31 by omega)), if_neg h1, if_neg (nI_pos (show x < 2 ^ 31 by omega)), if_neg h2, ib_n hc (show 12 < 2 ^ 31 by omega), if_true, nI_clamp (show c < 2 ^ 31 by omega), Option.bind_some, nI_1]
section PA1
variable {V : Nat → Int} {m : Nat} {le : Nat → Int32} {w : Nat → Int64}
/-- less, alike or greater -/
def relN (V : Nat → Int) (p x : Nat) : Nat := if V x < V p then 0 else if V x = V p then 1 else 2
theorem relN_s (V : Nat → Int) (p x : Nat) : sg (V x) (V p) + 1 = nI (relN V p x) ∧ sg (V x) (V p) = nI (relN V p x) - (1 : Int32) ∧ relN V p x < 3 := by
  unfold relN
  rcases sg_cases (V x) (V p) with ⟨h, e⟩ | ⟨h, e⟩ | ⟨h, e⟩ <;> rw [e]
  · rw [if_pos h]; decide
  · rw [if_neg (by omega), if_pos h]; decide
  · rw [if_neg (by omega), if_neg (by omega)]; decide
def Dg (rel : Nat → Nat) (g q x : Nat) : Bool := decide (rel x < g) || (decide (rel x = g) && decide (x < q))
theorem Dg_off {rel : Nat → Nat} {g q : Nat} : Dg rel g q q = false ∨ rel q < g := by
  by_cases h : rel q < g
  · exact Or.inr h
  · refine Or.inl ?_
    unfold Dg
    rw [decide_eq_false h, decide_eq_false (show ¬ q < q by omega), Bool.and_false]; rfl
theorem Dg_same {rel : Nat → Nat} {g q x : Nat} (h : ¬ rel q = g) : Dg rel g q x = Dg rel g (q + 1) x := by
  unfold Dg
  by_cases e : x = q
  · subst e; rw [decide_eq_false h, Bool.false_and, Bool.false_and]
  · congr 2
    exact decide_eq_decide.mpr (by omega)
theorem Dg_add {rel : Nat → Nat} {g q x : Nat} (h : rel q = g) : Dg rel g (q + 1) x = (Dg rel g q x || decide (x = q)) := by
  unfold Dg
  by_cases e : x = q
  · subst e
    rw [decide_eq_true h, decide_eq_true (show x < x + 1 by omega), decide_eq_true rfl, Bool.and_true, Bool.or_true, Bool.or_true]
  · rw [decide_eq_false e, Bool.or_false]
    congr 2
    exact decide_eq_decide.mpr (by omega)
theorem Dg_next {rel : Nat → Nat} {g m x : Nat} (hx : x < m) : Dg rel g m x = Dg rel (g + 1) 0 x := by
  unfold Dg
  rw [decide_eq_true hx, Bool.and_true, decide_eq_false (show ¬ x < 0 by omega), Bool.and_false, Bool.or_false, ← Bool.decide_or]
  exact decide_eq_decide.mpr (by omega)
theorem partIn (hm : m ≤ 12) (hl : LE V m le) (hy : BY w 15 V m) {p g : Nat} (hp : p < m) (hg : g < 3) (vf wf : Nat → Int32) (c : Nat) (h : AD m c (Dg (relN V p) g 0) vf wf) : ∃ vf' wf' c', L_X5_part_43 le (nI m) (nI p) (nI g) 4000 0 vf (nI c) = some (vf', nI c') ∧ L_X6_part_34 w (nI p) (nI m) (nI g - (1 : Int32)) 4000 (nI c) 0 wf = some (nI c', wf') ∧ AD m c' (Dg (relN V p) (g + 1) 0) vf' wf' := by
  have key : ∃ r s, L_X5_part_43 le (nI m) (nI p) (nI g) 4000 (nI 0) vf (nI c) = some r ∧ L_X6_part_34 w (nI p) (nI m) (nI g - (1 : Int32)) 4000 (nI c) (nI 0) wf = some s ∧ ∃ c', r.2 = nI c' ∧ s.1 = nI c' ∧ AD m c' (Dg (relN V p) g m) r.1 s.2 := by
    refine lock (fun f q (a : (Nat → Int32) × Int32) => L_X5_part_43 le (nI m) (nI p) (nI g) f (nI q) a.1 a.2) (fun f q (a : Int32 × (Nat → Int32)) => L_X6_part_34 w (nI p) (nI m) (nI g - (1 : Int32)) f a.1 (nI q) a.2) (fun q r s => ∃ c', r.2 = nI c' ∧ s.1 = nI c' ∧ AD m c' (Dg (relN V p) g q) r.1 s.2) _ m ?_ ?_ m 0 4000 4000 (vf, nI c) (nI c, wf) (by omega) (by omega) (by omega) ⟨c, rfl, rfl, h⟩
    · rintro f f' ⟨v, c1⟩ ⟨c2, u⟩ hI
      refine ⟨(v, c1), (c2, u), ?_, ?_, hI⟩
      · show L_X5_part_43 le (nI m) (nI p) (nI g) (f + 1) (nI m) v c1 = _
        rw [L_X5_part_43, if_pos (nI_le (by omega) (by omega))]
      · show L_X6_part_34 w (nI p) (nI m) (nI g - (1 : Int32)) (f' + 1) c2 (nI m) u = _
        rw [L_X6_part_34, if_pos (nI_le (by omega) (by omega))]
    · rintro f f' q ⟨v, c1⟩ ⟨c2, u⟩ hq ⟨c', e1, e2, hA⟩
      refine Or.inl ?_
      have e1' : c1 = nI c' := e1
      have e2' : c2 = nI c' := e2
      subst e1' e2'
      show ∃ (s' : (Nat → Int32) × Int32) (t' : Int32 × (Nat → Int32)), _ ∧ L_X5_part_43 le (nI m) (nI p) (nI g) (f + 1) (nI q) v (nI c') = L_X5_part_43 le (nI m) (nI p) (nI g) f (nI (q + 1)) s'.1 s'.2 ∧ L_X6_part_34 w (nI p) (nI m) (nI g - (1 : Int32)) (f' + 1) (nI c') (nI q) u = L_X6_part_34 w (nI p) (nI m) (nI g - (1 : Int32)) f' t'.1 (nI (q + 1)) t'.2
      have hge : ¬ nI m ≤ nI q := nI_ge hq (by omega)
      obtain ⟨r1, r2, r3⟩ := relN_s V p q
      rw [L_X5_part_43, L_X6_part_34, if_neg hge, if_neg hge, cbr_s hm hl hq hp, hy q p hq hp]
      simp only [Option.bind_some, rel_s, nI_1]
      rw [r1, r2]
      by_cases hr : relN V p q = g
      · have hD : Dg (relN V p) g q q = false := by
          rcases Dg_off (rel := relN V p) (g := g) (q := q) with x | x
          · exact x
          · omega
        have hcm := AD_lt hA hq hD
        rw [if_pos (show nI (relN V p q) = nI g by rw [hr]), if_pos (show nI (relN V p q) - (1 : Int32) = nI g - (1 : Int32) by rw [hr]), add_s v (by omega) (by omega)]
        simp only [Option.bind_some, ib_n (show c' < 12 by omega) (show 12 < 2 ^ 31 by omega), if_true, nI_clamp (show c' < 2 ^ 31 by omega), nI_1]
        exact ⟨(_, _), (_, _), ⟨c' + 1, rfl, rfl, AD_add hA hq hD (fun y _ => Dg_add hr)⟩, rfl, rfl⟩
      · have hne : ¬ nI (relN V p q) = nI g := fun e => hr ((nI_eq (by omega) (by omega)).mp e)
        have hne2 : ¬ nI (relN V p q) - (1 : Int32) = nI g - (1 : Int32) := by
          intro e
          have e3 := congrArg (fun v => v + (1 : Int32)) e
          simp only [Int32.sub_add_cancel] at e3
          exact hne e3
        rw [if_neg hne, if_neg hne2]
        exact ⟨(_, _), (_, _), ⟨c', rfl, rfl, AD_cg hA (fun y _ => Dg_same hr)⟩, rfl, rfl⟩
  obtain ⟨⟨v, c1⟩, ⟨c2, u⟩, g1, g2, c', e1, e2, hA⟩ := key
  have e1' : c1 = nI c' := e1
  have e2' : c2 = nI c' := e2
  subst e1' e2'
  exact ⟨v, u, c', g1, g2, AD_cg hA (fun y hy => Dg_next hy)⟩
theorem part_s (hm : m ≤ 12) (hl : LE V m le) (hy : BY w 15 V m) {p : Nat} (hp : p < m) (vf wf : Nat → Int32) : ∃ vf' wf', L_X5_part_36 le (nI m) (nI p) 4000 0 vf 0 = some (vf', nI m) ∧ L_X6_part_25 w (nI p) (nI m) 4000 0 (-1) wf = some wf' ∧ ∃ φ, PLN m φ vf' wf' := by
  have key : ∃ r s, L_X5_part_36 le (nI m) (nI p) 4000 (nI 0) vf (nI 0) = some r ∧ L_X6_part_25 w (nI p) (nI m) 4000 (nI 0) (nI 0 - (1 : Int32)) wf = some s ∧ ∃ c', r.2 = nI c' ∧ AD m c' (Dg (relN V p) 3 0) r.1 s := by
    refine lock (fun f q (a : (Nat → Int32) × Int32) => L_X5_part_36 le (nI m) (nI p) f (nI q) a.1 a.2) (fun f q (a : Int32 × (Nat → Int32)) => L_X6_part_25 w (nI p) (nI m) f a.1 (nI q - (1 : Int32)) a.2) (fun q r s => ∃ c', r.2 = nI c' ∧ s.1 = nI c' ∧ AD m c' (Dg (relN V p) q 0) r.1 s.2) _ 3 ?_ ?_ 3 0 4000 4000 (vf, nI 0) (nI 0, wf) (by omega) (by omega) (by omega) ⟨0, rfl, rfl, ?_, fun j hj => by omega⟩
    · rintro f f' ⟨v, c1⟩ ⟨c2, u⟩ ⟨c', e1, e2, hA⟩
      exact ⟨(v, c1), u, rfl, rfl, c', e1, hA⟩
    · rintro f f' q ⟨v, c1⟩ ⟨c2, u⟩ hq ⟨c', e1, e2, hA⟩
      refine Or.inl ?_
      have e1' : c1 = nI c' := e1
      have e2' : c2 = nI c' := e2
      subst e1' e2'
      show ∃ (s' : (Nat → Int32) × Int32) (t' : Int32 × (Nat → Int32)), _ ∧ L_X5_part_36 le (nI m) (nI p) (f + 1) (nI q) v (nI c') = L_X5_part_36 le (nI m) (nI p) f (nI (q + 1)) s'.1 s'.2 ∧ L_X6_part_25 w (nI p) (nI m) (f' + 1) (nI c') (nI q - (1 : Int32)) u = L_X6_part_25 w (nI p) (nI m) f' t'.1 (nI (q + 1) - (1 : Int32)) t'.2
      obtain ⟨v', u', c2, g1, g2, hA'⟩ := partIn hm hl hy hp hq v u c' hA
      have h2 : ¬ (2 : Int32) < nI q := show ¬ nI 2 < nI q from nI_nlt (by omega) (by omega)
      have h3 : ¬ (2 : Int32) ≤ nI q - (1 : Int32) := by
        have : q = 0 ∨ q = 1 ∨ q = 2 := by omega
        rcases this with rfl | rfl | rfl <;> decide
      have h4 : nI q - (1 : Int32) + 1 = nI (q + 1) - (1 : Int32) := by
        rw [nI_pred, Int32.sub_add_cancel]
      rw [L_X5_part_36, L_X6_part_25, if_neg h2, if_neg h3, g1, g2]
      simp only [Option.bind_some, nI_1, h4]
      exact ⟨(v', nI c2), (nI c2, u'), ⟨c2, rfl, rfl, hA'⟩, rfl, rfl⟩
    · have : cn (Dg (relN V p) 0 0) m = cn (fun _ => false) m := cn_cg (fun q hq => by
        unfold Dg
        rw [decide_eq_false (show ¬ relN V p q < 0 by omega), decide_eq_false (show ¬ q < 0 by omega), Bool.and_false]; rfl)
      rw [this]
      have z : ∀ l, cn (fun _ => false) l = 0 := by
        intro l
        induction l with
        | zero => rfl
        | succ l ih => rw [cn_f rfl, ih]
      rw [z]
  obtain ⟨⟨v, c1⟩, s, g1, g2, c', e1, hA⟩ := key
  have e1' : c1 = nI c' := e1
  subst e1'
  obtain ⟨hc, hφ⟩ := AD_all hm hA (fun x hx => by
    unfold Dg
    rw [decide_eq_true (relN_s V p x).2.2]; rfl)
  subst hc
  exact ⟨v, s, g1, g2, hφ⟩
/-- the place that has a position -/
noncomputable def inv (V : Nat → Int) (m k : Nat) : Nat := Classical.epsilon (fun p => p < m ∧ ps V m p = k)
end PA1
