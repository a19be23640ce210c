/-! counting -/
def cn (P : Nat → Bool) : Nat → Nat
  | 0 => 0
  | m + 1 => cn P m + (if P m = true then 1 else 0)
theorem cn_le (P : Nat → Bool) (m : Nat) : cn P m ≤ m := by
  induction m with
  | zero => exact Nat.le_refl _
  | succ m ih =>
    rw [cn]
    by_cases h : P m = true
    · rw [if_pos h]; omega
    · rw [if_neg h]; omega
theorem cn_t {P : Nat → Bool} {m : Nat} (h : P m = true) : cn P (m + 1) = cn P m + 1 := by rw [cn, if_pos h]
theorem cn_f {P : Nat → Bool} {m : Nat} (h : P m = false) : cn P (m + 1) = cn P m := by rw [cn, if_neg (by rw [h]; decide), Nat.add_zero]
theorem cn_mono {P Q : Nat → Bool} {m : Nat} (h : ∀ q, q < m → P q = true → Q q = true) : cn P m ≤ cn Q m := by
  induction m with
  | zero => exact Nat.le_refl _
  | succ m ih =>
    have h1 := ih (fun q hq => h q (by omega))
    cases hP : P m
    · rw [cn_f hP, cn]; omega
    · rw [cn_t hP, cn_t (h m (by omega) hP)]; omega
theorem cn_cg {P Q : Nat → Bool} {m : Nat} (h : ∀ q, q < m → P q = Q q) : cn P m = cn Q m := by
  have h1 := cn_mono (P := P) (Q := Q) (m := m) (fun q hq e => (h q hq).symm.trans e)
  have h2 := cn_mono (P := Q) (Q := P) (m := m) (fun q hq e => (h q hq).trans e)
  omega
theorem cn_lt {P Q : Nat → Bool} {m p : Nat} (h : ∀ q, q < m → P q = true → Q q = true) (hp : p < m) (h1 : P p = false) (h2 : Q p = true) : cn P m < cn Q m := by
  induction m with
  | zero => omega
  | succ m ih =>
    by_cases e : p = m
    · subst e
      have := cn_mono (P := P) (Q := Q) (m := p) (fun q hq => h q (by omega))
      rw [cn_f h1, cn_t h2]; omega
    · have h3 := ih (fun q hq => h q (by omega)) (by omega)
      cases hP : P m
      · rw [cn_f hP, cn]; omega
      · rw [cn_t hP, cn_t (h m (by omega) hP)]; omega
theorem cn_all (m : Nat) : cn (fun _ => true) m = m := by
  induction m with
  | zero => rfl
  | succ m ih => rw [cn_t rfl, ih]
theorem cn_ltm {P : Nat → Bool} {m p : Nat} (hp : p < m) (h : P p = false) : cn P m < m := by
  have := cn_lt (P := P) (Q := fun _ => true) (m := m) (fun _ _ _ => rfl) hp h rfl
  rw [cn_all] at this
  exact this
theorem cn_or {P Q : Nat → Bool} {m : Nat} (h : ∀ q, q < m → ¬ (P q = true ∧ Q q = true)) : cn (fun q => P q || Q q) m = cn P m + cn Q m := by
  induction m with
  | zero => rfl
  | succ m ih =>
    have h1 := ih (fun q hq => h q (by omega))
    have h2 := h m (by omega)
    cases hP : P m
    · cases hQ : Q m
      · rw [cn_f hP, cn_f hQ, cn_f (by show (P m || Q m) = false; rw [hP, hQ]; rfl), h1]
      · rw [cn_f hP, cn_t hQ, cn_t (by show (P m || Q m) = true; rw [hP, hQ]; rfl), h1]; omega
    · cases hQ : Q m
      · rw [cn_t hP, cn_f hQ, cn_t (by show (P m || Q m) = true; rw [hP, hQ]; rfl), h1]; omega
      · exact absurd ⟨hP, hQ⟩ h2
theorem cn_cut {P : Nat → Bool} {m p : Nat} (hp : p ≤ m) : cn (fun q => P q && decide (q < p)) m = cn P p := by
  obtain ⟨d, rfl⟩ : ∃ d, m = p + d := ⟨m - p, by omega⟩
  clear hp
  induction d with
  | zero => exact cn_cg (fun q hq => by show (P q && decide (q < p)) = P q; rw [decide_eq_true (by omega), Bool.and_true])
  | succ d ih =>
    rw [← Nat.add_assoc, cn_f (by show (P (p + d) && decide (p + d < p)) = false; rw [decide_eq_false (by omega), Bool.and_false])]
    exact ih
/-- how many are less -/
def ls (V : Nat → Int) (m p : Nat) : Nat := cn (fun q => decide (V q < V p)) m
theorem ls_lt {V : Nat → Int} {m p q : Nat} (hp : p < m) (h : V p < V q) : ls V m p < ls V m q :=
  cn_lt (fun r _ e => decide_eq_true (by have := of_decide_eq_true e; omega)) hp (decide_eq_false (by omega)) (decide_eq_true h)
theorem ls_cg {V : Nat → Int} {m p q : Nat} (h : V p = V q) : ls V m p = ls V m q := by unfold ls; rw [h]
theorem ls_lti {V : Nat → Int} {m p q : Nat} (hp : p < m) (hq : q < m) : ((ls V m p : Int) < ls V m q) ↔ V p < V q := by
  constructor
  · intro h
    rcases Int.lt_trichotomy (V p) (V q) with h1 | h1 | h1
    · exact h1
    · have := ls_cg (m := m) h1; omega
    · have := ls_lt hq h1; omega
  · intro h
    have := ls_lt hp h; omega
theorem ls_eqi {V : Nat → Int} {m p q : Nat} (hp : p < m) (hq : q < m) : ((ls V m p : Int) = ls V m q) ↔ V p = V q := by
  constructor
  · intro h
    rcases Int.lt_trichotomy (V p) (V q) with h1 | h1 | h1
    · have := ls_lt hp h1; omega
    · exact h1
    · have := ls_lt hq h1; omega
  · intro h
    have := ls_cg (m := m) h; omega
theorem sg_ls {V : Nat → Int} {m p q : Nat} (hp : p < m) (hq : q < m) : sg (ls V m p) (ls V m q) = sg (V p) (V q) := sg_cg (ls_lti hp hq) (ls_eqi hp hq)
theorem ls_m {V : Nat → Int} {m p : Nat} (hp : p < m) : ls V m p < m := cn_ltm hp (decide_eq_false (by omega))
theorem ls_le (V : Nat → Int) (m p : Nat) : ls V m p ≤ m := cn_le _ _
/-- the value with the place behind it: no two are alike -/
def wV (V : Nat → Int) (p : Nat) : Int := V p * 16 + p
/-- a place's position -/
def ps (V : Nat → Int) (m p : Nat) : Nat := ls (wV V) m p
theorem ps_m {V : Nat → Int} {m p : Nat} (hp : p < m) : ps V m p < m := ls_m hp
theorem ps_inj {V : Nat → Int} {m p q : Nat} (hm : m ≤ 12) (hp : p < m) (hq : q < m) (h : ps V m p = ps V m q) : p = q := by
  have := (ls_eqi (V := wV V) hp hq).mp (by unfold ps at h; omega)
  unfold wV at this
  omega
theorem wV_lt {V : Nat → Int} {p q : Nat} (hp : p < 12) (hq : q < 12) : decide (wV V q < wV V p) = (decide (V q < V p) || (decide (V q = V p) && decide (q < p))) := by
  unfold wV
  by_cases h1 : V q < V p
  · rw [decide_eq_true h1, decide_eq_true (by omega)]; rfl
  · rw [decide_eq_false h1]
    by_cases h2 : V q = V p
    · rw [decide_eq_true h2]
      by_cases h3 : q < p
      · rw [decide_eq_true h3, decide_eq_true (by omega)]; rfl
      · rw [decide_eq_false h3, decide_eq_false (by omega)]; rfl
    · rw [decide_eq_false h2, decide_eq_false (by omega)]; rfl
theorem ps_eq {V : Nat → Int} {m p : Nat} (hm : m ≤ 12) (hp : p < m) : ps V m p = ls V m p + cn (fun q => decide (V q = V p)) p := by
  unfold ps ls
  rw [cn_cg (Q := fun q => decide (V q < V p) || (decide (V q = V p) && decide (q < p))) (fun q hq => wV_lt (by omega) (by omega)), cn_or, cn_cut (P := fun q => decide (V q = V p)) (by omega)]
  intro q _ h
  have h1 := of_decide_eq_true h.1
  have h2 := h.2
  rw [Bool.and_eq_true] at h2
  have := of_decide_eq_true h2.1
  omega
/-- as many in, as many out -/
theorem pigeon : ∀ (m : Nat) (f : Nat → Nat), (∀ i, i < m → f i < m) → (∀ i j, i < m → j < m → f i = f j → i = j) → ∀ k, k < m → ∃ i, i < m ∧ f i = k := by
  intro m
  induction m with
  | zero => intro f _ _ k hk; omega
  | succ m ih =>
    intro f h1 h2 k hk
    by_cases hka : f m = k
    · exact ⟨m, by omega, hka⟩
    have ham := h1 m (by omega)
    have key : ∀ l, l < m → ∃ i, i < m ∧ (if f i = m then f m else f i) = l := by
      refine ih (fun i => if f i = m then f m else f i) ?_ ?_
      · intro i hi
        have := h1 i (by omega)
        show (if f i = m then f m else f i) < m
        by_cases e : f i = m
        · rw [if_pos e]
          have : f m ≠ m := fun q => by have := h2 i m (by omega) (by omega) (e.trans q.symm); omega
          omega
        · rw [if_neg e]; omega
      · intro i j hi hj
        show (if f i = m then f m else f i) = (if f j = m then f m else f j) → i = j
        by_cases e : f i = m
        · by_cases e2 : f j = m
          · exact fun _ => h2 i j (by omega) (by omega) (e.trans e2.symm)
          · rw [if_pos e, if_neg e2]
            intro q
            have := h2 m j (by omega) (by omega) q; omega
        · by_cases e2 : f j = m
          · rw [if_neg e, if_pos e2]
            intro q
            have := h2 i m (by omega) (by omega) q; omega
          · rw [if_neg e, if_neg e2]
            exact h2 i j (by omega) (by omega)
    by_cases hkm : k = m
    · obtain ⟨i, hi, e⟩ := key (f m) (by omega)
      by_cases e2 : f i = m
      · exact ⟨i, by omega, by omega⟩
      · rw [if_neg e2] at e
        have := h2 i m (by omega) (by omega) e; omega
    · obtain ⟨i, hi, e⟩ := key k (by omega)
      by_cases e2 : f i = m
      · rw [if_pos e2] at e; exact absurd e hka
      · rw [if_neg e2] at e; exact ⟨i, by omega, e⟩
theorem ps_surj {V : Nat → Int} {m k : Nat} (hm : m ≤ 12) (hk : k < m) : ∃ p, p < m ∧ ps V m p = k :=
  pigeon m (ps V m) (fun _ h => ps_m h) (fun _ _ h1 h2 => ps_inj hm h1 h2) k hk
