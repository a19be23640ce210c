/-! loops: alone, side by side, adding up -/
theorem solo {σ ρ : Type} (L : Nat → Nat → σ → Option ρ) (I : Nat → σ → Prop) (Q : ρ → Prop) (m : Nat)
    (h0 : ∀ f s, I m s → ∃ r, L (f + 1) m s = some r ∧ Q r)
    (h1 : ∀ f q s, q < m → I q s → (∃ s', I (q + 1) s' ∧ L (f + 1) q s = L f (q + 1) s') ∨ (∃ r, L (f + 1) q s = some r ∧ Q r)) :
    ∀ d q f s, q + d = m → d < f → I q s → ∃ r, L f q s = some r ∧ Q r := by
  intro d
  induction d with
  | zero =>
    intro q f s hq hf hs
    obtain ⟨f, rfl⟩ : ∃ g, f = g + 1 := ⟨f - 1, by omega⟩
    have : q = m := by omega
    subst this
    exact h0 f s hs
  | succ d ih =>
    intro q f s hq hf hs
    obtain ⟨f, rfl⟩ : ∃ g, f = g + 1 := ⟨f - 1, by omega⟩
    rcases h1 f q s (by omega) hs with ⟨s', h, e⟩ | h
    · rw [e]
      exact ih (q + 1) f s' (by omega) (by omega) h
    · exact h
theorem lock {σ τ ρ π : Type} (L1 : Nat → Nat → σ → Option ρ) (L2 : Nat → Nat → τ → Option π) (R : Nat → σ → τ → Prop) (Q : ρ → π → Prop) (m : Nat)
    (h0 : ∀ f g s t, R m s t → ∃ r p, L1 (f + 1) m s = some r ∧ L2 (g + 1) m t = some p ∧ Q r p)
    (h1 : ∀ f g q s t, q < m → R q s t → (∃ s' t', R (q + 1) s' t' ∧ L1 (f + 1) q s = L1 f (q + 1) s' ∧ L2 (g + 1) q t = L2 g (q + 1) t') ∨ (∃ r p, L1 (f + 1) q s = some r ∧ L2 (g + 1) q t = some p ∧ Q r p)) :
    ∀ d q f g s t, q + d = m → d < f → d < g → R q s t → ∃ r p, L1 f q s = some r ∧ L2 g q t = some p ∧ Q r p := by
  intro d
  induction d with
  | zero =>
    intro q f g s t hq hf hg hs
    obtain ⟨f, rfl⟩ : ∃ h, f = h + 1 := ⟨f - 1, by omega⟩
    obtain ⟨g, rfl⟩ : ∃ h, g = h + 1 := ⟨g - 1, by omega⟩
    have : q = m := by omega
    subst this
    exact h0 f g s t hs
  | succ d ih =>
    intro q f g s t hq hf hg hs
    obtain ⟨f, rfl⟩ : ∃ h, f = h + 1 := ⟨f - 1, by omega⟩
    obtain ⟨g, rfl⟩ : ∃ h, g = h + 1 := ⟨g - 1, by omega⟩
    rcases h1 f g q s t (by omega) hs with ⟨s', t', h, e1, e2⟩ | h
    · rw [e1, e2]
      exact ih (q + 1) f g s' t' (by omega) (by omega) (by omega) h
    · exact h
/-- a sum -/
def sm (F : Nat → Nat) : Nat → Nat
  | 0 => 0
  | m + 1 => sm F m + F m
theorem sm_sh (F : Nat → Nat) (m : Nat) : sm F (m + 1) = F 0 + sm (fun i => F (i + 1)) m := by
  induction m with
  | zero => show 0 + F 0 = F 0 + 0; omega
  | succ m ih => rw [sm, ih, sm]; omega
theorem sm_cg {F G : Nat → Nat} {m : Nat} (h : ∀ i, i < m → F i = G i) : sm F m = sm G m := by
  induction m with
  | zero => rfl
  | succ m ih => rw [sm, sm, ih (fun i hi => h i (by omega)), h m (by omega)]
theorem sm_add (F G : Nat → Nat) (m : Nat) : sm (fun i => F i + G i) m = sm F m + sm G m := by
  induction m with
  | zero => rfl
  | succ m ih => rw [sm, sm, sm, ih]; omega
theorem cn_sm (P : Nat → Bool) (m : Nat) : cn P m = sm (fun i => if P i = true then 1 else 0) m := by
  induction m with
  | zero => rfl
  | succ m ih => rw [cn, sm, ih]
theorem cn_sh (P : Nat → Bool) (m : Nat) : cn P (m + 1) = (if P 0 = true then 1 else 0) + cn (fun i => P (i + 1)) m := by
  rw [cn_sm, sm_sh, cn_sm]
theorem sloop (L : Nat → Int32 → Int32 → Option Int32) (F : Nat → Nat) (m : Nat)
    (h0 : ∀ f a, L (f + 1) a (nI m) = some a)
    (h1 : ∀ f a q, q < m → L (f + 1) a (nI q) = L f (a + nI (F q)) (nI (q + 1))) :
    ∀ d q f a, q + d = m → d < f → L f (nI a) (nI q) = some (nI (a + sm (fun i => F (q + i)) d)) := by
  intro d
  induction d with
  | zero =>
    intro q f a hq hf
    obtain ⟨f, rfl⟩ : ∃ h, f = h + 1 := ⟨f - 1, by omega⟩
    have : q = m := by omega
    subst this
    exact h0 f _
  | succ d ih =>
    intro q f a hq hf
    obtain ⟨f, rfl⟩ : ∃ h, f = h + 1 := ⟨f - 1, by omega⟩
    rw [h1 f _ q (by omega), nI_add, ih (q + 1) f _ (by omega) (by omega), sm_sh]
    congr 2
    rw [Nat.add_zero, Nat.add_assoc]
    congr 2
    exact sm_cg (fun i _ => by rw [Nat.add_assoc, Nat.add_comm 1 i])
theorem cloop (L : Nat → Int32 → Int32 → Option Int32) (P : Nat → Bool) (m : Nat)
    (h0 : ∀ f a, L (f + 1) a (nI m) = some a)
    (h1 : ∀ f a q, q < m → P q = true → L (f + 1) a (nI q) = L f (a + 1) (nI (q + 1)))
    (h2 : ∀ f a q, q < m → P q = false → L (f + 1) a (nI q) = L f a (nI (q + 1))) :
    ∀ d q f a, q + d = m → d < f → L f (nI a) (nI q) = some (nI (a + cn (fun i => P (q + i)) d)) := by
  intro d q f a hq hf
  rw [cn_sm]
  refine sloop L (fun i => if P i = true then 1 else 0) m h0 ?_ d q f a hq hf
  intro f a q hq
  cases hP : P q
  · rw [h2 f a q hq hP, if_neg (by decide)]
    congr 1
    exact (Int32.add_zero a).symm
  · rw [h1 f a q hq hP, if_pos rfl]
    rfl
/-- the counting loop from the start -/
theorem cloop0 (L : Nat → Int32 → Int32 → Option Int32) (P : Nat → Bool) (m : Nat) (hm : m < 4000)
    (h0 : ∀ f a, L (f + 1) a (nI m) = some a)
    (h1 : ∀ f a q, q < m → P q = true → L (f + 1) a (nI q) = L f (a + 1) (nI (q + 1)))
    (h2 : ∀ f a q, q < m → P q = false → L (f + 1) a (nI q) = L f a (nI (q + 1))) : L 4000 0 0 = some (nI (cn P m)) := by
  have := cloop L P m h0 h1 h2 m 0 4000 0 (by omega) (by omega)
  rw [Nat.zero_add, cn_cg (Q := P) (fun q _ => by rw [Nat.zero_add])] at this
  exact this
/-- the sum over pairs, by the one and by the other -/
theorem sm_swap (F : Nat → Nat → Nat) (m : Nat) : sm (fun p => sm (fun q => F q p) p) m = sm (fun a => sm (fun i => F a (a + 1 + i)) (m - (a + 1))) m := by
  induction m with
  | zero => rfl
  | succ m ih =>
    rw [sm, ih, sm, Nat.sub_self]
    show _ = _ + 0
    rw [Nat.add_zero, ← sm_add]
    refine sm_cg (fun a ha => ?_)
    obtain ⟨d, hd⟩ : ∃ d, m = a + 1 + d := ⟨m - (a + 1), by omega⟩
    rw [show m + 1 - (a + 1) = (m - (a + 1)) + 1 by omega, sm]
    congr 1
    rw [hd]
    congr 1
    omega
