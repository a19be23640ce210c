/-! the pool: benches that were made to remember states, at unknown places; j < 16 the ring, 16 and 17 the images -/
abbrev BT : Type := (Nat → Int32) × (Nat → Int32) × (Nat → Int32) × (Nat → Int64) × (Nat → Int32) × (Nat → Int32) × (Nat → Int32) × (Nat → Int32) × Int32 × Int32 × Int32 × Int64
abbrev PT : Type := Nat → Option ((Nat → Nat) × BT)
abbrev wB (cI cJ : ClassId) (o : Nat → Nat) (u : BT) : va_W := [oX0 o u.2.2.2.2.2.2.2.2.1 u.2.2.2.2.2.2.2.2.2.1 u.2.2.2.2.2.2.2.2.2.2.1 u.2.2.2.2.2.2.2.2.2.2.2, aI cI (o 1) 6 u.1, aI cI (o 2) 6 u.2.1, aI cI (o 3) 72 u.2.2.1, aJ cJ (o 4) 72 u.2.2.2.1, aI cI (o 5) 8 u.2.2.2.2.1, aI cI (o 6) 4 u.2.2.2.2.2.1, aI cI (o 7) 4 u.2.2.2.2.2.2.1, aI cI (o 8) 4 u.2.2.2.2.2.2.2.1]
def wO (cI cJ : ClassId) (y : Option ((Nat → Nat) × BT)) : va_W := match y with
  | none => []
  | some x => wB cI cJ x.1 x.2
def plW (cI cJ : ClassId) (pl : PT) : Nat → va_W
  | 0 => []
  | n + 1 => wO cI cJ (pl n) ++ plW cI cJ pl n
/-- what the pool holds, without the places -/
def hsOf (pl : PT) : Nat → Option BT := fun j => (pl j).map (·.2)
/-- the ring's and the images' rows -/
def hB (pl : PT) : Nat → Option Nat := fun j => (pl j).map (fun x => x.1 0)
def iB (pl : PT) : Nat → Option Nat := fun j => (pl (16 + j)).map (fun x => x.1 0)
theorem plW_congr {cI cJ : ClassId} {p q : PT} : ∀ {n : Nat}, (∀ j, j < n → p j = q j) → plW cI cJ p n = plW cI cJ q n
  | 0, _ => rfl
  | n + 1, h => by
    show wO cI cJ (p n) ++ plW cI cJ p n = wO cI cJ (q n) ++ plW cI cJ q n
    rw [h n (Nat.lt_succ_self n), plW_congr (fun j hj => h j (Nat.lt_succ_of_lt hj))]
theorem plW_pick {cI cJ : ClassId} {pl : PT} {j : Nat} : ∀ {n : Nat}, j < n → (plW cI cJ pl n).Perm (wO cI cJ (pl j) ++ plW cI cJ (va_up pl j none) n)
  | n + 1, h => by
    by_cases hj : j = n
    · subst hj
      have e : plW cI cJ (va_up pl j none) (j + 1) = plW cI cJ pl j := by
        show wO cI cJ (va_up pl j none j) ++ plW cI cJ (va_up pl j none) j = _
        rw [va_up_self]
        exact plW_congr (fun i hi => va_up_ne _ _ (by omega))
      rw [e]
      exact List.Perm.refl _
    · have h1 : (plW cI cJ pl n).Perm (wO cI cJ (pl j) ++ plW cI cJ (va_up pl j none) n) := plW_pick (by omega)
      have e : plW cI cJ (va_up pl j none) (n + 1) = wO cI cJ (pl n) ++ plW cI cJ (va_up pl j none) n := by
        show wO cI cJ (va_up pl j none n) ++ _ = _
        rw [va_up_ne _ _ (fun q => hj q.symm)]
      rw [e]
      show (wO cI cJ (pl n) ++ plW cI cJ pl n).Perm _
      exact (List.Perm.append_left _ h1).trans (List.perm_append_comm_assoc _ _ _)
theorem plW_put {cI cJ : ClassId} {pl : PT} {j : Nat} {x : (Nat → Nat) × BT} {n : Nat} (h : j < n) : (plW cI cJ (va_up pl j (some x)) n).Perm (wB cI cJ x.1 x.2 ++ plW cI cJ (va_up pl j none) n) := by
  have h1 := plW_pick (cI := cI) (cJ := cJ) (pl := va_up pl j (some x)) h
  rw [va_up_self] at h1
  have e : plW cI cJ (va_up (va_up pl j (some x)) j none) n = plW cI cJ (va_up pl j none) n := plW_congr (fun i _ => by by_cases hi : i = j <;> simp [va_up, hi])
  rw [e] at h1
  exact h1
theorem va_P.perm {D : va_G} {cl : List vw_C} {ws ws' : va_W} {H : Heap} (h : va_P D cl ws H) (p : ws.Perm ws') : va_P D cl ws' H := by
  intro k q hk
  obtain ⟨i, hi⟩ := List.getElem?_of_mem (p.mem_iff.mpr (List.mem_of_getElem? hk))
  exact h i q hi
theorem va_D.nod {A : Nat → Prop} {ws : va_W} (h : va_D A ws) : (ws.map Prod.fst).Nodup := by
  rw [List.nodup_iff_pairwise_ne, List.pairwise_iff_getElem]
  intro i j hi hj hij e
  rw [List.length_map] at hi hj
  rw [List.getElem_map, List.getElem_map] at e
  have := h.1 i j ws[i] ws[j] (List.getElem?_eq_getElem hi) (List.getElem?_eq_getElem hj) e
  omega
theorem va_D.mk' {A : Nat → Prop} {ws : va_W} (hn : (ws.map Prod.fst).Nodup) (hA : ∀ a ∈ ws.map Prod.fst, A a) : va_D A ws := by
  refine ⟨fun i j p q hi hj hpq => ?_, fun k q hk => hA _ (List.mem_map_of_mem (List.mem_of_getElem? hk))⟩
  rw [List.nodup_iff_pairwise_ne, List.pairwise_iff_getElem] at hn
  obtain ⟨hi1, hi2⟩ := List.getElem?_eq_some_iff.mp hi
  obtain ⟨hj1, hj2⟩ := List.getElem?_eq_some_iff.mp hj
  rcases Nat.lt_trichotomy i j with h | h | h
  · exact absurd (by rw [List.getElem_map, List.getElem_map, hi2, hj2]; exact hpq) (hn i j (by rw [List.length_map]; exact hi1) (by rw [List.length_map]; exact hj1) h)
  · exact h
  · exact absurd (by rw [List.getElem_map, List.getElem_map, hi2, hj2]; exact hpq.symm) (hn j i (by rw [List.length_map]; exact hj1) (by rw [List.length_map]; exact hi1) h)
theorem va_D.al {A : Nat → Prop} {ws : va_W} (h : va_D A ws) : ∀ a ∈ ws.map Prod.fst, A a := by
  intro a ha
  obtain ⟨q, hq, rfl⟩ := List.mem_map.mp ha
  obtain ⟨i, hi⟩ := List.getElem?_of_mem hq
  exact h.2 i q hi
theorem va_D.perm {A : Nat → Prop} {ws ws' : va_W} (h : va_D A ws) (p : ws.Perm ws') : va_D A ws' :=
  va_D.mk' ((p.map Prod.fst).nodup h.nod) (fun a ha => h.al a ((p.map Prod.fst).mem_iff.mpr ha))
theorem mem_wc {ws wc : va_W} (isC : List Nat) (hC : isC.map (fun i => ws[i]?) = wc.map some) {q : Nat × va_E} (hq : q ∈ wc) : ∃ i ∈ isC, ws[i]? = some q := by
  have h1 : some q ∈ wc.map some := List.mem_map_of_mem hq
  rw [← hC] at h1
  obtain ⟨i, hi, e⟩ := List.mem_map.mp h1
  exact ⟨i, hi, e⟩
/-- behind a call that hands the tail t0 back as t1 -/
theorem joinT {D : va_G} {cl : List vw_C} {A0 : Nat → Prop} {E t0 WC t1 w1 E' : va_W} {H H1 : Heap} (hP : va_P D cl (E ++ t0) H) (hD : va_D A0 (E ++ t0)) (isC : List Nat) (hC : isC.map (fun i => E[i]?) = WC.map some)
    (hk : ∀ q : Nat, q < H.size → ¬ va_A (WC ++ t0) H.size q → H1[q]? = H[q]?) (hF : ∀ q, va_A (WC ++ t0) H.size q → A0 q) (hP1 : va_P D cl (w1 ++ t1) H1) (hD1 : va_D (va_A (WC ++ t0) H.size) (w1 ++ t1)) (hl : w1.length = isC.length) (hw : w1.map Prod.fst = WC.map Prod.fst) (hs : setAll E (isC.zip w1) = E') (ha : E'.map Prod.fst = E.map Prod.fst) : va_P D cl (E' ++ t1) H1 ∧ va_D A0 (E' ++ t1) := by
  have hn := hD.nod
  rw [List.map_append, List.nodup_append] at hn
  obtain ⟨hn1, hn2, hn3⟩ := hn
  have inA : ∀ a, va_A (WC ++ t0) H.size a → a < H.size → a ∈ WC.map Prod.fst ∨ a ∈ t0.map Prod.fst := by
    rintro a (⟨k, e, h⟩ | h) hlt
    · rcases List.mem_append.mp (List.mem_of_getElem? h) with h1 | h1
      · exact Or.inl (List.mem_map_of_mem (f := Prod.fst) h1)
      · exact Or.inr (List.mem_map_of_mem (f := Prod.fst) h1)
    · omega
  -- an element of E that isn't at one of the places is apart from the callee's
  have apart : ∀ (k : Nat) (q : Nat × va_E), E[k]? = some q → k ∉ isC → ¬ va_A (WC ++ t0) H.size q.1 := by
    intro k q hq hkc hA
    have hq2 : (E ++ t0)[k]? = some q := by rw [List.getElem?_append_left (List.getElem?_eq_some_iff.mp hq).1]; exact hq
    have hlt := (hP k q hq2).lt
    rcases inA q.1 hA hlt with h | h
    · obtain ⟨q', hq', e⟩ := List.mem_map.mp h
      obtain ⟨i, hi, hi2⟩ := mem_wc isC hC hq'
      have hi3 : (E ++ t0)[i]? = some q' := by rw [List.getElem?_append_left (List.getElem?_eq_some_iff.mp hi2).1]; exact hi2
      have := hD.1 k i q q' hq2 hi3 e.symm
      exact hkc (this ▸ hi)
    · exact hn3 q.1 (List.mem_map_of_mem (f := Prod.fst) (List.mem_of_getElem? hq)) q.1 h rfl
  refine ⟨?_, va_D.mk' ?_ ?_⟩
  · intro k q hq
    rcases List.mem_append.mp (List.mem_of_getElem? hq) with h | h
    · obtain ⟨i, hi⟩ := List.getElem?_of_mem h
      rw [← hs] at hi
      rcases setAll_get _ _ _ _ hi with h1 | ⟨h1, h2⟩
      · obtain ⟨j, hj⟩ := List.getElem?_of_mem (List.mem_append_left t1 (List.of_mem_zip h1).2)
        exact hP1 j q hj
      · have hic : i ∉ isC := by
          intro hc
          obtain ⟨j, hj⟩ := List.getElem?_of_mem hc
          have hjw : j < w1.length := by rw [hl]; exact (List.getElem?_eq_some_iff.mp hj).1
          have hz : (isC.zip w1)[j]? = some (i, w1[j]) := by
            rw [List.getElem?_zip_eq_some]
            exact ⟨hj, List.getElem?_eq_getElem hjw⟩
          exact h1 _ (List.mem_of_getElem? hz) rfl
        have h3 : (E ++ t0)[i]? = some q := by rw [List.getElem?_append_left (List.getElem?_eq_some_iff.mp h2).1]; exact h2
        exact (hP i q h3).kept (hk q.1 (hP i q h3).lt (apart i q h2 hic))
    · obtain ⟨j, hj⟩ := List.getElem?_of_mem (List.mem_append_right w1 h)
      exact hP1 j q hj
  · rw [List.map_append, ha, List.nodup_append]
    have hn' := hD1.nod
    rw [List.map_append, List.nodup_append] at hn'
    refine ⟨hn1, hn'.2.1, ?_⟩
    intro a ha1 b hb1 hab
    subst hab
    obtain ⟨q, hq, rfl⟩ := List.mem_map.mp ha1
    obtain ⟨k, hk1⟩ := List.getElem?_of_mem hq
    by_cases hkc : k ∈ isC
    · have h1 : some q ∈ WC.map some := by
        rw [← hC]
        exact List.mem_map.mpr ⟨k, hkc, hk1⟩
      obtain ⟨q', hq', e⟩ := List.mem_map.mp h1
      cases e
      exact hn'.2.2 q.1 (by rw [hw]; exact List.mem_map_of_mem hq') q.1 hb1 rfl
    · exact apart k q hk1 hkc (hD1.al q.1 (by rw [List.map_append]; exact List.mem_append_right _ hb1))
  · intro a ha1
    rw [List.map_append, ha] at ha1
    rcases List.mem_append.mp ha1 with h | h
    · exact hD.al a (by rw [List.map_append]; exact List.mem_append_left _ h)
    · exact hF a (hD1.al a (by rw [List.map_append]; exact List.mem_append_right _ h))
