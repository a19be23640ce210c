/-! the class's ranking and the reference's counts, by values V of m places -/
def LE (V : Nat → Int) (m : Nat) (le : Nat → Int32) : Prop := ∀ p, p < m → le p = nI (ls V m p)
def BY (w : Nat → Int64) (S : Int32) (V : Nat → Int) (m : Nat) : Prop := ∀ a b, a < m → b < m → f_X6_by w S (nI a) (nI b) = some (sg (V a) (V b))
theorem isPl_s (r x : Int32) : f_X4_isPlace r x = some (if 0 ≤ x.toInt ∧ x.toInt < r.toInt ∧ x.toInt < 12 then 1 else 0) := by
  unfold f_X4_isPlace
  simp only [lt32, le32]
  have e0 : (0 : Int32).toInt = 0 := rfl
  have e12 : (12 : Int32).toInt = 12 := rfl
  rw [e0, e12]
  by_cases h1 : x.toInt < 0
  · rw [if_pos h1, if_neg (by omega)]
  · rw [if_neg h1]
    by_cases h2 : r.toInt ≤ x.toInt
    · rw [if_pos h2, if_neg (by omega)]
    · rw [if_neg h2]
      by_cases h3 : 12 ≤ x.toInt
      · rw [if_pos h3, if_neg (by omega)]
      · rw [if_neg h3, if_pos (by omega)]
theorem isPl_n {m p : Nat} (hm : m ≤ 12) (hp : p < m) : f_X4_isPlace (nI m) (nI p) = some 1 := by
  rw [isPl_s, nI_toInt (by omega), nI_toInt (by omega), if_pos (by omega)]
section RK1
variable {V : Nat → Int} {m : Nat} {le po pl : Nat → Int32}
theorem lesser_s (hm : m ≤ 12) (hl : LE V m le) {p : Nat} (hp : p < m) : f_X4_lesserThan le (nI m) (nI p) = some (nI (ls V m p)) := by
  unfold f_X4_lesserThan
  rw [isPl_n hm hp, Option.bind_some, if_neg (by decide), if_pos (ib_n (by omega) (by omega)), nI_clamp (by omega), hl p hp]
theorem cbr_s (hm : m ≤ 12) (hl : LE V m le) {p q : Nat} (hp : p < m) (hq : q < m) : f_X4_compareByRank le (nI m) (nI p) (nI q) = some (sg (V p) (V q)) := by
  have h1 := ls_le V m p
  have h2 := ls_le V m q
  unfold f_X4_compareByRank
  rw [lesser_s hm hl hp, lesser_s hm hl hq]
  simp only [Option.bind_some, nI_1]
  rw [J6_s]
  simp only [Option.bind_some, nI_1]
  rw [nI_toInt (by omega), nI_toInt (by omega), sg_ls hp hq]
theorem alikeBefore_s (hm : m ≤ 12) (hl : LE V m le) {p : Nat} (hp : p < m) : f_X4_alikeBefore le (nI m) (nI p) = some (nI (cn (fun q => decide (V q = V p)) p)) := by
  unfold f_X4_alikeBefore
  rw [cloop0 (L_X4_alikeBefore_4 le (nI m) (nI p)) (fun q => decide (V q = V p)) p (by omega)]
  · rfl
  · intro f a
    rw [L_X4_alikeBefore_4, if_pos (nI_le (by omega) (by omega))]
  · intro f a q hq hP
    rw [L_X4_alikeBefore_4, if_neg (nI_ge hq (by omega)), cbr_s hm hl (by omega) hp]
    simp only [Option.bind_some, nI_1]
    rw [if_pos (sg_eq (of_decide_eq_true hP))]
  · intro f a q hq hP
    rw [L_X4_alikeBefore_4, if_neg (nI_ge hq (by omega)), cbr_s hm hl (by omega) hp]
    simp only [Option.bind_some, nI_1]
    rw [if_neg (fun e => of_decide_eq_false hP (sg_z.mp e))]
theorem alikeTo_s (hm : m ≤ 12) (hl : LE V m le) {p : Nat} (hp : p < m) : f_X4_alikeTo le (nI m) (nI p) = some (nI (cn (fun q => decide (V q = V p)) m)) := by
  unfold f_X4_alikeTo
  rw [cloop0 (L_X4_alikeTo_4 le (nI m) (nI p)) (fun q => decide (V q = V p)) m (by omega)]
  · rfl
  · intro f a
    rw [L_X4_alikeTo_4, if_pos (nI_le (by omega) (by omega))]
  · intro f a q hq hP
    rw [L_X4_alikeTo_4, if_neg (nI_ge hq (by omega)), cbr_s hm hl (by omega) hp]
    simp only [Option.bind_some, nI_1]
    rw [if_pos (sg_eq (of_decide_eq_true hP))]
  · intro f a q hq hP
    rw [L_X4_alikeTo_4, if_neg (nI_ge hq (by omega)), cbr_s hm hl (by omega) hp]
    simp only [Option.bind_some, nI_1]
    rw [if_neg (fun e => of_decide_eq_false hP (sg_z.mp e))]
/-- the first one of alike ones that is less -/
def fst1 (V : Nat → Int) (p q : Nat) : Bool := decide (V q < V p) && decide (cn (fun e => decide (V e = V q)) q = 0)
theorem nI_z {a : Nat} (h : a < 2 ^ 31) : (nI a = 0) ↔ a = 0 := by
  rw [show (0 : Int32) = nI 0 from rfl, nI_eq h (by omega)]
theorem classesBelow_s (hm : m ≤ 12) (hl : LE V m le) {p : Nat} (hp : p < m) : f_X4_classesBelow le (nI m) (nI p) = some (nI (cn (fst1 V p) m)) := by
  unfold f_X4_classesBelow
  have hs : ∀ q, q < m → cn (fun e => decide (V e = V q)) q < 2 ^ 31 := fun q hq => by
    have := cn_le (fun e => decide (V e = V q)) q; omega
  rw [cloop0 (L_X4_classesBelow_4 le (nI m) (nI p)) (fst1 V p) m (by omega)]
  · rfl
  · intro f a
    rw [L_X4_classesBelow_4, if_pos (nI_le (by omega) (by omega))]
  · intro f a q hq hP
    unfold fst1 at hP
    rw [Bool.and_eq_true, decide_eq_true_eq, decide_eq_true_eq] at hP
    rw [L_X4_classesBelow_4, if_neg (nI_ge hq (by omega)), cbr_s hm hl (by omega) hp, alikeBefore_s hm hl hq]
    simp only [Option.bind_some, nI_1]
    rw [if_neg (fun e => by have := sg_ge.mp e; omega), if_pos ((nI_z (hs q hq)).mpr hP.2)]
  · intro f a q hq hP
    rw [L_X4_classesBelow_4, if_neg (nI_ge hq (by omega)), cbr_s hm hl (by omega) hp, alikeBefore_s hm hl hq]
    simp only [Option.bind_some, nI_1]
    by_cases h : V p ≤ V q
    · rw [if_pos (sg_ge.mpr h)]
    · rw [if_neg (fun e => h (sg_ge.mp e)), if_neg]
      intro e
      unfold fst1 at hP
      rw [(nI_z (hs q hq)).mp e, decide_eq_true (by omega)] at hP
      exact Bool.noConfusion hP
theorem greaterBefore_s (hm : m ≤ 12) (hl : LE V m le) {p : Nat} (hp : p < m) : f_X4_greaterBefore le (nI m) (nI p) = some (nI (cn (fun q => decide (V p < V q)) p)) := by
  unfold f_X4_greaterBefore
  rw [cloop0 (L_X4_greaterBefore_4 le (nI m) (nI p)) (fun q => decide (V p < V q)) p (by omega)]
  · rfl
  · intro f a
    rw [L_X4_greaterBefore_4, if_pos (nI_le (by omega) (by omega))]
  · intro f a q hq hP
    rw [L_X4_greaterBefore_4, if_neg (nI_ge hq (by omega)), cbr_s hm hl hp (by omega)]
    simp only [Option.bind_some, nI_1]
    have := of_decide_eq_true hP
    rw [if_neg (fun e => by have := sg_ge.mp e; omega)]
  · intro f a q hq hP
    rw [L_X4_greaterBefore_4, if_neg (nI_ge hq (by omega)), cbr_s hm hl hp (by omega)]
    simp only [Option.bind_some, nI_1]
    have := of_decide_eq_false hP
    rw [if_pos (sg_ge.mpr (by omega))]
theorem sloop0 (L : Nat → Int32 → Int32 → Option Int32) (F : Nat → Nat) (m : Nat) (hm : m < 4000)
    (h0 : ∀ f a, L (f + 1) a (nI m) = some a)
    (h1 : ∀ f a q, q < m → L (f + 1) a (nI q) = L f (a + nI (F q)) (nI (q + 1))) : L 4000 0 0 = some (nI (sm F m)) := by
  have := sloop L F m h0 h1 m 0 4000 0 (by omega) (by omega)
  rw [Nat.zero_add, sm_cg (G := F) (fun q _ => by rw [Nat.zero_add])] at this
  exact this
theorem alikePairs_s (hm : m ≤ 12) (hl : LE V m le) : f_X4_alikePairs le (nI m) = some (nI (sm (fun p => cn (fun q => decide (V q = V p)) p) m)) := by
  unfold f_X4_alikePairs
  rw [sloop0 (L_X4_alikePairs_4 le (nI m)) (fun p => cn (fun q => decide (V q = V p)) p) m (by omega)]
  · rfl
  · intro f a
    rw [L_X4_alikePairs_4, if_pos (nI_le (by omega) (by omega))]
  · intro f a q hq
    rw [L_X4_alikePairs_4, if_neg (nI_ge hq (by omega)), alikeBefore_s hm hl hq]
    simp only [Option.bind_some, nI_1]
theorem inversions_s (hm : m ≤ 12) (hl : LE V m le) : f_X4_inversions le (nI m) = some (nI (sm (fun p => cn (fun q => decide (V p < V q)) p) m)) := by
  unfold f_X4_inversions
  rw [sloop0 (L_X4_inversions_4 le (nI m)) (fun p => cn (fun q => decide (V p < V q)) p) m (by omega)]
  · rfl
  · intro f a
    rw [L_X4_inversions_4, if_pos (nI_le (by omega) (by omega))]
  · intro f a q hq
    rw [L_X4_inversions_4, if_neg (nI_ge hq (by omega)), greaterBefore_s hm hl hq]
    simp only [Option.bind_some, nI_1]
theorem posOf_s (hm : m ≤ 12) {p : Nat} (hp : p < m) (h : po p = nI (ps V m p)) : f_X4_positionOf po (nI m) (nI p) = some (nI (ps V m p)) := by
  unfold f_X4_positionOf
  rw [isPl_n hm hp, Option.bind_some, if_neg (by decide), if_pos (ib_n (by omega) (by omega)), nI_clamp (by omega), h]
theorem placeAt_s (hm : m ≤ 12) {p : Nat} (hp : p < m) (h : pl (ps V m p) = nI p) : f_X4_placeAt pl (nI m) (nI (ps V m p)) = some (nI p) := by
  have := ps_m (V := V) hp
  unfold f_X4_placeAt
  rw [isPl_n hm this, Option.bind_some, if_neg (by decide), if_pos (ib_n (by omega) (by omega)), nI_clamp (by omega), h]
end RK1
section RK2
variable {V : Nat → Int} {m : Nat} {w : Nat → Int64} {S : Int32}
theorem isLess_s (hy : BY w 15 V m) {a b : Nat} (ha : a < m) (hb' : b < m) : f_X6_isLess w (nI a) (nI b) = some (bI (decide (V a < V b))) := by
  unfold f_X6_isLess
  rw [hy a b ha hb', Option.bind_some]
  by_cases h : V a < V b
  · rw [if_neg (fun e => by have := sg_ge.mp e; omega), decide_eq_true h]; rfl
  · rw [if_pos (sg_ge.mpr (by omega)), decide_eq_false h]; rfl
theorem position_s (hm : m ≤ 12) (hy : BY w S V m) {p : Nat} (hp : p < m) : f_X6_position w S (nI p) (nI m) = some (nI (ps V m p)) := by
  unfold f_X6_position
  rw [cloop0 (L_X6_position_6 w S (nI p) (nI m)) (fun q => decide (wV V q < wV V p)) m (by omega)]
  · rfl
  · intro f a
    rw [L_X6_position_6, if_pos (nI_le (by omega) (by omega))]
  · intro f a q hq hP
    rw [L_X6_position_6, if_neg (nI_ge hq (by omega)), hy q p hq hp]
    simp only [Option.bind_some, nI_1]
    have hP' := of_decide_eq_true hP
    unfold wV at hP'
    by_cases h : V q < V p
    · rw [if_pos (sg_n.mpr h)]
    · rw [if_neg (fun e => h (sg_n.mp e)), if_pos (sg_eq (by omega)), if_neg (nI_ge (by omega) (by omega))]
  · intro f a q hq hP
    rw [L_X6_position_6, if_neg (nI_ge hq (by omega)), hy q p hq hp]
    simp only [Option.bind_some, nI_1]
    have hP' := of_decide_eq_false hP
    unfold wV at hP'
    rw [if_neg (fun e => by have := sg_n.mp e; omega)]
    by_cases h : V q = V p
    · rw [if_pos (sg_eq h), if_pos (nI_le (by omega) (by omega)), Int32.add_zero]
    · rw [if_neg (fun e => h (sg_z.mp e)), Int32.add_zero]
theorem lessThan_s (hm : m ≤ 12) (hy : BY w 15 V m) {p : Nat} (hp : p < m) : f_X6_lessThan w (nI p) (nI m) = some (nI (ls V m p)) := by
  unfold f_X6_lessThan
  rw [cloop0 (L_X6_lessThan_5 w (nI p) (nI m)) (fun q => decide (V q < V p)) m (by omega)]
  · rfl
  · intro f a
    rw [L_X6_lessThan_5, if_pos (nI_le (by omega) (by omega))]
  · intro f a q hq hP
    rw [L_X6_lessThan_5, if_neg (nI_ge hq (by omega)), isLess_s hy hq hp, hP]
    simp only [Option.bind_some, nI_1]
    rw [if_neg (by decide)]
  · intro f a q hq hP
    rw [L_X6_lessThan_5, if_neg (nI_ge hq (by omega)), isLess_s hy hq hp, hP]
    simp only [Option.bind_some, nI_1]
    rw [if_pos bI_f, Int32.add_zero]
theorem alikeToM_s (hm : m ≤ 12) (hy : BY w 15 V m) {p : Nat} (hp : p < m) : f_X6_alikeTo w (nI p) (nI m) = some (nI (cn (fun q => decide (V q = V p)) m)) := by
  unfold f_X6_alikeTo
  rw [cloop0 (L_X6_alikeTo_5 w (nI p) (nI m)) (fun q => decide (V q = V p)) m (by omega)]
  · rfl
  · intro f a
    rw [L_X6_alikeTo_5, if_pos (nI_le (by omega) (by omega))]
  · intro f a q hq hP
    rw [L_X6_alikeTo_5, if_neg (nI_ge hq (by omega)), hy q p hq hp]
    simp only [Option.bind_some, nI_1]
    rw [if_pos (sg_eq (of_decide_eq_true hP))]
  · intro f a q hq hP
    rw [L_X6_alikeTo_5, if_neg (nI_ge hq (by omega)), hy q p hq hp]
    simp only [Option.bind_some, nI_1]
    rw [if_neg (fun e => of_decide_eq_false hP (sg_z.mp e)), Int32.add_zero]
theorem unlike_in (hm : m ≤ 12) (hy : BY w 15 V m) {q : Nat} (hq : q < m) : ∀ d e f (b : Bool), e + d = q → d < f → L_X6_unlikeLess_23 w (nI q) f (bI b) (nI e) = some (bI (b && decide (cn (fun i => decide (V (e + i) = V q)) d = 0))) := by
  intro d
  induction d with
  | zero =>
    intro e f b he hf
    obtain ⟨f, rfl⟩ : ∃ h, f = h + 1 := ⟨f - 1, by omega⟩
    rw [L_X6_unlikeLess_23, if_pos (nI_le (by omega) (by omega))]
    cases b <;> rfl
  | succ d ih =>
    intro e f b he hf
    obtain ⟨f, rfl⟩ : ∃ h, f = h + 1 := ⟨f - 1, by omega⟩
    rw [L_X6_unlikeLess_23, if_neg (nI_ge (by omega) (by omega))]
    cases b
    · rw [if_pos bI_f]; rfl
    · rw [if_neg (by decide), hy e q (by omega) hq, cn_sh]
      simp only [Option.bind_some, nI_1]
      have sh : cn (fun i => decide (V (e + (i + 1)) = V q)) d = cn (fun i => decide (V (e + 1 + i) = V q)) d := cn_cg (fun i _ => by rw [show e + (i + 1) = e + 1 + i by omega])
      simp only [sh, Nat.add_zero]
      by_cases h : V e = V q
      · rw [if_pos (sg_eq h), if_pos (decide_eq_true h)]
        have := ih (e + 1) f false (by omega) (by omega)
        rw [show (bI false) = (0 : Int32) from rfl] at this
        rw [this, Bool.false_and, decide_eq_false (by omega)]
        rfl
      · rw [if_neg (fun x => h (sg_z.mp x)), if_neg (fun x => h (of_decide_eq_true x))]
        have := ih (e + 1) f true (by omega) (by omega)
        rw [show (bI true) = (1 : Int32) from rfl] at this
        rw [this, Nat.zero_add]
theorem unlikeLess_s (hm : m ≤ 12) (hy : BY w 15 V m) {p : Nat} (hp : p < m) : f_X6_unlikeLess w (nI p) (nI m) = some (nI (cn (fst1 V p) m)) := by
  unfold f_X6_unlikeLess
  have key : ∀ q, q < m → L_X6_unlikeLess_23 w (nI q) 4000 (bI (decide (V q < V p))) 0 = some (bI (fst1 V p q)) := by
    intro q hq
    have := unlike_in hm hy hq q 0 4000 (decide (V q < V p)) (by omega) (by omega)
    rw [cn_cg (Q := fun e => decide (V e = V q)) (fun i _ => by rw [Nat.zero_add])] at this
    exact this
  rw [cloop0 (L_X6_unlikeLess_5 w (nI p) (nI m)) (fst1 V p) m (by omega)]
  · rfl
  · intro f a
    rw [L_X6_unlikeLess_5, if_pos (nI_le (by omega) (by omega))]
  · intro f a q hq hP
    rw [L_X6_unlikeLess_5, if_neg (nI_ge hq (by omega)), isLess_s hy hq hp]
    simp only [Option.bind_some, nI_1]
    rw [key q hq, hP]
    simp only [Option.bind_some, nI_1]
    rw [if_neg (by decide)]
  · intro f a q hq hP
    rw [L_X6_unlikeLess_5, if_neg (nI_ge hq (by omega)), isLess_s hy hq hp]
    simp only [Option.bind_some, nI_1]
    rw [key q hq, hP]
    simp only [Option.bind_some, nI_1]
    rw [if_pos bI_f, Int32.add_zero]
theorem placeAtM_s (hm : m ≤ 12) (hy : BY w 15 V m) {p : Nat} (hp : p < m) : f_X6_placeAt w (nI (ps V m p)) (nI m) = some (nI p) := by
  have key : ∀ d q f, q + d = p → d < f → L_X6_placeAt_2 w (nI (ps V m p)) (nI m) f (nI q) = some (nI p) := by
    intro d
    induction d with
    | zero =>
      intro q f hq hf
      obtain ⟨f, rfl⟩ : ∃ h, f = h + 1 := ⟨f - 1, by omega⟩
      have : q = p := by omega
      subst this
      rw [L_X6_placeAt_2, position_s hm hy hp, Option.bind_some, if_pos rfl]
    | succ d ih =>
      intro q f hq hf
      obtain ⟨f, rfl⟩ : ∃ h, f = h + 1 := ⟨f - 1, by omega⟩
      have h1 := ps_m (V := V) hp
      have h2 := ps_m (V := V) (show q < m by omega)
      rw [L_X6_placeAt_2, position_s hm hy (show q < m by omega)]
      simp only [Option.bind_some, nI_1]
      rw [if_neg (fun e => by have := ps_inj hm (by omega) hp ((nI_eq (by omega) (by omega)).mp e); omega)]
      exact ih (q + 1) f (by omega) (by omega)
  unfold f_X6_placeAt
  rw [n0, key p 0 4000 (by omega) (by omega)]
  rfl
theorem pairs_s (hm : m ≤ 12) (hy : BY w 15 V m) (how : Int32) (P : Nat → Nat → Bool) (hP : ∀ a b, a < m → b < m → (sg (V a) (V b) = how ↔ P a b = true)) : f_X6_pairs w (nI m) how = some (nI (sm (fun p => cn (fun q => P q p) p) m)) := by
  unfold f_X6_pairs
  have sw : sm (fun p => cn (fun q => P q p) p) m = sm (fun a => cn (fun i => P a (a + 1 + i)) (m - (a + 1))) m := by
    have := sm_swap (fun q p => if P q p = true then 1 else 0) m
    rw [sm_cg (G := fun p => sm (fun q => if P q p = true then 1 else 0) p) (fun p _ => cn_sm _ _), this]
    exact sm_cg (fun a _ => (cn_sm _ _).symm)
  have inr : ∀ a, a < m → ∀ d b f (c : Nat), b + d = m → d < f → L_X6_pairs_17 w (nI m) how (nI a) f (nI c) (nI b) = some (nI (c + cn (fun i => P a (b + i)) d)) := by
    intro a ha
    refine cloop (L_X6_pairs_17 w (nI m) how (nI a)) (fun b => P a b) m ?_ ?_ ?_
    · intro f c
      rw [L_X6_pairs_17, if_pos (nI_le (by omega) (by omega))]
    · intro f c q hq h
      rw [L_X6_pairs_17, if_neg (nI_ge hq (by omega)), hy a q ha hq]
      simp only [Option.bind_some, nI_1]
      rw [if_pos ((hP a q ha hq).mpr h)]
    · intro f c q hq h
      rw [L_X6_pairs_17, if_neg (nI_ge hq (by omega)), hy a q ha hq]
      simp only [Option.bind_some, nI_1]
      rw [if_neg (fun e => by rw [(hP a q ha hq).mp e] at h; exact Bool.noConfusion h), Int32.add_zero]
  have out : ∀ d a f (c : Nat), a + d = m → d < f → L_X6_pairs_5 w (nI m) how f (nI c) (nI a) = some (nI (c + sm (fun i => cn (fun j => P (a + i) (a + i + 1 + j)) (m - (a + i + 1))) d)) := by
    intro d
    induction d with
    | zero =>
      intro a f c ha hf
      obtain ⟨f, rfl⟩ : ∃ h, f = h + 1 := ⟨f - 1, by omega⟩
      rw [L_X6_pairs_5, if_pos (nI_le (by omega) (by omega))]
      rfl
    | succ d ih =>
      intro a f c ha hf
      obtain ⟨f, rfl⟩ : ∃ h, f = h + 1 := ⟨f - 1, by omega⟩
      rw [L_X6_pairs_5, if_neg (nI_ge (by omega) (by omega)), n1, nI_add, inr a (by omega) (m - (a + 1)) (a + 1) 4000 c (by omega) (by omega)]
      simp only [Option.bind_some, nI_add]
      rw [ih (a + 1) f _ (by omega) (by omega), sm_sh]
      congr 2
      rw [Nat.add_zero, Nat.add_assoc]
      congr 2
      exact sm_cg (fun i _ => by rw [show a + (i + 1) = a + 1 + i by omega])
  have := out m 0 4000 0 (by omega) (by omega)
  rw [Nat.zero_add, sm_cg (G := fun a => cn (fun i => P a (a + 1 + i)) (m - (a + 1))) (fun i _ => by rw [Nat.zero_add]), ← sw] at this
  rw [n0, this]
  rfl
end RK2
