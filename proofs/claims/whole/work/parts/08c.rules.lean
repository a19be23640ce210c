/-! which sorts go into which; reading and taking -/
def gz (a b : Nat) : Bool := a == b || (decide (0 < a) && (decide (b ≤ 7) && (decide (a < b) && (decide (3 < b) || (a == 1 && b == 3)))))
def crb (κ b : Nat) : Bool := if b = 8 then decide (κ ≤ 11) else decide (κ ≤ 7) && gz κ b
def tk (κ a : Nat) (y : Bool) : Bool := if κ ≤ 7 then decide (a ≤ 7) && gz a κ else (κ == 9 || (a == 9 || ((κ == 8 && a == 4) || ((κ == 10 && a == 8) || (κ == 11 && (a == 8 && y))))))
def bI (b : Bool) : Int32 := if b = true then 1 else 0
theorem bI_t : bI true = 1 := rfl
theorem bI_f : bI false = 0 := rfl
theorem bI_0 (b : Bool) : (bI b = 0) ↔ b = false := by cases b <;> decide
theorem bI_0n (b : Bool) : (bI b = 1) ↔ b = true := by cases b <;> decide
theorem fits_n : ∀ a, a < 10 → ∀ b, b < 8 → f_X5_fits (nI a) (nI b) = some (bI (decide (a ≤ 7) && gz a b)) := by decide +kernel
theorem goes_n : ∀ a, a < 10 → ∀ b, b < 8 → f_X6_goes (nI a) (nI b) = some (bI (gz a b)) := by decide +kernel
theorem canRead_cg {k k' : Nat → Int32} {x x' : Int32} (b : Int32) (h : f_X0_kindOf k x = f_X0_kindOf k' x') : f_X0_canRead k x b = f_X0_canRead k' x' b := by
  unfold f_X0_canRead
  rw [h]
theorem canRead_d : ∀ κ, κ < 15 → ∀ b, b < 9 → f_X0_canRead (fun _ => nI κ) (nI 0) (nI b) = some (bI (crb κ b)) := by decide +kernel
theorem reads_cg {w w' : Nat → Int64} {x x' : Int32} (b : Int32) (h : f_X6_kind w x = f_X6_kind w' x') : f_X6_reads w x b = f_X6_reads w' x' b := by
  unfold f_X6_reads
  rw [h]
theorem reads_d : ∀ κ, κ < 15 → ∀ b, b < 9 → f_X6_reads (fun _ => (nI κ).toInt64) (nI 0) (nI b) = some (bI (b == 8 || crb κ b)) := by decide +kernel
section RL1
variable {k z t g ks kb kw : Nat → Int32} {n : Nat → Int64} {kc ss hs : Int32} {hn : Int64} {w : Nat → Int64}
theorem kin (hW : WFu (k, z, t, n, g, ks, kb, kw, kc, ss, hs, hn)) {s : Nat} (h : s < 6) : ∃ κ : Nat, κ < 15 ∧ k s = nI κ := inN (wf1 hW h).1 (by have := wf1 hW h; omega)
theorem zin (hW : WFu (k, z, t, n, g, ks, kb, kw, kc, ss, hs, hn)) {s : Nat} (h : s < 6) : ∃ ζ : Nat, ζ < 13 ∧ z s = nI ζ := inN (wf1 hW h).2.2.1 (by have := wf1 hW h; omega)
theorem canRead_n {s κ b : Nat} (h : s < 6) (hκ : κ < 15) (e : k s = nI κ) (hb : b < 9) : f_X0_canRead k (nI s) (nI b) = some (bI (crb κ b)) := by
  rw [canRead_cg (nI b) (show f_X0_kindOf k (nI s) = f_X0_kindOf (fun _ => nI κ) (nI 0) by rw [kindOf_n h, e, kindOf_n (by omega)]), canRead_d κ hκ b hb]
theorem reads_n (hB : RBu (k, z, t, n, g, ks, kb, kw, kc, ss, hs, hn) w 0) {s κ b : Nat} (h : s < 6) (hκ : κ < 15) (e : k s = nI κ) (hb : b < 9) : f_X6_reads w (nI s) (nI b) = some (bI (b == 8 || crb κ b)) := by
  rw [reads_cg (nI b) (show f_X6_kind w (nI s) = f_X6_kind (fun _ => (nI κ).toInt64) (nI 0) by
    rw [kindM_n hB h, e]
    unfold f_X6_kind
    rw [n0, nI_add, if_pos (ib_n (by omega) (by decide)), t6432]), reads_d κ hκ b hb]
theorem rea_r {s κ : Nat} {x : Int32} (hκ : κ < 15) (e : k s = nI κ) (h11 : κ ≤ 11) : rea k z s x = if 0 ≤ x.toInt ∧ x.toInt < (z s).toInt then 0 else 3 := by
  unfold rea
  rw [e, if_neg, if_neg]
  · rw [nI_toInt (by omega)]
    have e : (11 : Int32).toInt = 11 := rfl
    omega
  · rw [show (14 : Int32) = nI 14 from rfl, nI_eq (by omega) (by omega)]
    omega
theorem whyRead_n (hW : WFu (k, z, t, n, g, ks, kb, kw, kc, ss, hs, hn)) {s κ b : Nat} (h : s < 6) (hκ : κ < 15) (e : k s = nI κ) (hb : b < 9) (x : Int32) : f_X0_whyNotRead k z (nI s) x (nI b) = some (if rea k z s x = 0 then (if crb κ b = true then 0 else 4) else rea k z s x) := by
  unfold f_X0_whyNotRead
  rw [reach_n hW h, Option.bind_some, canRead_n h hκ e hb]
  by_cases h0 : rea k z s x = 0
  · rw [if_pos h0, if_pos h0, Option.bind_some, h0]
    cases crb κ b <;> rfl
  · rw [if_neg h0, if_neg h0]
theorem canHold_d : ∀ κ, κ < 12 → 7 < κ → ∀ a, a < 10 → f_X0_canHold (nI κ) (nI a) 4 = some (bI (tk κ a true)) ∧ f_X0_canHold (nI κ) (nI a) 0 = some (bI (tk κ a false)) := by decide +kernel
theorem canHold_cg (κ a : Int32) {x y : Int64} (h : (lg_cmp x 4 < 0) = (lg_cmp y 4 < 0)) : f_X0_canHold κ a x = f_X0_canHold κ a y := by
  unfold f_X0_canHold
  simp only [h]
theorem canHold_n {κ a : Nat} (hκ : κ < 12) (h7 : 7 < κ) (ha : a < 10) (x : Int64) : f_X0_canHold (nI κ) (nI a) x = some (bI (tk κ a (decide (4 ≤ x.toInt)))) := by
  have e4 : (4 : Int64).toInt = 4 := rfl
  have e0 : (0 : Int64).toInt = 0 := rfl
  by_cases h : 4 ≤ x.toInt
  · rw [canHold_cg (nI κ) (nI a) (y := 4) (by rw [lc_lt, lc_lt, e4]; exact propext ⟨fun _ => by omega, fun _ => by omega⟩), (canHold_d κ hκ h7 a ha).1, decide_eq_true h]
  · rw [canHold_cg (nI κ) (nI a) (y := 0) (by rw [lc_lt, lc_lt, e4, e0]; exact propext ⟨fun _ => by omega, fun _ => by omega⟩), (canHold_d κ hκ h7 a ha).2, decide_eq_false h]
theorem takes_cg {w w' : Nat → Int64} {x x' : Int32} (a : Int32) {p q : Int64} (hk : f_X6_kind w x = f_X6_kind w' x') (h : (lg_cmp p 4 < 0) = (lg_cmp q 4 < 0)) : f_X6_takes w x a p = f_X6_takes w' x' a q := by
  unfold f_X6_takes
  simp only [h, hk]
theorem takes_d : ∀ κ, κ < 12 → ∀ a, a < 10 → f_X6_takes (fun _ => (nI κ).toInt64) (nI 0) (nI a) 4 = some (bI (tk κ a true)) ∧ f_X6_takes (fun _ => (nI κ).toInt64) (nI 0) (nI a) 0 = some (bI (tk κ a false)) := by decide +kernel
theorem takes_n (hB : RBu (k, z, t, n, g, ks, kb, kw, kc, ss, hs, hn) w 0) {s κ a : Nat} (h : s < 6) (hκ : κ < 12) (e : k s = nI κ) (ha : a < 10) (x : Int64) : f_X6_takes w (nI s) (nI a) x = some (bI (tk κ a (decide (4 ≤ x.toInt)))) := by
  have e4 : (4 : Int64).toInt = 4 := rfl
  have e0 : (0 : Int64).toInt = 0 := rfl
  have hk : f_X6_kind w (nI s) = f_X6_kind (fun _ => (nI κ).toInt64) (nI 0) := by
    rw [kindM_n hB h, e]
    unfold f_X6_kind
    rw [n0, nI_add, if_pos (ib_n (by omega) (by decide)), t6432]
  by_cases h : 4 ≤ x.toInt
  · rw [takes_cg (nI a) (q := 4) hk (by rw [lc_lt, lc_lt, e4]; exact propext ⟨fun _ => by omega, fun _ => by omega⟩), (takes_d κ hκ a ha).1, decide_eq_true h]
  · rw [takes_cg (nI a) (q := 0) hk (by rw [lc_lt, lc_lt, e4, e0]; exact propext ⟨fun _ => by omega, fun _ => by omega⟩), (takes_d κ hκ a ha).2, decide_eq_false h]
/-- why a value can't be put -/
def whyP (κ a : Nat) (x : Int64) (by_ : Int32) : Int32 := if tk κ a (decide (4 ≤ x.toInt)) = true ∧ (κ ≤ 7 ∨ by_ = 0) then 0 else 4
theorem whyPut_n (hW : WFu (k, z, t, n, g, ks, kb, kw, kc, ss, hs, hn)) {s κ a : Nat} (h : s < 6) (hκ : κ < 15) (e : k s = nI κ) (ha : a < 10) (i : Int32) (x : Int64) (y : Int32) : f_X0_whyNotPut k z (nI s) i (nI a) x y = some (if rea k z s i = 0 then whyP κ a x y else rea k z s i) := by
  unfold f_X0_whyNotPut whyP
  rw [reach_n hW h, Option.bind_some, kindOf_n h, e, Option.bind_some]
  by_cases h0 : rea k z s i = 0
  · have hh := (rea_0 hW h h0).1
    rw [e, nI_toInt (by omega)] at hh
    rw [if_pos h0, if_pos h0, show (7 : Int32) = nI 7 from rfl]
    by_cases h7 : 7 < κ
    · rw [if_pos (nI_lt h7 (by omega)), canHold_n (by omega) h7 ha]
      by_cases hy : y = 0
      · rw [if_pos hy, Option.bind_some]
        cases hT : tk κ a (decide (4 ≤ x.toInt))
        · rw [if_pos (bI_f), if_neg (fun q => Bool.noConfusion q.1)]
        · rw [if_neg (by decide), if_pos ⟨rfl, Or.inr hy⟩]
      · rw [if_neg hy, if_neg]
        intro q
        rcases q.2 with q | q
        · omega
        · exact hy q
    · rw [if_neg (nI_nlt (by omega) (by omega)), fits_n a ha κ (by omega), Option.bind_some]
      have eT : tk κ a (decide (4 ≤ x.toInt)) = (decide (a ≤ 7) && gz a κ) := by
        unfold tk
        rw [if_pos (by omega)]
      rw [eT]
      cases hT : (decide (a ≤ 7) && gz a κ)
      · rw [if_pos (bI_f), if_neg (fun q => Bool.noConfusion q.1)]
      · rw [if_neg (by decide), if_pos ⟨rfl, Or.inl (by omega)⟩]
  · rw [if_neg h0, if_neg h0]
end RL1
