/-! the states of the class and of the reference side by side -/
/-- a value of a sort: its number is one of that sort -/
def okV (t : Int32) (n : Int64) : Prop :=
  (0 ≤ t.toInt ∧ t.toInt ≤ 9) ∧ (t = 0 → n = 0 ∨ n = 1) ∧ (t = 1 → -128 ≤ n.toInt ∧ n.toInt ≤ 127) ∧ (t = 2 → 0 ≤ n.toInt ∧ n.toInt ≤ 65535) ∧ (t = 3 → -32768 ≤ n.toInt ∧ n.toInt ≤ 32767) ∧ (t = 4 → -2147483648 ≤ n.toInt ∧ n.toInt ≤ 2147483647) ∧ (t = 6 → FP.f2l (FP.l2f n) = n) ∧ (t = 7 → FP.d2l (FP.l2d n) = n) ∧ (t = 8 → 0 ≤ n.toInt ∧ n.toInt ≤ 7) ∧ (t = 9 → n = 0)
/-- a bench as it may be -/
def WFu (u : BT) : Prop :=
  (∀ s, s < 6 → 0 ≤ (u.1 s).toInt ∧ (u.1 s).toInt ≤ 14 ∧ 0 ≤ (u.2.1 s).toInt ∧ (u.2.1 s).toInt ≤ 12 ∧ (11 < (u.1 s).toInt → u.2.1 s = 0)) ∧
  (∀ s i, s < 6 → i < 12 → okV (u.2.2.1 (12 * s + i)) (u.2.2.2.1 (12 * s + i)) ∧ ((u.1 s).toInt ≤ 7 → u.2.2.1 (12 * s + i) = u.1 s)) ∧
  (∀ t, t < 8 → -1000 ≤ (u.2.2.2.2.1 t).toInt ∧ (u.2.2.2.2.1 t).toInt ≤ 1000) ∧
  (∀ k, k < 4 → 0 ≤ (u.2.2.2.2.2.1 k).toInt ∧ (u.2.2.2.2.2.1 k).toInt ≤ 5 ∧ 0 ≤ (u.2.2.2.2.2.2.1 k).toInt ∧ (u.2.2.2.2.2.2.1 k).toInt ≤ 8 ∧ 0 ≤ (u.2.2.2.2.2.2.2.1 k).toInt ∧ (u.2.2.2.2.2.2.2.1 k).toInt ≤ 1) ∧
  (0 ≤ u.2.2.2.2.2.2.2.2.1.toInt ∧ u.2.2.2.2.2.2.2.2.1.toInt ≤ 4) ∧ (0 ≤ u.2.2.2.2.2.2.2.2.2.1.toInt ∧ u.2.2.2.2.2.2.2.2.2.1.toInt ≤ 63) ∧ okV u.2.2.2.2.2.2.2.2.2.2.1 u.2.2.2.2.2.2.2.2.2.2.2
/-- a bench and the reference's row of longs from o on -/
def RBu (u : BT) (w : Nat → Int64) (o : Nat) : Prop :=
  (∀ s, s < 6 → w (o + s) = (u.1 s).toInt64 ∧ ((u.1 s).toInt ≤ 11 → w (o + 6 + s) = (u.2.1 s).toInt64)) ∧
  (∀ c, c < 72 → w (o + 12 + c) = (u.2.2.1 c).toInt64 ∧ w (o + 84 + c) = u.2.2.2.1 c) ∧
  w (o + 156) = u.2.2.2.2.2.2.2.2.1.toInt64 ∧
  (∀ k, k < 4 → w (o + 157 + 3 * k) = (u.2.2.2.2.2.1 k).toInt64 ∧ w (o + 158 + 3 * k) = (u.2.2.2.2.2.2.1 k).toInt64 ∧ w (o + 159 + 3 * k) = (u.2.2.2.2.2.2.2.1 k).toInt64) ∧
  w (o + 169) = u.2.2.2.2.2.2.2.2.2.1.toInt64 ∧ w (o + 170) = u.2.2.2.2.2.2.2.2.2.2.1.toInt64 ∧ w (o + 171) = u.2.2.2.2.2.2.2.2.2.2.2 ∧
  (∀ t, t < 8 → w (o + 172 + t) = (u.2.2.2.2.1 t).toInt64)
def RelH (nx ct : Int32) (hs : HT) (w : Nat → Int64) (un : Int32) : Prop :=
  ct = un ∧ ∃ n x : Nat, n ≤ 16 ∧ x ≤ 16 ∧ ct = nI n ∧ nx = nI x ∧ ∀ j, j < n → ∃ u : BT, hs ((x + 16 + j - n) % 16) = some u ∧ WFu u ∧ RBu u w (540 + 180 * j)
def RelI (ir : Nat → Int32) (hs : HT) (w : Nat → Int64) (is ik : Nat → Int32) : Prop :=
  ∀ i, i < 2 → (ik i = 0 ∧ hs (16 + i) = none) ∨ (ik i = 1 ∧ ∃ u : BT, hs (16 + i) = some u ∧ WFu u ∧ RBu u w (180 + 180 * i) ∧ is i = ir i ∧ 0 ≤ (ir i).toInt)
def RelB (kp kq : Nat → Int32) (kct : Int32) (en : Int32) (bp bq : Nat → Int32) : Prop :=
  kct = en ∧ ∃ n : Nat, n ≤ 20 ∧ en = nI n ∧ ∀ j, j < n → bp j = kp j ∧ bq j = kq j ∧ ∃ a : Nat, a < 12 ∧ kp j = nI a
/-- the class and the reference stand alike -/
def Rel (u : BT) (ir : Nat → Int32) (rnd nx ct : Int32) (hs : HT) (kp kq : Nat → Int32) (kct : Int32) (w : Nat → Int64) (is ik : Nat → Int32) (un sd en : Int32) (bp bq : Nat → Int32) : Prop :=
  WFu u ∧ RBu u w 0 ∧ RelH nx ct hs w un ∧ RelI ir hs w is ik ∧ (sd = rnd ∧ 0 ≤ rnd.toInt) ∧ RelB kp kq kct en bp bq
