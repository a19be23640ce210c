/-! floats: the nearest number of so many bits -/
theorem b64F (v : Int64) : -9223372036854775808 ≤ v.toInt ∧ v.toInt ≤ 9223372036854775807 := by
  have h1 := Int64.le_toInt v
  have h2 := Int64.toInt_lt v
  omega
theorem solF {σ ρ : Type} (L : Nat → Nat → σ → Option ρ) (I : Nat → σ → Prop) (Q : ρ → Prop) (m : Nat)
    (h0 : ∀ f s, I m s → ∃ r, L (f + 1) m s = some r ∧ Q r)
    (h1 : ∀ f q s, q < m → I q s → (∃ s', I (q + 1) s' ∧ L (f + 1) q s = L f (q + 1) s') ∨ (∃ r, L (f + 1) q s = some r ∧ Q r)) :
    ∀ d q f s, q + d = m → d < f → I q s → ∃ r, L f q s = some r ∧ Q r := by
  intro d
  induction d with
  | zero =>
    intro q f s hq hf hs
    obtain ⟨f, rfl⟩ : ∃ g, f = g + 1 := ⟨f - 1, by omega⟩
    have : q = m := by omega
    subst this
    exact h0 f s hs
  | succ d ih =>
    intro q f s hq hf hs
    obtain ⟨f, rfl⟩ : ∃ g, f = g + 1 := ⟨f - 1, by omega⟩
    rcases h1 f q s (by omega) hs with ⟨s', h, e⟩ | h
    · rw [e]
      exact ih (q + 1) f s' (by omega) (by omega) h
    · exact h
theorem exN (p a : Nat) (hp : 1 ≤ p) : ∃ N, a < 2 ^ (p + N) ∧ (N = 0 ∨ 2 ^ (p - 1 + N) ≤ a) := by
  by_cases h : a < 2 ^ p
  · exact ⟨0, h, Or.inl rfl⟩
  · have h0 : a ≠ 0 := fun e => h (by rw [e]; exact Nat.two_pow_pos _)
    have h3 : p ≤ a.log2 := (Nat.le_log2 h0).mpr (by omega)
    refine ⟨a.log2 + 1 - p, ?_, Or.inr ?_⟩
    · rw [show p + (a.log2 + 1 - p) = a.log2 + 1 by omega]
      exact Nat.lt_log2_self
    · rw [show p - 1 + (a.log2 + 1 - p) = a.log2 by omega]
      exact Nat.log2_self_le h0
theorem fx_ex {B : Nat} (M : Nat) (hB : 0 < B) : FP.Core.nearest (M * B) B = M := by
  unfold FP.Core.nearest
  rw [Nat.mul_mod_left, Nat.mul_div_cancel _ hB, if_pos (by omega)]
theorem fx_ge {A B M : Nat} (hB : 0 < B) (h : M * B ≤ A) : M ≤ FP.Core.nearest A B := by
  have h1 : M ≤ A / B := (Nat.le_div_iff_mul_le hB).mpr h
  unfold FP.Core.nearest
  by_cases c1 : 2 * (A % B) < B
  · rw [if_pos c1]; exact h1
  · rw [if_neg c1]
    by_cases c2 : B < 2 * (A % B)
    · rw [if_pos c2]; omega
    · rw [if_neg c2]; omega
theorem fx_le {A B M : Nat} (hB : 0 < B) (h : A ≤ M * B) : FP.Core.nearest A B ≤ M := by
  have hdm := Nat.div_add_mod A B
  have hml := Nat.mod_lt A hB
  unfold FP.Core.nearest
  generalize A / B = k at hdm ⊢
  generalize A % B = r at hdm hml ⊢
  by_cases hk : M ≤ k
  · have h2 := Nat.mul_le_mul_left B hk
    rw [Nat.mul_comm] at h
    have h3 : B * k = B * M := by omega
    have h4 := Nat.eq_of_mul_eq_mul_left hB h3
    rw [if_pos (by omega)]
    omega
  · by_cases c1 : 2 * r < B
    · rw [if_pos c1]; omega
    · rw [if_neg c1]
      by_cases c2 : B < 2 * r
      · rw [if_pos c2]; omega
      · rw [if_neg c2]
        have : k % 2 < 2 := Nat.mod_lt _ (by decide)
        omega
theorem fx_two {N : Nat} (h : 0 < N) : 2 ^ N = 2 * 2 ^ (N - 1) := by
  obtain ⟨j, rfl⟩ : ∃ j, N = j + 1 := ⟨N - 1, by omega⟩
  rw [Nat.pow_succ, Nat.mul_comm, Nat.add_sub_cancel]
theorem fx_dm {T X t : Nat} (ht : t < T) : (X * T + t) % T = t ∧ (X * T + t) / T = X := by
  have hT : 0 < T := by omega
  rw [Nat.mul_comm X T]
  exact ⟨by rw [Nat.mul_add_mod, Nat.mod_eq_of_lt ht], by rw [Nat.mul_add_div hT, Nat.div_eq_of_lt ht, Nat.add_zero]⟩
theorem fx_asm (f : FP.Core.Fmt) (s : Bool) {e t : Nat} (ht : t < f.tails) (he : e < f.exps) : FP.Core.fieldT f (FP.Core.assemble f s e t) = t ∧ FP.Core.fieldE f (FP.Core.assemble f s e t) = e ∧ FP.Core.fieldS f (FP.Core.assemble f s e t) = s ∧ FP.Core.assemble f s e t < 2 * f.exps * f.tails := by
  obtain ⟨a1, a2⟩ := fx_dm (X := s.toNat * f.exps + e) ht
  obtain ⟨b1, b2⟩ := fx_dm (X := s.toNat) he
  unfold FP.Core.fieldT FP.Core.fieldE FP.Core.fieldS FP.Core.assemble
  rw [a1, a2, b1, b2]
  refine ⟨rfl, rfl, by cases s <;> rfl, ?_⟩
  have h1 : s.toNat * f.exps + e + 1 ≤ 2 * f.exps := by
    cases s
    · show 0 * f.exps + e + 1 ≤ _
      rw [Nat.zero_mul]; omega
    · show 1 * f.exps + e + 1 ≤ _
      rw [Nat.one_mul]; omega
  have h2 := Nat.mul_le_mul_right f.tails h1
  rw [Nat.add_mul (s.toNat * f.exps + e) 1, Nat.one_mul] at h2
  omega
/-- what is asked of a format here -/
def FG (f : FP.Core.Fmt) : Prop := 2 ≤ f.p ∧ f.p ≤ 53 ∧ 64 ≤ f.qmax ∧ f.qmin ≤ -(f.p : Int) ∧ (64 - f.qmin).toNat + 2 < f.exps ∧ 2 ^ f.p = 2 * f.tails ∧ 0 < f.tails
theorem fg32 : FG FP.Core.b32 := by unfold FG; decide +kernel
theorem fg64 : FG FP.Core.b64 := by unfold FG; decide +kernel
theorem fx_lead {a : Nat} (h : a ≠ 0) : FP.Core.leading a 1 = (a.log2 : Int) := by
  have e1 : Nat.log2 1 = 0 := by decide +kernel
  have e2 : ((a.log2 : Nat) : Int) - ((Nat.log2 1 : Nat) : Int) = (a.log2 : Int) := by rw [e1]; omega
  unfold FP.Core.leading
  dsimp only
  rw [e2, if_pos]
  rw [show ((a.log2 : Nat) : Int).toNat = a.log2 by omega, show (-((a.log2 : Nat) : Int)).toNat = 0 by omega, Nat.pow_zero, Nat.mul_one, Nat.one_mul]
  exact Nat.log2_self_le h
section FL1
variable {f : FP.Core.Fmt}
theorem fx_norm (hG : FG f) (s : Bool) {c : Nat} {q : Int} (h1 : f.tails ≤ c) (h2 : c < 2 ^ f.p) (h3 : f.qmin ≤ q) (h4 : q ≤ 64) : FP.Core.decode f (FP.Core.encode f (.fin s c q)) = .fin s c q ∧ FP.Core.encode f (.fin s c q) < 2 * f.exps * f.tails := by
  obtain ⟨hp, hp2, hq, hq0, hE, hT, hT0⟩ := hG
  have he : (q - f.qmin).toNat + 1 < f.exps := by omega
  obtain ⟨a1, a2, a3, a4⟩ := fx_asm f s (e := (q - f.qmin).toNat + 1) (t := c - f.tails) (by omega) he
  have e1 : FP.Core.encode f (.fin s c q) = FP.Core.assemble f s ((q - f.qmin).toNat + 1) (c - f.tails) := by
    show (if c < f.tails then _ else _) = _
    rw [if_neg (by omega)]
  rw [e1]
  refine ⟨?_, a4⟩
  unfold FP.Core.decode
  rw [a1, a2, a3, if_neg (by omega), if_neg (by omega), show f.tails + (c - f.tails) = c by omega, show f.qmin + ((((q - f.qmin).toNat + 1 : Nat) : Int) - 1) = q by omega]
theorem fx_zero (hG : FG f) (s : Bool) : FP.Core.decode f (FP.Core.encode f (.fin s 0 f.qmin)) = .fin s 0 f.qmin ∧ FP.Core.encode f (.fin s 0 f.qmin) < 2 * f.exps * f.tails := by
  obtain ⟨hp, hp2, hq, hq0, hE, hT, hT0⟩ := hG
  obtain ⟨a1, a2, a3, a4⟩ := fx_asm f s (e := 0) (t := 0) hT0 (by omega)
  have e1 : FP.Core.encode f (.fin s 0 f.qmin) = FP.Core.assemble f s 0 0 := by
    show (if 0 < f.tails then _ else _) = _
    rw [if_pos hT0]
  rw [e1]
  refine ⟨?_, a4⟩
  unfold FP.Core.decode
  rw [a1, a2, a3, if_neg (by omega), if_pos rfl]
theorem fl_A (hG : FG f) {s : Bool} {a N : Nat} (ha : a < 2 ^ 64) (h1 : a < 2 ^ (f.p + N)) (h2 : N = 0 ∨ 2 ^ (f.p - 1 + N) ≤ a) : (FP.Core.decode f (FP.Core.encode f (FP.Core.roundRatio f s a 1 0)) = FP.Core.roundRatio f s a 1 0 ∧ FP.Core.encode f (FP.Core.roundRatio f s a 1 0) < 2 * f.exps * f.tails) ∧ ∀ lo hi, FP.Core.toInt lo hi (FP.Core.roundRatio f s a 1 0) = max lo (min hi (FP.Core.signed s (FP.Core.nearest a (2 ^ N) * 2 ^ N))) := by
  obtain ⟨hp, hp2, hq, hq0, hE, hT, hT0⟩ := id hG
  have hTp : 2 ^ (f.p - 1) = f.tails := by
    have := fx_two (N := f.p) (by omega)
    omega
  have fin_v : ∀ (c : Nat) (q : Int), c * 2 ^ q.toNat / 2 ^ (-q).toNat = FP.Core.nearest a (2 ^ N) * 2 ^ N → ∀ lo hi, FP.Core.toInt lo hi (.fin s c q) = max lo (min hi (FP.Core.signed s (FP.Core.nearest a (2 ^ N) * 2 ^ N))) := by
    intro c q h lo hi
    show max lo (min hi (FP.Core.signed s (c * 2 ^ q.toNat / 2 ^ (-q).toNat))) = _
    rw [h]
  by_cases h0 : a = 0
  · subst h0
    have hN : N = 0 := by
      rcases h2 with h | h
      · exact h
      · have := Nat.two_pow_pos (f.p - 1 + N); omega
    subst hN
    have e : FP.Core.roundRatio f s 0 1 0 = .fin s 0 f.qmin := by
      unfold FP.Core.roundRatio
      rw [if_pos rfl]
    rw [e]
    refine ⟨fx_zero hG s, fin_v 0 f.qmin ?_⟩
    have := fx_ex (B := 2 ^ 0) 0 (by decide)
    rw [Nat.zero_mul] at this
    rw [this, Nat.zero_mul, Nat.zero_div, Nat.zero_mul]
  · have hlo := Nat.log2_self_le h0
    have hhi : a < 2 ^ (a.log2 + 1) := Nat.lt_log2_self
    have hqu : FP.Core.quantum f a 1 0 = max f.qmin ((a.log2 : Int) - ((f.p : Int) - 1)) := by
      unfold FP.Core.quantum
      rw [fx_lead h0, Int.add_zero]
    have hrr : FP.Core.roundRatio f s a 1 0 = FP.Core.roundAt f s a 1 0 (FP.Core.quantum f a 1 0) := by
      unfold FP.Core.roundRatio
      rw [if_neg h0]
    rw [hrr]
    rcases h2 with rfl | h2
    · have hl : a.log2 < f.p := (Nat.log2_lt h0).mpr h1
      obtain ⟨d, hd⟩ : ∃ d, a.log2 + d = f.p - 1 := ⟨f.p - 1 - a.log2, by omega⟩
      have hqv : FP.Core.quantum f a 1 0 = -(d : Int) := by rw [hqu]; omega
      have u1 : FP.Core.unitsNum a 0 (-(d : Int)) = a * 2 ^ d := by
        unfold FP.Core.unitsNum
        rw [show ((0 : Int) - -(d : Int)).toNat = d by omega]
      have u2 : FP.Core.unitsDen 1 0 (-(d : Int)) = 1 := by
        unfold FP.Core.unitsDen
        rw [show (-(d : Int) - 0).toNat = 0 by omega, Nat.pow_zero, Nat.mul_one]
      have hn : ∀ X, FP.Core.nearest X 1 = X := fun X => by
        have := fx_ex (B := 1) X (by decide)
        rw [Nat.mul_one] at this
        exact this
      have hc1 : f.tails ≤ a * 2 ^ d := by
        rw [← hTp, ← hd, Nat.pow_add]
        exact Nat.mul_le_mul_right _ hlo
      have hc2 : a * 2 ^ d < 2 ^ f.p := by
        rw [show f.p = a.log2 + 1 + d by omega, Nat.pow_add]
        exact Nat.mul_lt_mul_of_pos_right hhi (Nat.two_pow_pos d)
      have e : FP.Core.roundAt f s a 1 0 (FP.Core.quantum f a 1 0) = .fin s (a * 2 ^ d) (-(d : Int)) := by
        rw [hqv]
        unfold FP.Core.roundAt
        rw [u1, u2, hn]
        unfold FP.Core.settle
        rw [if_pos hc2]
        unfold FP.Core.bound
        rw [if_pos (by omega)]
      rw [e]
      refine ⟨fx_norm hG s hc1 hc2 (by omega) (by omega), fin_v _ _ ?_⟩
      rw [show (-(d : Int)).toNat = 0 by omega, show (- -(d : Int)).toNat = d by omega, Nat.pow_zero, Nat.mul_one, Nat.mul_div_cancel _ (Nat.two_pow_pos _), hn, Nat.mul_one]
    · have hN : f.p - 1 + N < 64 := (Nat.pow_lt_pow_iff_right (by decide)).mp (Nat.lt_of_le_of_lt h2 ha)
      have hl : a.log2 = f.p - 1 + N := by
        have l1 := (Nat.le_log2 h0).mpr h2
        have l2 := (Nat.log2_lt h0).mpr h1
        omega
      have hqv : FP.Core.quantum f a 1 0 = (N : Int) := by rw [hqu]; omega
      have u1 : FP.Core.unitsNum a 0 (N : Int) = a := by
        unfold FP.Core.unitsNum
        rw [show ((0 : Int) - (N : Int)).toNat = 0 by omega, Nat.pow_zero, Nat.mul_one]
      have u2 : FP.Core.unitsDen 1 0 (N : Int) = 2 ^ N := by
        unfold FP.Core.unitsDen
        rw [show ((N : Int) - 0).toNat = N by omega, Nat.one_mul]
      have hle : FP.Core.nearest a (2 ^ N) ≤ 2 ^ f.p := fx_le (Nat.two_pow_pos N) (by rw [← Nat.pow_add]; exact Nat.le_of_lt h1)
      have hge : f.tails ≤ FP.Core.nearest a (2 ^ N) := fx_ge (Nat.two_pow_pos N) (by rw [← hTp, ← Nat.pow_add]; exact h2)
      have e0 : FP.Core.roundAt f s a 1 0 (FP.Core.quantum f a 1 0) = FP.Core.settle f s (FP.Core.nearest a (2 ^ N)) (N : Int) := by
        rw [hqv]
        unfold FP.Core.roundAt
        rw [u1, u2]
      rw [e0]
      generalize FP.Core.nearest a (2 ^ N) = c at hle hge fin_v ⊢
      by_cases hc : c < 2 ^ f.p
      · have e : FP.Core.settle f s c (N : Int) = .fin s c (N : Int) := by
          unfold FP.Core.settle
          rw [if_pos hc]
          unfold FP.Core.bound
          rw [if_pos (by omega)]
        rw [e]
        refine ⟨fx_norm hG s hge hc (by omega) (by omega), fin_v _ _ ?_⟩
        rw [show ((N : Int)).toNat = N by omega, show (-(N : Int)).toNat = 0 by omega, Nat.pow_zero, Nat.div_one]
      · have hce : c = 2 ^ f.p := Nat.le_antisymm hle (Nat.not_lt.mp hc)
        have e : FP.Core.settle f s c (N : Int) = .fin s f.tails ((N : Int) + 1) := by
          unfold FP.Core.settle
          rw [if_neg hc]
          unfold FP.Core.bound
          rw [if_pos (by omega)]
        rw [e]
        refine ⟨fx_norm hG s (Nat.le_refl _) (by omega) (by omega) (by omega), fin_v _ _ ?_⟩
        rw [show ((N : Int) + 1).toNat = N + 1 by omega, show (-((N : Int) + 1)).toNat = 0 by omega, Nat.pow_zero, Nat.div_one, hce, hT, Nat.pow_succ, Nat.mul_comm (2 ^ N) 2, ← Nat.mul_assoc, Nat.mul_comm f.tails 2]
/-- a long, as a number of the format, as a long -/
def fltL (f : FP.Core.Fmt) (v : Int64) : Int64 := FP.Core.toL (FP.Core.decode f (FP.Core.fromInt f v.toInt))
theorem fromInt_lt (hG : FG f) (v : Int64) : FP.Core.fromInt f v.toInt < 2 * f.exps * f.tails := by
  have hb := b64F v
  have hp := hG.1
  obtain ⟨N, h1, h2⟩ := exN f.p v.toInt.natAbs (by omega)
  exact (fl_A hG (s := decide (v.toInt < 0)) (by omega) h1 h2).1.2
theorem flt_v (hG : FG f) {v : Int64} {a N : Nat} (ea : v.toInt.natAbs = a) (h1 : a < 2 ^ (f.p + N)) (h2 : N = 0 ∨ 2 ^ (f.p - 1 + N) ≤ a) : (fltL f v).toInt = max (-9223372036854775808) (min 9223372036854775807 (FP.Core.signed (decide (v.toInt < 0)) (FP.Core.nearest a (2 ^ N) * 2 ^ N))) := by
  have hb := b64F v
  subst ea
  obtain ⟨⟨e2, -⟩, e3⟩ := fl_A hG (s := decide (v.toInt < 0)) (by omega) h1 h2
  have e1 : fltL f v = Int64.ofInt (FP.Core.toInt (-2 ^ 63) (2 ^ 63 - 1) (FP.Core.decode f (FP.Core.encode f (FP.Core.roundRatio f (decide (v.toInt < 0)) v.toInt.natAbs 1 0)))) := rfl
  rw [e1, e2, e3, Int64.toInt_ofInt, show Int64.size = 2 ^ 64 from rfl, show (-2 ^ 63 : Int) = -9223372036854775808 by decide, show (2 ^ 63 - 1 : Int) = 9223372036854775807 by decide, Int.bmod_def]
  omega
end FL1
theorem sh_d : ∀ q, q < 64 → ((Int32.toInt64 (nI q) &&& 63).toBitVec.smod 64).toNat = q := by decide +kernel
theorem shr_L {a q : Nat} (ha : a < 2 ^ 63) (hq : q < 64) : lN a >>> (Int32.toInt64 (nI q) &&& 63) = lN (a / 2 ^ q) := by
  refine k64 ?_
  rw [pk_lT (Nat.lt_of_le_of_lt (Nat.div_le_self _ _) ha)]
  show ((lN a >>> (Int32.toInt64 (nI q) &&& 63)).toBitVec).toInt = _
  rw [Int64.toBitVec_shiftRight]
  show ((lN a).toBitVec.sshiftRight ((Int32.toInt64 (nI q) &&& 63).toBitVec.smod 64).toNat).toInt = _
  rw [sh_d q hq, BitVec.toInt_sshiftRight, Int.shiftRight_eq_div_pow]
  show (lN a).toInt / ((2 ^ q : Nat) : Int) = _
  rw [pk_lT ha]
  rfl
theorem shl_L {a q : Nat} (ha : a < 2 ^ 64) (hq : q < 64) : lN a <<< (Int32.toInt64 (nI q) &&& 63) = lN (a * 2 ^ q) := by
  refine Int64.toBitVec_inj.mp ?_
  rw [Int64.toBitVec_shiftLeft]
  show (lN a).toBitVec <<< ((Int32.toInt64 (nI q) &&& 63).toBitVec.smod 64).toNat = _
  rw [sh_d q hq]
  refine BitVec.eq_of_toNat_eq ?_
  rw [BitVec.toNat_shiftLeft]
  show (BitVec.ofNat 64 a).toNat <<< q % 2 ^ 64 = (BitVec.ofNat 64 (a * 2 ^ q)).toNat
  rw [BitVec.toNat_ofNat, BitVec.toNat_ofNat, Nat.mod_eq_of_lt ha, Nat.shiftLeft_eq]
theorem jm1 (v : Int64) : (v &&& (1 : Int64)).toInt = v.toInt % 2 := by
  have h1 : (v &&& (1 : Int64)).toBitVec = v.toBitVec &&& 1#64 := rfl
  have h2 : (v &&& (1 : Int64)).toBitVec.toNat = v.toBitVec.toNat % 2 := by
    rw [h1, BitVec.toNat_and, show (1#64).toNat = 2 ^ 1 - 1 from rfl, Nat.and_two_pow_sub_one_eq_mod]
  have h3 : (v &&& (1 : Int64)).toInt = ((v &&& (1 : Int64)).toBitVec.toNat : Int).bmod (2 ^ 64) := BitVec.toInt_eq_toNat_bmod _
  have h4 : v.toInt = (v.toBitVec.toNat : Int).bmod (2 ^ 64) := BitVec.toInt_eq_toNat_bmod _
  have h5 : v.toBitVec.toNat < 2 ^ 64 := BitVec.isLt _
  rw [h3, h4, h2, Int.bmod_def, Int.bmod_def]
  omega
theorem p2lt {p : Nat} (h : p < 63) : 2 ^ p < 2 ^ 63 := Nat.pow_lt_pow_right (by decide) h
theorem nloop {p a : Nat} (hp : 2 ≤ p) (hp2 : p ≤ 53) (ha : a < 2 ^ 63) : ∃ N, L_X6_nearest_16 (nI p) (lN a) 4000 0 = some (nI N) ∧ a < 2 ^ (p + N) ∧ (N = 0 ∨ 2 ^ (p - 1 + N) ≤ a) := by
  have key : ∃ r, L_X6_nearest_16 (nI p) (lN a) 4000 (nI 0) = some r ∧ ∃ N, r = nI N ∧ a < 2 ^ (p + N) ∧ (N = 0 ∨ 2 ^ (p - 1 + N) ≤ a) := by
    refine solF (fun f q (_ : Unit) => L_X6_nearest_16 (nI p) (lN a) f (nI q)) (fun q _ => q = 0 ∨ 2 ^ (p - 1 + q) ≤ a) _ 63 ?_ ?_ 63 0 4000 () (by omega) (by omega) (Or.inl rfl)
    · rintro f _ hI
      exfalso
      rcases hI with h | h
      · omega
      · have : 2 ^ 63 ≤ 2 ^ (p - 1 + 63) := Nat.pow_le_pow_right (by decide) (by omega)
        omega
    · rintro f q _ hq hI
      have hc : (lg_cmp (lN a >>> (Int32.toInt64 (nI q) &&& 63)) ((1 : Int64) <<< (Int32.toInt64 (nI p) &&& 63)) < 0) ↔ a < 2 ^ (p + q) := by
        rw [lc_lt, shr_L ha (by omega), show (1 : Int64) = lN 1 from rfl, shl_L (by decide) (by omega), Nat.one_mul, pk_lT (Nat.lt_of_le_of_lt (Nat.div_le_self _ _) ha), pk_lT (p2lt (by omega)), Int.ofNat_lt, Nat.div_lt_iff_lt_mul (Nat.two_pow_pos _), ← Nat.pow_add]
      by_cases h : a < 2 ^ (p + q)
      · refine Or.inr ⟨nI q, ?_, q, rfl, h, hI⟩
        show L_X6_nearest_16 (nI p) (lN a) (f + 1) (nI q) = _
        rw [L_X6_nearest_16, if_pos (hc.mpr h)]
      · refine Or.inl ⟨(), Or.inr ?_, ?_⟩
        · rw [show p - 1 + (q + 1) = p + q by omega]; omega
        · show L_X6_nearest_16 (nI p) (lN a) (f + 1) (nI q) = L_X6_nearest_16 (nI p) (lN a) f (nI (q + 1))
          rw [L_X6_nearest_16, if_neg (fun e => h (hc.mp e)), Option.bind_some, nI_1]
  obtain ⟨r, e, N, rfl, h1, h2⟩ := key
  exact ⟨N, e, h1, h2⟩
/-- what stands behind the loop, of a number and of its opposite -/
noncomputable def tlE (x0 D : Int64) : Option Int64 := if 0 ≤ (lg_cmp D 0) then (if 0 ≤ (lg_cmp x0 0) then (some (D)) else (some ((-D)))) else (if 0 ≤ (lg_cmp x0 0) then (some ((D - (1 : Int64)))) else (some (D)))
noncomputable def tlP (x0 : Int64) (z4 : Int32) : Option Int64 := if z4 = 0 then (some (x0)) else (if 0 ≤ (lg_cmp x0 0) then ((some (((1 : Int64) <<< (Int32.toInt64 z4 &&& 63)) : Int64)).bind (fun y7 => (some (((x0 >>> (Int32.toInt64 z4 &&& 63)) <<< (Int32.toInt64 z4 &&& 63)) : Int64)).bind (fun y8 => if 0 < (lg_cmp (x0 - y8) (y7 / (2 : Int64))) then (if 0 ≤ (lg_cmp (y8 + y7) 0) then (if 0 ≤ (lg_cmp x0 0) then (some ((y8 + y7))) else (some ((-(y8 + y7))))) else (if 0 ≤ (lg_cmp x0 0) then (some (((y8 + y7) - (1 : Int64)))) else (some ((y8 + y7))))) else (if (lg_cmp (x0 - y8) (y7 / (2 : Int64))) = 0 then (if (lg_cmp ((x0 >>> (Int32.toInt64 z4 &&& 63)) &&& (1 : Int64)) 1) = 0 then (if 0 ≤ (lg_cmp (y8 + y7) 0) then (if 0 ≤ (lg_cmp x0 0) then (some ((y8 + y7))) else (some ((-(y8 + y7))))) else (if 0 ≤ (lg_cmp x0 0) then (some (((y8 + y7) - (1 : Int64)))) else (some ((y8 + y7))))) else (if 0 ≤ (lg_cmp y8 0) then (if 0 ≤ (lg_cmp x0 0) then (some (y8)) else (some ((-y8)))) else (if 0 ≤ (lg_cmp x0 0) then (some ((y8 - (1 : Int64)))) else (some (y8))))) else (if 0 ≤ (lg_cmp y8 0) then (if 0 ≤ (lg_cmp x0 0) then (some (y8)) else (some ((-y8)))) else (if 0 ≤ (lg_cmp x0 0) then (some ((y8 - (1 : Int64)))) else (some (y8)))))))) else (some (x0)))
noncomputable def tlM (x0 : Int64) (z30 : Int32) : Option Int64 := if z30 = 0 then (some (x0)) else (if 0 ≤ (lg_cmp (-x0) 0) then ((some (((1 : Int64) <<< (Int32.toInt64 z30 &&& 63)) : Int64)).bind (fun y33 => (some ((((-x0) >>> (Int32.toInt64 z30 &&& 63)) <<< (Int32.toInt64 z30 &&& 63)) : Int64)).bind (fun y34 => (some (((-x0) - y34) : Int64)).bind (fun y35 => if 0 < (lg_cmp y35 (y33 / (2 : Int64))) then (if 0 ≤ (lg_cmp (y34 + y33) 0) then (if 0 ≤ (lg_cmp x0 0) then (some ((y34 + y33))) else (some ((-(y34 + y33))))) else (if 0 ≤ (lg_cmp x0 0) then (some (((y34 + y33) - (1 : Int64)))) else (some ((y34 + y33))))) else (if (lg_cmp y35 (y33 / (2 : Int64))) = 0 then (if (lg_cmp (((-x0) >>> (Int32.toInt64 z30 &&& 63)) &&& (1 : Int64)) 1) = 0 then (if 0 ≤ (lg_cmp (y34 + y33) 0) then (if 0 ≤ (lg_cmp x0 0) then (some ((y34 + y33))) else (some ((-(y34 + y33))))) else (if 0 ≤ (lg_cmp x0 0) then (some (((y34 + y33) - (1 : Int64)))) else (some ((y34 + y33))))) else (if 0 ≤ (lg_cmp y34 0) then (if 0 ≤ (lg_cmp x0 0) then (some (y34)) else (some ((-y34)))) else (if 0 ≤ (lg_cmp x0 0) then (some ((y34 - (1 : Int64)))) else (some (y34))))) else (if 0 ≤ (lg_cmp y34 0) then (if 0 ≤ (lg_cmp x0 0) then (some (y34)) else (some ((-y34)))) else (if 0 ≤ (lg_cmp x0 0) then (some ((y34 - (1 : Int64)))) else (some (y34))))))))) else (some (x0)))
theorem near_eq (x0 : Int64) (x2 : Int32) : f_X6_nearest x0 x2 = if 0 ≤ (lg_cmp x0 0) then (L_X6_nearest_16 x2 x0 4000 0).bind (fun z4 => tlP x0 z4) else (L_X6_nearest_16 x2 (-x0) 4000 0).bind (fun z30 => tlM x0 z30) := rfl
section FL2
variable {f : FP.Core.Fmt}
theorem tlE_s {v : Int64} {a M : Nat} (hva : (0 ≤ v.toInt ∧ v.toInt = a) ∨ (v.toInt < 0 ∧ v.toInt = -a)) (hM : M ≤ 2 ^ 63) (hfl : (fltL f v).toInt = max (-9223372036854775808) (min 9223372036854775807 (FP.Core.signed (decide (v.toInt < 0)) M))) : tlE v (lN M) = some (fltL f v) := by
  unfold tlE
  have z0 : (0 : Int64).toInt = 0 := rfl
  simp only [lc_ge, z0]
  by_cases h : M < 2 ^ 63
  · rw [if_pos (by rw [pk_lT h]; omega)]
    rcases hva with ⟨h1, h2⟩ | ⟨h1, h2⟩
    · rw [if_pos h1]
      refine congrArg some (k64 ?_)
      rw [hfl, decide_eq_false (by omega), pk_lT h]
      show _ = max _ (min _ (M : Int))
      omega
    · rw [if_neg (by omega)]
      refine congrArg some (k64 ?_)
      rw [hfl, decide_eq_true h1, Int64.toInt_neg, pk_lT h]
      show _ = max _ (min _ (-(M : Int)))
      rw [Int.bmod_def]
      omega
  · have hM2 : M = 2 ^ 63 := by omega
    subst hM2
    have e : (lN (2 ^ 63)).toInt = -9223372036854775808 := by decide +kernel
    have e2 : (lN (2 ^ 63) - 1).toInt = 9223372036854775807 := by decide +kernel
    rw [if_neg (by rw [e]; omega)]
    rcases hva with ⟨h1, h2⟩ | ⟨h1, h2⟩
    · rw [if_pos h1]
      refine congrArg some (k64 ?_)
      rw [hfl, decide_eq_false (by omega), e2]
      show _ = max _ (min _ ((2 ^ 63 : Nat) : Int))
      omega
    · rw [if_neg (by omega)]
      refine congrArg some (k64 ?_)
      rw [hfl, decide_eq_true h1, e]
      show _ = max _ (min _ (-((2 ^ 63 : Nat) : Int)))
      omega
theorem tl_f {A : Int64} {a N : Nat} (hA : A = lN a) (ha : a < 2 ^ 63) (h0 : 0 < N) (hN : N < 63) : (A >>> (Int32.toInt64 (nI N) &&& 63) = lN (a / 2 ^ N) ∧ (1 : Int64) <<< (Int32.toInt64 (nI N) &&& 63) = lN (2 ^ N) ∧ lN (a / 2 ^ N) <<< (Int32.toInt64 (nI N) &&& 63) = lN (a / 2 ^ N * 2 ^ N) ∧ A - lN (a / 2 ^ N * 2 ^ N) = lN (a % 2 ^ N) ∧ lN (2 ^ N) / (2 : Int64) = lN (2 ^ (N - 1))) ∧ (0 : Int32) ≤ lg_cmp A 0 ∧ (((0 : Int32) < lg_cmp (lN (a % 2 ^ N)) (lN (2 ^ (N - 1)))) ↔ 2 ^ (N - 1) < a % 2 ^ N) ∧ ((lg_cmp (lN (a % 2 ^ N)) (lN (2 ^ (N - 1))) = 0) ↔ a % 2 ^ N = 2 ^ (N - 1)) ∧ ((lg_cmp (lN (a / 2 ^ N) &&& (1 : Int64)) 1 = 0) ↔ a / 2 ^ N % 2 = 1) := by
  subst hA
  have hP63 : 2 ^ N < 2 ^ 63 := p2lt hN
  have hPpos : 0 < 2 ^ N := Nat.two_pow_pos N
  have hPh : 2 ^ N = 2 * 2 ^ (N - 1) := fx_two h0
  have hdm := Nat.div_add_mod a (2 ^ N)
  have hml := Nat.mod_lt a hPpos
  have hkl : a / 2 ^ N < 2 ^ 63 := Nat.lt_of_le_of_lt (Nat.div_le_self _ _) ha
  have hh63 : 2 ^ (N - 1) < 2 ^ 63 := by omega
  have hr63 : a % 2 ^ N < 2 ^ 63 := by omega
  refine ⟨⟨shr_L ha (by omega), ?_, shl_L (by omega) (by omega), ?_, ?_⟩, ?_, ?_, ?_, ?_⟩
  · rw [show (1 : Int64) = lN 1 from rfl, shl_L (by decide) (by omega), Nat.one_mul]
  · rw [lN_sub (Nat.div_mul_le_self _ _)]
    congr 1
    rw [Nat.mul_comm] at hdm
    omega
  · rw [show (2 : Int64) = lN 2 from rfl, pk_lDiv hP63 (by decide) (by decide), hPh, Nat.mul_div_cancel_left _ (by decide)]
  · rw [lc_ge, pk_lT ha]
    show (0 : Int) ≤ _
    omega
  · rw [lc_gt, pk_lT hr63, pk_lT hh63, Int.ofNat_lt]
  · rw [lc_eq, pk_lEQ hr63 hh63]
  · rw [lc_eq]
    have e1 : (1 : Int64).toInt = 1 := rfl
    constructor
    · intro e
      have := congrArg Int64.toInt e
      rw [jm1, pk_lT hkl, e1] at this
      omega
    · intro e
      refine k64 ?_
      rw [jm1, pk_lT hkl, e1]
      omega
theorem tl_v (hG : FG f) {v : Int64} {a N : Nat} (ha : a < 2 ^ 63) (hva : (0 ≤ v.toInt ∧ v.toInt = a) ∨ (v.toInt < 0 ∧ v.toInt = -a)) (h1 : a < 2 ^ (f.p + N)) (h2 : N = 0 ∨ 2 ^ (f.p - 1 + N) ≤ a) (h0 : 0 < N) (hN : N < 63) : ((2 ^ (N - 1) < a % 2 ^ N ∨ (a % 2 ^ N = 2 ^ (N - 1) ∧ a / 2 ^ N % 2 = 1)) → tlE v (lN (a / 2 ^ N * 2 ^ N + 2 ^ N)) = some (fltL f v)) ∧ (¬ (2 ^ (N - 1) < a % 2 ^ N ∨ (a % 2 ^ N = 2 ^ (N - 1) ∧ a / 2 ^ N % 2 = 1)) → tlE v (lN (a / 2 ^ N * 2 ^ N)) = some (fltL f v)) := by
  have hfl := flt_v hG (v := v) (a := a) (N := N) (by omega) h1 h2
  have hPpos : 0 < 2 ^ N := Nat.two_pow_pos N
  have hPh : 2 ^ N = 2 * 2 ^ (N - 1) := fx_two h0
  have hml := Nat.mod_lt a hPpos
  have hup : a / 2 ^ N * 2 ^ N + 2 ^ N ≤ 2 ^ 63 := by
    have e1 : 2 ^ 63 = 2 ^ (63 - N) * 2 ^ N := by rw [← Nat.pow_add, show 63 - N + N = 63 by omega]
    have e2 : a / 2 ^ N < 2 ^ (63 - N) := by
      rw [Nat.div_lt_iff_lt_mul hPpos, ← e1]
      exact ha
    have e3 := Nat.mul_le_mul_right (2 ^ N) (show a / 2 ^ N + 1 ≤ 2 ^ (63 - N) by omega)
    rw [Nat.add_mul, Nat.one_mul, ← e1] at e3
    exact e3
  have hMu : FP.Core.nearest a (2 ^ N) = a / 2 ^ N + 1 → tlE v (lN (a / 2 ^ N * 2 ^ N + 2 ^ N)) = some (fltL f v) := by
    intro e
    rw [e, Nat.add_mul, Nat.one_mul] at hfl
    exact tlE_s hva hup hfl
  have hMd : FP.Core.nearest a (2 ^ N) = a / 2 ^ N → tlE v (lN (a / 2 ^ N * 2 ^ N)) = some (fltL f v) := by
    intro e
    rw [e] at hfl
    exact tlE_s hva (by omega) hfl
  constructor
  · rintro (q1 | ⟨q2, q3⟩)
    · refine hMu ?_
      unfold FP.Core.nearest
      rw [if_neg (by omega), if_pos (by omega)]
    · refine hMu ?_
      unfold FP.Core.nearest
      rw [if_neg (by omega), if_neg (by omega), q3]
  · intro q
    refine hMd ?_
    unfold FP.Core.nearest
    by_cases q1 : 2 * (a % 2 ^ N) < 2 ^ N
    · rw [if_pos q1]
    · have q2 : a % 2 ^ N = 2 ^ (N - 1) := by
        rcases Nat.lt_or_ge (2 ^ (N - 1)) (a % 2 ^ N) with x | x
        · exact absurd (Or.inl x) q
        · omega
      have q3 : a / 2 ^ N % 2 = 0 := by
        rcases Nat.mod_two_eq_zero_or_one (a / 2 ^ N) with x | x
        · exact x
        · exact absurd (Or.inr ⟨q2, x⟩) q
      rw [if_neg q1, if_neg (by omega), q3, Nat.add_zero]
theorem tl_0 (hG : FG f) {v : Int64} {a : Nat} (hva : (0 ≤ v.toInt ∧ v.toInt = a) ∨ (v.toInt < 0 ∧ v.toInt = -a)) (h1 : a < 2 ^ (f.p + 0)) : v = fltL f v := by
  have hfl := flt_v hG (v := v) (a := a) (N := 0) (by omega) h1 (Or.inl rfl)
  have hb := b64F v
  have hn : FP.Core.nearest a (2 ^ 0) = a := by
    have := fx_ex (B := 1) a (by decide)
    rw [Nat.mul_one] at this
    exact this
  refine k64 ?_
  rw [hfl, hn, Nat.pow_zero, Nat.mul_one]
  rcases hva with ⟨q1, q2⟩ | ⟨q1, q2⟩
  · rw [decide_eq_false (by omega)]
    show _ = max _ (min _ (a : Int))
    omega
  · rw [decide_eq_true q1]
    show _ = max _ (min _ (-(a : Int)))
    omega
theorem tl_N (hG : FG f) {a N : Nat} (ha : a < 2 ^ 63) (h0 : 0 < N) (h2 : N = 0 ∨ 2 ^ (f.p - 1 + N) ≤ a) : N < 63 := by
  have hp := hG.1
  have : f.p - 1 + N < 63 := by
    rcases h2 with h | h
    · omega
    · exact (Nat.pow_lt_pow_iff_right (show 1 < 2 by decide)).mp (Nat.lt_of_le_of_lt h ha)
  omega
theorem tlP_s (hG : FG f) {v : Int64} {a N : Nat} (hA : v = lN a) (ha : a < 2 ^ 63) (hva : (0 ≤ v.toInt ∧ v.toInt = a) ∨ (v.toInt < 0 ∧ v.toInt = -a)) (h1 : a < 2 ^ (f.p + N)) (h2 : N = 0 ∨ 2 ^ (f.p - 1 + N) ≤ a) : tlP v (nI N) = some (fltL f v) := by
  rcases Nat.eq_zero_or_pos N with h0 | h0
  · subst h0
    unfold tlP
    rw [if_pos (show nI 0 = 0 from rfl)]
    exact congrArg some (tl_0 hG hva h1)
  · have hN := tl_N hG ha h0 h2
    obtain ⟨⟨e1, e2, e3, e4, e5⟩, c1, c2, c3, c4⟩ := tl_f hA ha h0 hN
    obtain ⟨up, dn⟩ := tl_v hG ha hva h1 h2 h0 hN
    unfold tlP
    rw [if_neg (nI_ne0 h0 (by omega)), if_pos c1, Option.bind_some, Option.bind_some, e2, e1, e3, e4, e5, lN_add]
    by_cases q1 : 2 ^ (N - 1) < a % 2 ^ N
    · rw [if_pos (c2.mpr q1)]
      exact up (Or.inl q1)
    · rw [if_neg (fun e => q1 (c2.mp e))]
      by_cases q2 : a % 2 ^ N = 2 ^ (N - 1)
      · rw [if_pos (c3.mpr q2)]
        by_cases q3 : a / 2 ^ N % 2 = 1
        · rw [if_pos (c4.mpr q3)]
          exact up (Or.inr ⟨q2, q3⟩)
        · rw [if_neg (fun e => q3 (c4.mp e))]
          exact dn (by rintro (x | ⟨_, x⟩) <;> omega)
      · rw [if_neg (fun e => q2 (c3.mp e))]
        exact dn (by rintro (x | ⟨x, _⟩) <;> omega)
theorem tlM_s (hG : FG f) {v : Int64} {a N : Nat} (hA : -v = lN a) (ha : a < 2 ^ 63) (hva : (0 ≤ v.toInt ∧ v.toInt = a) ∨ (v.toInt < 0 ∧ v.toInt = -a)) (h1 : a < 2 ^ (f.p + N)) (h2 : N = 0 ∨ 2 ^ (f.p - 1 + N) ≤ a) : tlM v (nI N) = some (fltL f v) := by
  rcases Nat.eq_zero_or_pos N with h0 | h0
  · subst h0
    unfold tlM
    rw [if_pos (show nI 0 = 0 from rfl)]
    exact congrArg some (tl_0 hG hva h1)
  · have hN := tl_N hG ha h0 h2
    obtain ⟨⟨e1, e2, e3, e4, e5⟩, c1, c2, c3, c4⟩ := tl_f hA ha h0 hN
    obtain ⟨up, dn⟩ := tl_v hG ha hva h1 h2 h0 hN
    unfold tlM
    rw [if_neg (nI_ne0 h0 (by omega)), if_pos c1, Option.bind_some, Option.bind_some, Option.bind_some, e2, e1, e3, e4, e5, lN_add]
    by_cases q1 : 2 ^ (N - 1) < a % 2 ^ N
    · rw [if_pos (c2.mpr q1)]
      exact up (Or.inl q1)
    · rw [if_neg (fun e => q1 (c2.mp e))]
      by_cases q2 : a % 2 ^ N = 2 ^ (N - 1)
      · rw [if_pos (c3.mpr q2)]
        by_cases q3 : a / 2 ^ N % 2 = 1
        · rw [if_pos (c4.mpr q3)]
          exact up (Or.inr ⟨q2, q3⟩)
        · rw [if_neg (fun e => q3 (c4.mp e))]
          exact dn (by rintro (x | ⟨_, x⟩) <;> omega)
      · rw [if_neg (fun e => q2 (c3.mp e))]
        exact dn (by rintro (x | ⟨x, _⟩) <;> omega)
theorem near_s (hG : FG f) (hmin : f_X6_nearest (-9223372036854775808) (nI f.p) = some (fltL f (-9223372036854775808))) (v : Int64) : f_X6_nearest v (nI f.p) = some (fltL f v) := by
  have hb := b64F v
  by_cases hm : v.toInt = -9223372036854775808
  · have : v = -9223372036854775808 := k64 hm
    rw [this]
    exact hmin
  · rw [near_eq]
    have z0 : (0 : Int64).toInt = 0 := rfl
    by_cases h : 0 ≤ v.toInt
    · rw [if_pos (by rw [lc_ge, z0]; exact h)]
      have hv : v = lN v.toInt.toNat := k64 (by rw [pk_lT (by omega)]; omega)
      obtain ⟨N, e1, e2, e3⟩ := nloop (p := f.p) (a := v.toInt.toNat) hG.1 hG.2.1 (by omega)
      rw [← hv] at e1
      rw [e1, Option.bind_some]
      exact tlP_s hG hv (by omega) (Or.inl ⟨h, by omega⟩) e2 e3
    · rw [if_neg (by rw [lc_ge, z0]; exact h)]
      have hv : -v = lN (-v.toInt).toNat := k64 (by rw [pk_lT (by omega), Int64.toInt_neg, Int.bmod_def]; omega)
      obtain ⟨N, e1, e2, e3⟩ := nloop (p := f.p) (a := (-v.toInt).toNat) hG.1 hG.2.1 (by omega)
      rw [← hv] at e1
      rw [e1, Option.bind_some]
      exact tlM_s hG hv (by omega) (Or.inr ⟨by omega, by omega⟩) e2 e3
theorem idem_s (hG : FG f) (hmax : fltL f 9223372036854775807 = 9223372036854775807) (v : Int64) : fltL f (fltL f v) = fltL f v := by
  have hp : 2 ≤ f.p := hG.1
  have hb := b64F v
  obtain ⟨N, h1, h2⟩ := exN f.p v.toInt.natAbs (by omega)
  have hfl := flt_v hG (v := v) (N := N) rfl h1 h2
  have hle : FP.Core.nearest v.toInt.natAbs (2 ^ N) ≤ 2 ^ f.p := fx_le (Nat.two_pow_pos N) (by rw [← Nat.pow_add]; exact Nat.le_of_lt h1)
  generalize hM : FP.Core.nearest v.toInt.natAbs (2 ^ N) = c at hfl hle
  generalize hu : fltL f v = u at hfl ⊢
  obtain ⟨M, hMM⟩ : ∃ M, M = c * 2 ^ N := ⟨_, rfl⟩
  rw [← hMM] at hfl
  have hub := b64F u
  by_cases hcl : decide (v.toInt < 0) = false ∧ 9223372036854775807 < M
  · have : u = 9223372036854775807 := k64 (by
      rw [hfl, hcl.1, show (9223372036854775807 : Int64).toInt = 9223372036854775807 by decide +kernel]
      have := hcl.2
      show max _ (min _ (M : Int)) = 9223372036854775807
      omega)
    rw [this]
    exact hmax
  · obtain ⟨N', g1, g2⟩ := exN f.p u.toInt.natAbs (by omega)
    have hfl' := flt_v hG (v := u) (N := N') rfl g1 g2
    have hcM : M ≤ 2 ^ 63 := by
      rw [hMM]
      by_cases hN0 : N = 0
      · subst hN0
        have hn : FP.Core.nearest v.toInt.natAbs (2 ^ 0) = v.toInt.natAbs := by
          have := fx_ex (B := 1) v.toInt.natAbs (by decide)
          rw [Nat.mul_one] at this
          exact this
        rw [hn] at hM
        rw [Nat.pow_zero, Nat.mul_one]
        omega
      · have h3 : f.p - 1 + N < 64 := by
          rcases h2 with h | h
          · exact absurd h hN0
          · exact (Nat.pow_lt_pow_iff_right (show 1 < 2 by decide)).mp (by omega)
        have hcle : c ≤ 2 ^ (63 - N) := by
          rw [← hM]
          refine fx_le (Nat.two_pow_pos N) ?_
          rw [← Nat.pow_add, show 63 - N + N = 63 by omega]
          omega
        have := Nat.mul_le_mul_right (2 ^ N) hcle
        rw [← Nat.pow_add, show 63 - N + N = 63 by omega] at this
        exact this
    have habs : u.toInt.natAbs = M := by
      cases hs : decide (v.toInt < 0)
      · rw [hs] at hfl hcl
        have e1 : u.toInt = max (-9223372036854775808) (min 9223372036854775807 (M : Int)) := hfl
        have e2 : ¬ 9223372036854775807 < M := fun e => hcl ⟨rfl, e⟩
        omega
      · rw [hs] at hfl
        have e1 : u.toInt = max (-9223372036854775808) (min 9223372036854775807 (-(M : Int))) := hfl
        omega
    have hdvd : 2 ^ N' ∣ M := by
      rw [hMM]
      by_cases hNN : N' ≤ N
      · exact Nat.dvd_trans (Nat.pow_dvd_pow 2 hNN) (Nat.dvd_mul_left _ _)
      · have g3 : 2 ^ (f.p - 1 + N') ≤ c * 2 ^ N := by
          rcases g2 with g | g
          · omega
          · rw [habs, hMM] at g; exact g
        have g4 : c * 2 ^ N ≤ 2 ^ (f.p + N) := by
          rw [Nat.pow_add]
          exact Nat.mul_le_mul_right _ hle
        have g5 : f.p - 1 + N' ≤ f.p + N := (Nat.pow_le_pow_iff_right (show 1 < 2 by decide)).mp (Nat.le_trans g3 g4)
        have g6 : N' = N + 1 := by omega
        subst g6
        rw [show f.p - 1 + (N + 1) = f.p + N by omega] at g3
        rw [Nat.le_antisymm g4 g3]
        exact Nat.pow_dvd_pow 2 (by omega)
    obtain ⟨d, hd⟩ := hdvd
    have hn : FP.Core.nearest u.toInt.natAbs (2 ^ N') * 2 ^ N' = u.toInt.natAbs := by
      rw [habs, hd, Nat.mul_comm (2 ^ N') d, fx_ex d (Nat.two_pow_pos _)]
    rw [hn] at hfl'
    refine k64 ?_
    rw [hfl']
    by_cases hneg : u.toInt < 0
    · rw [decide_eq_true hneg]
      show max _ (min _ (-((u.toInt.natAbs : Nat) : Int))) = _
      omega
    · rw [decide_eq_false hneg]
      show max _ (min _ ((u.toInt.natAbs : Nat) : Int)) = _
      omega
end FL2
theorem f24 (v : Int64) : FP.f2l (FP.l2f v) = fltL FP.Core.b32 v := by
  have h := fromInt_lt fg32 v
  show FP.Core.toL (FP.Core.decode FP.Core.b32 (UInt32.ofNat (FP.Core.fromInt FP.Core.b32 v.toInt)).toNat) = FP.Core.toL (FP.Core.decode FP.Core.b32 (FP.Core.fromInt FP.Core.b32 v.toInt))
  rw [UInt32.toNat_ofNat_of_lt' (show FP.Core.fromInt FP.Core.b32 v.toInt < 4294967296 from h)]
theorem f53 (v : Int64) : FP.d2l (FP.l2d v) = fltL FP.Core.b64 v := by
  have h := fromInt_lt fg64 v
  show FP.Core.toL (FP.Core.decode FP.Core.b64 (UInt64.ofNat (FP.Core.fromInt FP.Core.b64 v.toInt)).toNat) = FP.Core.toL (FP.Core.decode FP.Core.b64 (FP.Core.fromInt FP.Core.b64 v.toInt))
  rw [UInt64.toNat_ofNat_of_lt' (show FP.Core.fromInt FP.Core.b64 v.toInt < 18446744073709551616 from h)]
theorem min24 : f_X6_nearest (-9223372036854775808) (nI 24) = some (FP.f2l (FP.l2f (-9223372036854775808))) := by decide +kernel
theorem min53 : f_X6_nearest (-9223372036854775808) (nI 53) = some (FP.d2l (FP.l2d (-9223372036854775808))) := by decide +kernel
theorem max24 : FP.f2l (FP.l2f 9223372036854775807) = 9223372036854775807 := by decide +kernel
theorem max53 : FP.d2l (FP.l2d 9223372036854775807) = 9223372036854775807 := by decide +kernel
theorem near24 (v : Int64) : f_X6_nearest v 24 = some (FP.f2l (FP.l2f v)) := by
  rw [f24]
  exact near_s fg32 (by rw [← f24]; exact min24) v
theorem near53 (v : Int64) : f_X6_nearest v 53 = some (FP.d2l (FP.l2d v)) := by
  rw [f53]
  exact near_s fg64 (by rw [← f53]; exact min53) v
theorem idem24 (v : Int64) : FP.f2l (FP.l2f (FP.f2l (FP.l2f v))) = FP.f2l (FP.l2f v) := by
  rw [f24, f24]
  exact idem_s fg32 (by rw [← f24]; exact max24) v
theorem idem53 (v : Int64) : FP.d2l (FP.l2d (FP.d2l (FP.l2d v))) = FP.d2l (FP.l2d v) := by
  rw [f53, f53]
  exact idem_s fg64 (by rw [← f53]; exact max53) v
