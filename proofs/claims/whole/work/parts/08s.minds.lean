/-! what is remembered: minds and remember -/
/-- a row copied -/
def cpy (w : Nat → Int64) (a b : Nat) : Nat → Int64 := fun j => if b ≤ j ∧ j < b + 180 then w (a + (j - b)) else w j
def shf (w : Nat → Int64) : Nat → Int64 := fun j => if 540 ≤ j ∧ j < 3240 then w (j + 180) else w j
theorem copy_s (w : Nat → Int64) {a b : Nat} (ha : a + 180 ≤ 3420) (hb' : b + 180 ≤ 3420) (hab : a + 180 ≤ b ∨ b + 180 ≤ a) : f_X6_copy w (nI a) (nI b) = some (cpy w a b) := by
  have key : ∃ r, L_X6_copy_2 (nI a) (nI b) 4000 (nI 0) w = some r ∧ r = cpy w a b := by
    refine solo (fun f q (v : Nat → Int64) => L_X6_copy_2 (nI a) (nI b) f (nI q) v) (fun q v => v = fun j => if b ≤ j ∧ j < b + q then w (a + (j - b)) else w j) (fun r => r = cpy w a b) 180 ?_ ?_ 180 0 4000 w (by omega) (by omega) ?_
    · intro f v hI
      exact ⟨v, rfl, hI⟩
    · intro f q v hq hI
      refine Or.inl ?_
      show ∃ (s' : Nat → Int64), _ ∧ L_X6_copy_2 (nI a) (nI b) (f + 1) (nI q) v = L_X6_copy_2 (nI a) (nI b) f (nI (q + 1)) s'
      have h180 : ¬ (180 : Int32) ≤ nI q := show ¬ nI 180 ≤ nI q from nI_ge hq (by omega)
      rw [L_X6_copy_2, if_neg h180, nI_add, nI_add, if_pos (ib_n (by omega) (by omega)), if_pos (ib_n (by omega) (by omega)), nI_clamp (by omega), nI_clamp (by omega), Option.bind_some, Option.bind_some, nI_1]
      refine ⟨_, ?_, rfl⟩
      rw [hI]
      funext j
      show (if j = b + q then (if b ≤ a + q ∧ a + q < b + q then w (a + (a + q - b)) else w (a + q)) else (if b ≤ j ∧ j < b + q then w (a + (j - b)) else w j)) = _
      by_cases h1 : j = b + q
      · rw [if_pos h1, if_neg (by omega), if_pos (by omega)]
        congr 1
        omega
      · rw [if_neg h1]
        by_cases h2 : b ≤ j ∧ j < b + q
        · rw [if_pos h2, if_pos (by omega)]
        · rw [if_neg h2, if_neg (by omega)]
    · funext j
      rw [if_neg (by omega)]
  obtain ⟨r, e, rfl⟩ := key
  unfold f_X6_copy
  rw [n0, e]
  rfl
theorem shift_s (w : Nat → Int64) : L_X6_minds_11 4000 0 w = some (shf w) := by
  have key : ∃ r, L_X6_minds_11 4000 (nI 0) w = some r ∧ r = shf w := by
    refine solo (fun f q (v : Nat → Int64) => L_X6_minds_11 f (nI q) v) (fun q v => v = fun j => if 540 ≤ j ∧ j < 540 + q then w (j + 180) else w j) (fun r => r = shf w) 2700 ?_ ?_ 2700 0 4000 w (by omega) (by omega) ?_
    · intro f v hI
      exact ⟨v, rfl, hI⟩
    · intro f q v hq hI
      refine Or.inl ?_
      show ∃ (s' : Nat → Int64), _ ∧ L_X6_minds_11 (f + 1) (nI q) v = L_X6_minds_11 f (nI (q + 1)) s'
      have h2700 : ¬ (2700 : Int32) ≤ nI q := show ¬ nI 2700 ≤ nI q from nI_ge hq (by omega)
      rw [L_X6_minds_11, if_neg h2700, n540, show (720 : Int32) = nI 720 from rfl, nI_add, nI_add, if_pos (ib_n (by omega) (by omega)), if_pos (ib_n (by omega) (by omega)), nI_clamp (by omega), nI_clamp (by omega), Option.bind_some, Option.bind_some, nI_1]
      refine ⟨_, ?_, rfl⟩
      rw [hI]
      funext j
      show (if j = 540 + q then (if 540 ≤ 720 + q ∧ 720 + q < 540 + q then w (720 + q + 180) else w (720 + q)) else (if 540 ≤ j ∧ j < 540 + q then w (j + 180) else w j)) = _
      by_cases h1 : j = 540 + q
      · rw [if_pos h1, if_neg (by omega), if_pos (by omega)]
        congr 1
        omega
      · rw [if_neg h1]
        by_cases h2 : 540 ≤ j ∧ j < 540 + q
        · rw [if_pos h2, if_pos (by omega)]
        · rw [if_neg h2, if_neg (by omega)]
    · funext j
      rw [if_neg (by omega)]
  obtain ⟨r, e, rfl⟩ := key
  exact e
def mw (w : Nat → Int64) (u : Nat) : Nat → Int64 := if u = 16 then cpy (shf w) 0 3240 else cpy w 0 (540 + 180 * u)
theorem minds_s (w : Nat → Int64) {u : Nat} (hu : u ≤ 16) : f_X6_minds w (nI u) = some (mw w u, nI (if u = 16 then 16 else u + 1)) := by
  unfold f_X6_minds mw
  by_cases h : u = 16
  · subst h
    rw [if_pos (show nI 16 = 16 from rfl), shift_s, Option.bind_some, n0, show (540 : Int32) + ((180 : Int32) * (nI 16 - (1 : Int32))) = nI 3240 by decide, copy_s (shf w) (by omega) (by omega) (by omega)]
    rfl
  · have hne : ¬ nI u = 16 := by rw [show (16 : Int32) = nI 16 from rfl, nI_eq (by omega) (by omega)]; exact h
    rw [if_neg hne, n0, n540, n180, pk_mul, nI_add, copy_s w (by omega) (by omega) (by omega), if_neg h, if_neg h, Option.bind_some, show nI u + (1 : Int32) = nI (u + 1) from nI_1 u]
theorem mw_low (w : Nat → Int64) {u j : Nat} (hj : j < 540) : mw w u j = w j := by
  unfold mw
  by_cases h : u = 16
  · rw [if_pos h]
    unfold cpy shf
    rw [if_neg (by omega), if_neg (by omega)]
  · rw [if_neg h]
    unfold cpy
    rw [if_neg (by omega)]
/-- the bench's row, moved -/
theorem RB_mv {u : BT} {w w' : Nat → Int64} {o o' : Nat} (h : ∀ j, j < 180 → w' (o' + j) = w (o + j)) (hB : RBu u w o) : RBu u w' o' := by
  obtain ⟨h1, h2, h3, h4, h5, h6, h7, h8⟩ := hB
  refine ⟨fun s hs => ?_, fun c hc => ?_, ?_, fun k hk => ?_, ?_, ?_, ?_, fun t ht => ?_⟩
  · rw [h s (by omega), Nat.add_assoc, h (6 + s) (by omega), ← Nat.add_assoc]
    exact h1 s hs
  · rw [Nat.add_assoc, Nat.add_assoc, h (12 + c) (by omega), h (84 + c) (by omega), ← Nat.add_assoc, ← Nat.add_assoc]
    exact h2 c hc
  · rw [h 156 (by omega)]; exact h3
  · rw [Nat.add_assoc, Nat.add_assoc, Nat.add_assoc, h (157 + 3 * k) (by omega), h (158 + 3 * k) (by omega), h (159 + 3 * k) (by omega), ← Nat.add_assoc, ← Nat.add_assoc, ← Nat.add_assoc]
    exact h4 k hk
  · rw [h 169 (by omega)]; exact h5
  · rw [h 170 (by omega)]; exact h6
  · rw [h 171 (by omega)]; exact h7
  · rw [Nat.add_assoc, h (172 + t) (by omega), ← Nat.add_assoc]
    exact h8 t ht
/-- one bench copied over another -/
def cpf (a u : BT) : BT := (va_cpy u.1 a.1 0 0 6, va_cpy u.2.1 a.2.1 0 0 6, va_cpy u.2.2.1 a.2.2.1 0 0 72, va_cpy u.2.2.2.1 a.2.2.2.1 0 0 72, va_cpy u.2.2.2.2.1 a.2.2.2.2.1 0 0 8, va_cpy u.2.2.2.2.2.1 a.2.2.2.2.2.1 0 0 4, va_cpy u.2.2.2.2.2.2.1 a.2.2.2.2.2.2.1 0 0 4, va_cpy u.2.2.2.2.2.2.2.1 a.2.2.2.2.2.2.2.1 0 0 4, u.2.2.2.2.2.2.2.2.1, u.2.2.2.2.2.2.2.2.2.1, u.2.2.2.2.2.2.2.2.2.2.1, u.2.2.2.2.2.2.2.2.2.2.2)
theorem cp_in {α : Type} {f g : Nat → α} {m j : Nat} (h : j < m) : va_cpy f g 0 0 m j = f j := by
  rw [pk_cpy_in (by omega) (by omega)]
  congr 1
  omega
theorem cpf_W (a : BT) {u : BT} (h : WFu u) : WFu (cpf a u) := by
  obtain ⟨h1, h2, h3, h4, h5, h6, h7⟩ := h
  refine ⟨fun s hs => ?_, fun s i hs hi => ?_, fun t ht => ?_, fun k hk => ?_, h5, h6, h7⟩
  · show 0 ≤ (va_cpy u.1 a.1 0 0 6 s).toInt ∧ (va_cpy u.1 a.1 0 0 6 s).toInt ≤ 14 ∧ 0 ≤ (va_cpy u.2.1 a.2.1 0 0 6 s).toInt ∧ (va_cpy u.2.1 a.2.1 0 0 6 s).toInt ≤ 12 ∧ (11 < (va_cpy u.1 a.1 0 0 6 s).toInt → va_cpy u.2.1 a.2.1 0 0 6 s = 0)
    rw [cp_in hs, cp_in hs]
    exact h1 s hs
  · show okV (va_cpy u.2.2.1 a.2.2.1 0 0 72 (12 * s + i)) (va_cpy u.2.2.2.1 a.2.2.2.1 0 0 72 (12 * s + i)) ∧ ((va_cpy u.1 a.1 0 0 6 s).toInt ≤ 7 → va_cpy u.2.2.1 a.2.2.1 0 0 72 (12 * s + i) = va_cpy u.1 a.1 0 0 6 s)
    rw [cp_in (show 12 * s + i < 72 by omega), cp_in (show 12 * s + i < 72 by omega), cp_in hs]
    exact h2 s i hs hi
  · show -1000 ≤ (va_cpy u.2.2.2.2.1 a.2.2.2.2.1 0 0 8 t).toInt ∧ (va_cpy u.2.2.2.2.1 a.2.2.2.2.1 0 0 8 t).toInt ≤ 1000
    rw [cp_in ht]
    exact h3 t ht
  · show 0 ≤ (va_cpy u.2.2.2.2.2.1 a.2.2.2.2.2.1 0 0 4 k).toInt ∧ (va_cpy u.2.2.2.2.2.1 a.2.2.2.2.2.1 0 0 4 k).toInt ≤ 5 ∧ 0 ≤ (va_cpy u.2.2.2.2.2.2.1 a.2.2.2.2.2.2.1 0 0 4 k).toInt ∧ (va_cpy u.2.2.2.2.2.2.1 a.2.2.2.2.2.2.1 0 0 4 k).toInt ≤ 8 ∧ 0 ≤ (va_cpy u.2.2.2.2.2.2.2.1 a.2.2.2.2.2.2.2.1 0 0 4 k).toInt ∧ (va_cpy u.2.2.2.2.2.2.2.1 a.2.2.2.2.2.2.2.1 0 0 4 k).toInt ≤ 1
    rw [cp_in hk, cp_in hk, cp_in hk]
    exact h4 k hk
theorem cpf_B (a : BT) {u : BT} {w : Nat → Int64} {o : Nat} (h : RBu u w o) : RBu (cpf a u) w o := by
  obtain ⟨h1, h2, h3, h4, h5, h6, h7, h8⟩ := h
  refine ⟨fun s hs => ?_, fun c hc => ?_, h3, fun k hk => ?_, h5, h6, h7, fun t ht => ?_⟩
  · show w (o + s) = (va_cpy u.1 a.1 0 0 6 s).toInt64 ∧ ((va_cpy u.1 a.1 0 0 6 s).toInt ≤ 11 → w (o + 6 + s) = (va_cpy u.2.1 a.2.1 0 0 6 s).toInt64)
    rw [cp_in hs, cp_in hs]
    exact h1 s hs
  · show w (o + 12 + c) = (va_cpy u.2.2.1 a.2.2.1 0 0 72 c).toInt64 ∧ w (o + 84 + c) = va_cpy u.2.2.2.1 a.2.2.2.1 0 0 72 c
    rw [cp_in hc, cp_in hc]
    exact h2 c hc
  · show w (o + 157 + 3 * k) = (va_cpy u.2.2.2.2.2.1 a.2.2.2.2.2.1 0 0 4 k).toInt64 ∧ w (o + 158 + 3 * k) = (va_cpy u.2.2.2.2.2.2.1 a.2.2.2.2.2.2.1 0 0 4 k).toInt64 ∧ w (o + 159 + 3 * k) = (va_cpy u.2.2.2.2.2.2.2.1 a.2.2.2.2.2.2.2.1 0 0 4 k).toInt64
    rw [cp_in hk, cp_in hk, cp_in hk]
    exact h4 k hk
  · show w (o + 172 + t) = (va_cpy u.2.2.2.2.1 a.2.2.2.2.1 0 0 8 t).toInt64
    rw [cp_in ht]
    exact h8 t ht
theorem RelH_mv {nx ct un : Int32} {hs : HT} {w w' : Nat → Int64} (h : ∀ j, 540 ≤ j → w' j = w j) (hH : RelH nx ct hs w un) : RelH nx ct hs w' un := by
  obtain ⟨h1, n, x, h2, h3, h4, h5, h6⟩ := hH
  refine ⟨h1, n, x, h2, h3, h4, h5, fun j hj => ?_⟩
  obtain ⟨u, q1, q2, q3⟩ := h6 j hj
  exact ⟨u, q1, q2, RB_mv (fun i _ => h _ (by omega)) q3⟩
theorem RelI_mv {ir is ik : Nat → Int32} {hs hs' : HT} {w w' : Nat → Int64} (h : ∀ j, 180 ≤ j → j < 540 → w' j = w j) (hh : ∀ i, i < 2 → hs' (16 + i) = hs (16 + i)) (hI : RelI ir hs w is ik) : RelI ir hs' w' is ik := by
  intro i hi
  rw [hh i hi]
  rcases hI i hi with h1 | ⟨h1, u, h2, h3, h4, h5⟩
  · exact Or.inl h1
  · exact Or.inr ⟨h1, u, h2, h3, RB_mv (fun j hj => h _ (by omega) (by omega)) h4, h5⟩
theorem mod_d : ∀ x, x < 17 → f_J9_floorMod_7cf53 (nI x) 16 = some (nI (x % 16)) := by decide +kernel
theorem mod2_d : ∀ x, x < 17 → ∀ n, n < 17 → f_J9_floorMod_7cf53 (nI x - nI n) 16 = some (nI ((x + 16 - n) % 16)) := by decide +kernel
theorem init_d : f_X0_init.isSome = true := by decide +kernel
theorem orInit_s (o : Option BT) : ∃ a, orInit o = some a := by
  cases o with
  | none => exact Option.isSome_iff_exists.mp init_d
  | some u => exact ⟨u, rfl⟩
section RM1
variable {k z t g ks kb kw : Nat → Int32} {n : Nat → Int64} {kc ss hs : Int32} {hn : Int64} {w : Nat → Int64}
variable {ir is ik : Nat → Int32} {nx ct un : Int32} {hst : HT}
theorem remember_s (hW : WFu (k, z, t, n, g, ks, kb, kw, kc, ss, hs, hn)) (hB : RBu (k, z, t, n, g, ks, kb, kw, kc, ss, hs, hn) w 0) (hH : RelH nx ct hst w un) (hI : RelI ir hst w is ik) : ∃ nx' ct' hs' w' un', f_X2_remember k z t n g ks kb kw kc ss hs hn nx ct hst = some (nx', ct', hs') ∧ f_X6_minds w un = some (w', un') ∧ RBu (k, z, t, n, g, ks, kb, kw, kc, ss, hs, hn) w' 0 ∧ RelH nx' ct' hs' w' un' ∧ RelI ir hs' w' is ik := by
  obtain ⟨e0, m, x, hm, hx, em, ex, hall⟩ := hH
  have hun : un = nI m := by rw [← e0, em]
  obtain ⟨a, ea⟩ := orInit_s (hst (x % 16))
  have hx16 : x % 16 < 16 := Nat.mod_lt _ (by omega)
  have hms := minds_s w hm
  refine ⟨nI (x % 16 + 1), nI (if m = 16 then 16 else m + 1), va_up hst (x % 16) (some (cpf a (k, z, t, n, g, ks, kb, kw, kc, ss, hs, hn))), mw w m, nI (if m = 16 then 16 else m + 1), ?_, by rw [hun]; exact hms, RB_mv (fun j hj => mw_low w (by omega)) hB, ?_, RelI_mv (fun j _ h => mw_low w h) (fun i _ => by show (if 16 + i = x % 16 then _ else _) = _; rw [if_neg (by omega)]) hI⟩
  · unfold f_X2_remember
    rw [ex, mod_d x (by omega), Option.bind_some, if_pos (ib_n hx16 (by omega)), nI_clamp (by omega), ea, Option.bind_some]
    unfold f_X0_copyFrom
    rw [Option.bind_some, em, nI_1, nI_1]
    have : (if (16 : Int32) < nI (m + 1) then (16 : Int32) else nI (m + 1)) = nI (if m = 16 then 16 else m + 1) := by
      by_cases h : m = 16
      · subst h; rfl
      · rw [if_neg h, if_neg (show ¬ (16 : Int32) < nI (m + 1) from show ¬ nI 16 < nI (m + 1) from nI_nlt (by omega) (by omega))]
    rw [this]
    rfl
  · refine ⟨rfl, (if m = 16 then 16 else m + 1), x % 16 + 1, ?_, by omega, rfl, rfl, ?_⟩
    · by_cases h : m = 16
      · rw [if_pos h]; omega
      · rw [if_neg h]; omega
    intro j hj
    by_cases h : m = 16
    · subst h
      rw [if_pos rfl] at hj ⊢
      by_cases hj15 : j = 15
      · subst hj15
        refine ⟨cpf a (k, z, t, n, g, ks, kb, kw, kc, ss, hs, hn), ?_, cpf_W a hW, cpf_B a (RB_mv (fun i hi => ?_) hB)⟩
        · show (if (x % 16 + 1 + 16 + 15 - 16) % 16 = x % 16 then _ else _) = _
          rw [if_pos (by omega)]
        · show mw w 16 _ = _
          unfold mw cpy shf
          rw [if_pos rfl]
          show (if 3240 ≤ 540 + 180 * 15 + i ∧ 540 + 180 * 15 + i < 3240 + 180 then _ else _) = _
          rw [if_pos (by omega), if_neg (by omega)]
          exact congrArg w (by omega)
      · obtain ⟨u, q1, q2, q3⟩ := hall (j + 1) (by omega)
        refine ⟨u, ?_, q2, RB_mv (fun i hi => ?_) q3⟩
        · show (if (x % 16 + 1 + 16 + j - 16) % 16 = x % 16 then _ else hst ((x % 16 + 1 + 16 + j - 16) % 16)) = _
          rw [if_neg (by omega), show (x % 16 + 1 + 16 + j - 16) % 16 = (x + 16 + (j + 1) - 16) % 16 by omega]
          exact q1
        · show mw w 16 _ = _
          unfold mw cpy shf
          rw [if_pos rfl]
          show (if 3240 ≤ 540 + 180 * j + i ∧ 540 + 180 * j + i < 3240 + 180 then _ else (if 540 ≤ 540 + 180 * j + i ∧ 540 + 180 * j + i < 3240 then w (540 + 180 * j + i + 180) else w (540 + 180 * j + i))) = _
          rw [if_neg (by omega), if_pos (by omega)]
          exact congrArg w (by omega)
    · rw [if_neg h] at hj ⊢
      by_cases hjm : j = m
      · subst hjm
        refine ⟨cpf a (k, z, t, n, g, ks, kb, kw, kc, ss, hs, hn), ?_, cpf_W a hW, cpf_B a (RB_mv (fun i hi => ?_) hB)⟩
        · show (if (x % 16 + 1 + 16 + j - (j + 1)) % 16 = x % 16 then _ else _) = _
          rw [if_pos (by omega)]
        · unfold mw cpy
          rw [if_neg h]
          show (if 540 + 180 * j ≤ 540 + 180 * j + i ∧ 540 + 180 * j + i < 540 + 180 * j + 180 then _ else _) = _
          rw [if_pos (by omega)]
          exact congrArg w (by omega)
      · obtain ⟨u, q1, q2, q3⟩ := hall j (by omega)
        refine ⟨u, ?_, q2, RB_mv (fun i hi => ?_) q3⟩
        · show (if (x % 16 + 1 + 16 + j - (m + 1)) % 16 = x % 16 then _ else hst ((x % 16 + 1 + 16 + j - (m + 1)) % 16)) = _
          rw [if_neg (by omega), show (x % 16 + 1 + 16 + j - (m + 1)) % 16 = (x + 16 + j - m) % 16 by omega]
          exact q1
        · unfold mw cpy
          rw [if_neg h]
          show (if 540 + 180 * m ≤ 540 + 180 * j + i ∧ 540 + 180 * j + i < 540 + 180 * m + 180 then _ else _) = _
          rw [if_neg (by omega)]
end RM1
