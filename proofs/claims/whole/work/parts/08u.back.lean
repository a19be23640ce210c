/-! keep, goBack, undo -/
theorem cpy_out {w : Nat → Int64} {a b j : Nat} (h : j < b ∨ b + 180 ≤ j) : cpy w a b j = w j := by
  unfold cpy
  rw [if_neg (by omega)]
theorem cpy_in {w : Nat → Int64} {a b j : Nat} (h : j < 180) : cpy w a b (b + j) = w (a + j) := by
  unfold cpy
  rw [if_pos (by omega)]
  exact congrArg w (by omega)
theorem RelH_0 {nx ct un : Int32} {hst hst' : HT} {w w' : Nat → Int64} (hH : RelH nx ct hst w un) : RelH nx 0 hst' w' 0 := by
  obtain ⟨e0, m, x, hm, hx, em, ex, hall⟩ := hH
  exact ⟨rfl, 0, x, by omega, hx, rfl, ex, fun j hj => by omega⟩
theorem sim_keep {b_kinds : Nat → Int32} {b_sizes : Nat → Int32} {b_sorts : Nat → Int32} {b_numbers : Nat → Int64} {b_weights : Nat → Int32} {b_keySlots : Nat → Int32} {b_keyBys : Nat → Int32} {b_keyWays : Nat → Int32} {b_keyCount : Int32} {b_sheetSet : Int32} {b_handSort : Int32} {b_handNumber : Int64} {x_imageRandoms : Nat → Int32} {x_random : Int32} {h_next : Int32} {h_count : Int32} {k_places : Nat → Int32} {k_positions : Nat → Int32} {k_count : Int32} {w_w : Nat → Int64} {w_imageSeed : Nat → Int32} {w_isKept : Nat → Int32} {w_undos : Int32} {w_seed : Int32} {w_entries : Int32} {w_bookPlace : Nat → Int32} {w_bookPosition : Nat → Int32} {P_hs : HT} (hR : Rel (b_kinds, b_sizes, b_sorts, b_numbers, b_weights, b_keySlots, b_keyBys, b_keyWays, b_keyCount, b_sheetSet, b_handSort, b_handNumber) x_imageRandoms x_random h_next h_count P_hs k_places k_positions k_count w_w w_imageSeed w_isKept w_undos w_seed w_entries w_bookPlace w_bookPosition) (x1 : Int32) : ∃ (zc : Int32 × (Nat → Int32) × Int32 × HT) (zm : Int32 × (Nat → Int64) × (Nat → Int32) × (Nat → Int32) × Int32), f_X5_keep x_imageRandoms x_random b_kinds b_sizes b_sorts b_numbers b_weights b_keySlots b_keyBys b_keyWays b_keyCount b_sheetSet b_handSort b_handNumber h_count P_hs x1 = some zc ∧ f_X6_keep w_w w_imageSeed w_isKept w_undos w_seed x1 = some zm ∧ zc.1 = zm.1 ∧ Rel (b_kinds, b_sizes, b_sorts, b_numbers, b_weights, b_keySlots, b_keyBys, b_keyWays, b_keyCount, b_sheetSet, b_handSort, b_handNumber) zc.2.1 x_random h_next zc.2.2.1 zc.2.2.2 k_places k_positions k_count zm.2.1 zm.2.2.1 zm.2.2.2.1 zm.2.2.2.2 w_seed w_entries w_bookPlace w_bookPosition := by
  have hR0 := hR
  obtain ⟨hW, hB, hH, hI, hS, hK⟩ := hR
  unfold f_X5_keep f_X6_keep
  rcases inC x1 0 1 0 1 rfl rfl with ⟨h1, h2, _⟩ | ⟨h1, h2, h3⟩
  · rw [h1, h2]; exact ⟨_, _, rfl, rfl, rfl, hW, hB, hH, hI, hS, hK⟩
  obtain ⟨i, hi, rfl⟩ := inN (N := 2) h3.1 (by have := h3.2; have e9 : (1 : Int32).toInt = 1 := rfl; omega)
  obtain ⟨a, ea⟩ := orInit_s (P_hs (16 + i))
  have hib := ib_n hi (show 2 < 2 ^ 31 by omega)
  have e3 : (180 : Int32) + ((180 : Int32) * nI i) = nI (180 + 180 * i) := by rw [n180, pk_mul, nI_add]
  have hcp := copy_s w_w (a := 0) (b := 180 + 180 * i) (by omega) (by omega) (by omega)
  have hbool : vp_nar .boolean 1 = 1 := rfl
  rw [h1, h2, e3, n0, hcp, nI_clamp (show i < 2 ^ 31 by omega), ea]
  unfold f_X0_copyFrom
  simp only [Option.bind_some, show ¬ (1 : Int32) = nI 0 from z10, hib, if_true, if_false, hbool]
  refine ⟨_, _, rfl, rfl, rfl, hW, RB_mv (fun j hj => cpy_out (by omega)) hB, RelH_0 hH, ?_, hS, hK⟩
  intro j hj
  show (upd w_isKept i 1 j = 0 ∧ va_up P_hs (16 + i) (some (cpf a (b_kinds, b_sizes, b_sorts, b_numbers, b_weights, b_keySlots, b_keyBys, b_keyWays, b_keyCount, b_sheetSet, b_handSort, b_handNumber))) (16 + j) = none) ∨ (upd w_isKept i 1 j = 1 ∧ ∃ u : BT, va_up P_hs (16 + i) (some (cpf a (b_kinds, b_sizes, b_sorts, b_numbers, b_weights, b_keySlots, b_keyBys, b_keyWays, b_keyCount, b_sheetSet, b_handSort, b_handNumber))) (16 + j) = some u ∧ WFu u ∧ RBu u (cpy w_w 0 (180 + 180 * i)) (180 + 180 * j) ∧ upd w_imageSeed i w_seed j = upd x_imageRandoms i x_random j ∧ 0 ≤ (upd x_imageRandoms i x_random j).toInt)
  by_cases e : j = i
  · subst e
    rw [pk_us, pk_us, pk_us, va_up_self]
    exact Or.inr ⟨rfl, _, rfl, cpf_W a hW, cpf_B a (RB_mv (fun i hi => by rw [cpy_in hi]) hB), hS.1, hS.2⟩
  · rw [pk_un e, pk_un e, pk_un e, va_up_ne _ _ (by omega)]
    rcases hI j hj with h | ⟨q1, u, q2, q3, q4, q5⟩
    · exact Or.inl h
    · exact Or.inr ⟨q1, u, q2, q3, RB_mv (fun l hl => cpy_out (by omega)) q4, q5⟩
theorem sim_goBack {b_kinds : Nat → Int32} {b_sizes : Nat → Int32} {b_sorts : Nat → Int32} {b_numbers : Nat → Int64} {b_weights : Nat → Int32} {b_keySlots : Nat → Int32} {b_keyBys : Nat → Int32} {b_keyWays : Nat → Int32} {b_keyCount : Int32} {b_sheetSet : Int32} {b_handSort : Int32} {b_handNumber : Int64} {x_imageRandoms : Nat → Int32} {x_random : Int32} {h_next : Int32} {h_count : Int32} {k_places : Nat → Int32} {k_positions : Nat → Int32} {k_count : Int32} {w_w : Nat → Int64} {w_imageSeed : Nat → Int32} {w_isKept : Nat → Int32} {w_undos : Int32} {w_seed : Int32} {w_entries : Int32} {w_bookPlace : Nat → Int32} {w_bookPosition : Nat → Int32} {P_hs : HT} (hR : Rel (b_kinds, b_sizes, b_sorts, b_numbers, b_weights, b_keySlots, b_keyBys, b_keyWays, b_keyCount, b_sheetSet, b_handSort, b_handNumber) x_imageRandoms x_random h_next h_count P_hs k_places k_positions k_count w_w w_imageSeed w_isKept w_undos w_seed w_entries w_bookPlace w_bookPosition) (x1 : Int32) : ∃ (zc : Int32 × Int32 × (Nat → Int32) × (Nat → Int32) × (Nat → Int32) × (Nat → Int64) × (Nat → Int32) × (Nat → Int32) × (Nat → Int32) × (Nat → Int32) × Int32 × Int32 × Int32 × Int64 × Int32 × HT) (zm : Int32 × (Nat → Int64) × Int32 × Int32), f_X5_goBack x_imageRandoms x_random b_kinds b_sizes b_sorts b_numbers b_weights b_keySlots b_keyBys b_keyWays b_keyCount b_sheetSet b_handSort b_handNumber h_count P_hs x1 = some zc ∧ f_X6_goBack w_w w_imageSeed w_isKept w_undos w_seed x1 = some zm ∧ zc.1 = zm.1 ∧ Rel (zc.2.2.1, zc.2.2.2.1, zc.2.2.2.2.1, zc.2.2.2.2.2.1, zc.2.2.2.2.2.2.1, zc.2.2.2.2.2.2.2.1, zc.2.2.2.2.2.2.2.2.1, zc.2.2.2.2.2.2.2.2.2.1, zc.2.2.2.2.2.2.2.2.2.2.1, zc.2.2.2.2.2.2.2.2.2.2.2.1, zc.2.2.2.2.2.2.2.2.2.2.2.2.1, zc.2.2.2.2.2.2.2.2.2.2.2.2.2.1) x_imageRandoms zc.2.1 h_next zc.2.2.2.2.2.2.2.2.2.2.2.2.2.2.1 zc.2.2.2.2.2.2.2.2.2.2.2.2.2.2.2 k_places k_positions k_count zm.2.1 w_imageSeed w_isKept zm.2.2.1 zm.2.2.2 w_entries w_bookPlace w_bookPosition := by
  have hR0 := hR
  obtain ⟨hW, hB, hH, hI, hS, hK⟩ := hR
  unfold f_X5_goBack f_X6_goBack
  rcases inC x1 0 1 0 1 rfl rfl with ⟨h1, h2, _⟩ | ⟨h1, h2, h3⟩
  · rw [h1, h2]; exact ⟨_, _, rfl, rfl, rfl, hW, hB, hH, hI, hS, hK⟩
  obtain ⟨i, hi, rfl⟩ := inN (N := 2) h3.1 (by have := h3.2; have e9 : (1 : Int32).toInt = 1 := rfl; omega)
  have hib := ib_n hi (show 2 < 2 ^ 31 by omega)
  have e3 : (180 : Int32) + ((180 : Int32) * nI i) = nI (180 + 180 * i) := by rw [n180, pk_mul, nI_add]
  have hcp := copy_s w_w (a := 180 + 180 * i) (b := 0) (by omega) (by omega) (by omega)
  rw [h1, h2, Option.bind_some, Option.bind_some, if_neg z10, if_neg z10, if_pos hib, if_pos hib, nI_clamp (show i < 2 ^ 31 by omega)]
  rcases hI i hi with ⟨q1, q2⟩ | ⟨q1, u, q2, q3, q4, q5, q6⟩
  · rw [q1, q2, if_pos rfl]
    exact ⟨_, _, rfl, rfl, rfl, hW, hB, hH, hI, hS, hK⟩
  · rw [q1, q2, if_neg z10, e3, n0, hcp, Option.bind_some, if_pos hib]
    unfold f_X0_copyFrom
    refine ⟨_, _, rfl, rfl, rfl, ?_⟩
    have hB' : RBu u (cpy w_w (180 + 180 * i) 0) 0 := RB_mv (fun j hj => cpy_in hj) q4
    refine ⟨cpf_W (b_kinds, b_sizes, b_sorts, b_numbers, b_weights, b_keySlots, b_keyBys, b_keyWays, b_keyCount, b_sheetSet, b_handSort, b_handNumber) q3, cpf_B (b_kinds, b_sizes, b_sorts, b_numbers, b_weights, b_keySlots, b_keyBys, b_keyWays, b_keyCount, b_sheetSet, b_handSort, b_handNumber) hB', RelH_0 hH, RelI_mv (fun j hj _ => cpy_out (by omega)) (fun _ _ => rfl) hI, ⟨q5, q6⟩, hK⟩
theorem sim_undo {b_kinds : Nat → Int32} {b_sizes : Nat → Int32} {b_sorts : Nat → Int32} {b_numbers : Nat → Int64} {b_weights : Nat → Int32} {b_keySlots : Nat → Int32} {b_keyBys : Nat → Int32} {b_keyWays : Nat → Int32} {b_keyCount : Int32} {b_sheetSet : Int32} {b_handSort : Int32} {b_handNumber : Int64} {x_imageRandoms : Nat → Int32} {x_random : Int32} {h_next : Int32} {h_count : Int32} {k_places : Nat → Int32} {k_positions : Nat → Int32} {k_count : Int32} {w_w : Nat → Int64} {w_imageSeed : Nat → Int32} {w_isKept : Nat → Int32} {w_undos : Int32} {w_seed : Int32} {w_entries : Int32} {w_bookPlace : Nat → Int32} {w_bookPosition : Nat → Int32} {P_hs : HT} (hR : Rel (b_kinds, b_sizes, b_sorts, b_numbers, b_weights, b_keySlots, b_keyBys, b_keyWays, b_keyCount, b_sheetSet, b_handSort, b_handNumber) x_imageRandoms x_random h_next h_count P_hs k_places k_positions k_count w_w w_imageSeed w_isKept w_undos w_seed w_entries w_bookPlace w_bookPosition) (x1 : Int32) : ∃ (zc : Int32 × (Nat → Int32) × (Nat → Int32) × (Nat → Int32) × (Nat → Int64) × (Nat → Int32) × (Nat → Int32) × (Nat → Int32) × (Nat → Int32) × Int32 × Int32 × Int32 × Int64 × Int32 × Int32 × HT) (zm : Int32 × (Nat → Int64) × Int32), f_X5_undo b_kinds b_sizes b_sorts b_numbers b_weights b_keySlots b_keyBys b_keyWays b_keyCount b_sheetSet b_handSort b_handNumber h_next h_count P_hs x1 = some zc ∧ f_X6_undo w_w w_undos x1 = some zm ∧ zc.1 = zm.1 ∧ Rel (zc.2.1, zc.2.2.1, zc.2.2.2.1, zc.2.2.2.2.1, zc.2.2.2.2.2.1, zc.2.2.2.2.2.2.1, zc.2.2.2.2.2.2.2.1, zc.2.2.2.2.2.2.2.2.1, zc.2.2.2.2.2.2.2.2.2.1, zc.2.2.2.2.2.2.2.2.2.2.1, zc.2.2.2.2.2.2.2.2.2.2.2.1, zc.2.2.2.2.2.2.2.2.2.2.2.2.1) x_imageRandoms x_random zc.2.2.2.2.2.2.2.2.2.2.2.2.2.1 zc.2.2.2.2.2.2.2.2.2.2.2.2.2.2.1 zc.2.2.2.2.2.2.2.2.2.2.2.2.2.2.2 k_places k_positions k_count zm.2.1 w_imageSeed w_isKept zm.2.2 w_seed w_entries w_bookPlace w_bookPosition := by
  have hR0 := hR
  obtain ⟨hW, hB, hH, hI, hS, hK⟩ := hR
  unfold f_X5_undo f_X6_undo
  rcases inC x1 1 16 1 16 rfl rfl with ⟨h1, h2, _⟩ | ⟨h1, h2, h3⟩
  · rw [h1, h2]; exact ⟨_, _, rfl, rfl, rfl, hW, hB, hH, hI, hS, hK⟩
  have e1' : (1 : Int32).toInt = 1 := rfl
  have e16 : (16 : Int32).toInt = 16 := rfl
  obtain ⟨q, hq, rfl⟩ := inN (N := 17) (show 0 ≤ x1.toInt by omega) (by omega)
  rw [nI_toInt (by omega)] at h3
  obtain ⟨e0, m, x, hm, hx, em, ex, hall⟩ := hH
  have eun : w_undos = nI m := by rw [← e0, em]
  rw [h1, h2, Option.bind_some, Option.bind_some, if_neg z10, if_neg z10]
  by_cases hqm : q ≤ m
  · have c1 : nI q ≤ h_count := by rw [em]; exact nI_le hqm (by omega)
    have c2 : nI q ≤ w_undos := by rw [eun]; exact nI_le hqm (by omega)
    have c3 : ¬ h_count < nI q := by rw [em]; exact nI_nlt hqm (by omega)
    have e5 : (540 : Int32) + ((180 : Int32) * (w_undos - nI q)) = nI (540 + 180 * (m - q)) := by rw [eun, pk_sub hqm, n540, n180, pk_mul, nI_add]
    have hcp := copy_s w_w (a := 540 + 180 * (m - q)) (b := 0) (by omega) (by omega) (by omega)
    obtain ⟨u, q2, q3, q4⟩ := hall (m - q) (by omega)
    have q2' : P_hs ((x + 16 - q) % 16) = some u := by rw [← q2]; congr 1; omega
    rw [if_pos c1, if_pos c2, e5, n0, hcp]
    unfold f_X2_takeBack
    rw [ex, mod2_d x (by omega) q hq, Option.bind_some, if_pos (ib_n (Nat.mod_lt _ (by omega)) (by omega)), nI_clamp (by omega), q2']
    unfold f_X0_copyFrom
    simp only [if_neg c3]
    have hB' : RBu u (cpy w_w (540 + 180 * (m - q)) 0) 0 := RB_mv (fun j hj => cpy_in hj) q4
    refine ⟨_, _, rfl, rfl, ?_, cpf_W (b_kinds, b_sizes, b_sorts, b_numbers, b_weights, b_keySlots, b_keyBys, b_keyWays, b_keyCount, b_sheetSet, b_handSort, b_handNumber) q3, cpf_B (b_kinds, b_sizes, b_sorts, b_numbers, b_weights, b_keySlots, b_keyBys, b_keyWays, b_keyCount, b_sheetSet, b_handSort, b_handNumber) hB', ?_, RelI_mv (fun j hj _ => cpy_out (by omega)) (fun _ _ => rfl) hI, hS, hK⟩
    · show h_count - nI q = w_undos - nI q
      rw [e0]
    · refine ⟨?_, m - q, (x + 16 - q) % 16, by omega, by omega, ?_, rfl, ?_⟩
      · show h_count - nI q = w_undos - nI q
        rw [e0]
      · show h_count - nI q = _
        rw [em, pk_sub hqm]
      · intro j hj
        obtain ⟨u', p2, p3, p4⟩ := hall j (by omega)
        refine ⟨u', ?_, p3, RB_mv (fun l hl => cpy_out (by omega)) p4⟩
        show P_hs _ = _
        rw [← p2]
        congr 1
        omega
  · have c1 : ¬ nI q ≤ h_count := by rw [em]; exact nI_ge (by omega) (by omega)
    have c2 : ¬ nI q ≤ w_undos := by rw [eun]; exact nI_ge (by omega) (by omega)
    rw [if_neg c1, if_neg c2]
    exact ⟨_, _, rfl, rfl, rfl, hR0⟩
