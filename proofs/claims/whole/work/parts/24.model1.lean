def f_twoI (n : Nat) (f g : Nat → Int32) : Nat → Int32 := fun i => if i < n then f i else g (i - n)
def f_twoL (n : Nat) (f g : Nat → Int64) : Nat → Int64 := fun i => if i < n then f i else g (i - n)
def f_lo (z xz : Nat) : Nat → Int32 := fun i => if i = 0 then nI z else if i = 1 then nI xz else 0
theorem f_tI0 {n k : Nat} {f g : Nat → Int32} (h : k < n) : f_twoI n f g k = f k := if_pos h
theorem f_tI1 {n k : Nat} {f g : Nat → Int32} : f_twoI n f g (n + k) = g k := by unfold f_twoI; rw [if_neg (by omega), Nat.add_sub_cancel_left]
theorem f_tL0 {n k : Nat} {f g : Nat → Int64} (h : k < n) : f_twoL n f g k = f k := if_pos h
theorem f_tL1 {n k : Nat} {f g : Nat → Int64} : f_twoL n f g (n + k) = g k := by unfold f_twoL; rw [if_neg (by omega), Nat.add_sub_cancel_left]
theorem f_uI0 {n k : Nat} {f g : Nat → Int32} {x : Int32} (h : k < n) : f_twoI n (upd f k x) g = upd (f_twoI n f g) k x := by
  funext i
  unfold f_twoI upd
  by_cases h1 : i = k
  · subst h1; simp [h]
  · by_cases h2 : i < n
    · simp [h1, h2]
    · simp [h1, h2]
theorem f_uI1 {n k : Nat} {f g : Nat → Int32} {x : Int32} : f_twoI n f (upd g k x) = upd (f_twoI n f g) (n + k) x := by
  funext i
  unfold f_twoI upd
  by_cases h1 : i = n + k
  · subst h1; simp; intro h9; omega
  · by_cases h2 : i < n
    · simp [h1, h2]
    · have h3 : ¬ i - n = k := by omega
      simp [h1, h2, h3]
theorem f_uL0 {n k : Nat} {f g : Nat → Int64} {x : Int64} (h : k < n) : f_twoL n (vp_updL f k x) g = vp_updL (f_twoL n f g) k x := by
  funext i
  unfold f_twoL vp_updL
  by_cases h1 : i = k
  · subst h1; simp [h]
  · by_cases h2 : i < n
    · simp [h1, h2]
    · simp [h1, h2]
theorem f_uL1 {n k : Nat} {f g : Nat → Int64} {x : Int64} : f_twoL n f (vp_updL g k x) = vp_updL (f_twoL n f g) (n + k) x := by
  funext i
  unfold f_twoL vp_updL
  by_cases h1 : i = n + k
  · subst h1; simp; intro h9; omega
  · by_cases h2 : i < n
    · simp [h1, h2]
    · have h3 : ¬ i - n = k := by omega
      simp [h1, h2, h3]
theorem f_in3n {x : Int32} (h : x < 0 ∨ 4 ≤ x) : f_in x.toInt64 0 3 = 0 := by
  rcases h with h | h
  · exact f_in_lo h
  · exact f_in_hi (c := 3) (by rw [Int32.le_iff_toInt_le] at h; rw [Int32.lt_iff_toInt_lt]; have e3 : (3 : Int32).toInt = 3 := by decide
                               have e4 : (4 : Int32).toInt = 4 := by decide
                               omega)
theorem f_in3y {k : Nat} (h : k < 4) : f_in (nI k).toInt64 0 3 = 1 := f_in_in (c := 3) (f_nn (by omega)) (nI_le (b := 3) (by omega) (by decide))
theorem f_in7n {x : Int32} (h : x < 0 ∨ ¬ x < 8) : f_in x.toInt64 0 7 = 0 := by
  rcases h with h | h
  · exact f_in_lo h
  · exact f_in_hi (c := 7) (by
      have h1 := Int32.not_lt.mp h
      rw [Int32.le_iff_toInt_le] at h1; rw [Int32.lt_iff_toInt_lt]
      have e3 : (7 : Int32).toInt = 7 := by decide
      have e4 : (8 : Int32).toInt = 8 := by decide
      omega)
theorem f_in7y {k : Nat} (h : k < 8) : f_in (nI k).toInt64 0 7 = 1 := f_in_in (c := 7) (f_nn (by omega)) (nI_le (b := 7) (by omega) (by decide))
theorem f_in5n {x : Int32} (h : x < 0 ∨ ¬ x ≤ 5) : f_in x.toInt64 0 5 = 0 := by
  rcases h with h | h
  · exact f_in_lo h
  · exact f_in_hi (c := 5) (Int32.not_le.mp h)
theorem f_in5y {x : Int32} (h0 : ¬ x < 0) (h : x ≤ 5) : f_in x.toInt64 0 5 = 1 := f_in_in (c := 5) h0 h
theorem f_in1n {x : Int32} (h : f_isDesk x = 0) : f_in x.toInt64 0 1 = 0 := by
  by_cases h1 : x < 0
  · exact f_in_lo h1
  · refine f_in_hi (c := 1) ?_
    have h2 : ¬ x = 0 := fun h9 => by rw [h9] at h; exact absurd h (by decide)
    have h3 : ¬ x = 1 := fun h9 => by rw [h9] at h; exact absurd h (by decide)
    rw [Int32.lt_iff_toInt_lt] at h1 ⊢
    have e0 : (0 : Int32).toInt = 0 := by decide
    have e1 : (1 : Int32).toInt = 1 := by decide
    have g2 : ¬ x.toInt = (0 : Int32).toInt := fun h9 => h2 (Int32.toInt.inj h9)
    have g3 : ¬ x.toInt = (1 : Int32).toInt := fun h9 => h3 (Int32.toInt.inj h9)
    omega
def f_mkV (md : Nat → Int32) (x : Int32) : Int32 := if f_mk md x = 0 then md x.toNatClampNeg + 1 else 0
def f_drD (md : Nat → Int32) (kn : Nat → Int64) (dr : Nat → Int32) (x n : Int32) : Nat → Int32 := if f_dr md kn x n = 0 then dr else upd dr (40 * x.toNatClampNeg + (n.toNatClampNeg - 1)) 1
def f_tdV (tf : Nat → Int64) (x : Int32) : Int64 := if f_td x = 0 then tf x.toNatClampNeg else 0
def f_clV (sz : Nat → Int32) (vs : Nat → Nat → Int64) (x i : Int32) : Int64 := if f_clR sz x i = 0 then vs x.toNatClampNeg i.toNatClampNeg else 0
def f_lgW (rg xrg : Nat → Int64) (z q xz xq : Nat) (x i : Int32) : Int64 := if f_lgR z xz x i = 0 then f_lgV rg xrg z q xz xq x i else 0
def f_smW (sm xsm : Nat → Int64) (x y : Int32) : Int64 := if f_smR x y = 0 then f_smV sm xsm x y else 0
def f_coW (sz : Nat → Int32) (va : Nat → Int64) (x : Int32) (v : Int64) : Nat → Int64 := if f_cc sz x v = 4 then va else vp_updL va (100 * f_cc sz x v + (sz (f_cc sz x v)).toNatClampNeg) v
theorem f_40 {md : Nat → Int32} {k M : Nat} (hM : md k = nI M) (h4 : M ≤ 40) : ¬ md k < 40 ↔ md k = 40 := by
  rw [hM]
  constructor
  · intro h
    have h1 : ¬ M < 40 := fun h9 => h (nI_lt (b := 40) h9 (by decide))
    rw [show M = 40 by omega]
    rfl
  · intro h
    rw [h]
    decide
theorem f_known_j {md : Nat → Int32} {kn : Nat → Int64} {k M : Nat} {n : Int32} (hM : md k = nI M) (hM4 : M ≤ 40) (h : ¬ f_isKnown md kn k n = 0) : ∃ j : Nat, j < M ∧ n = nI (j + 1) := by
  rcases f_made hM hM4 n with h1 | ⟨h1, h2⟩ | h1
  · exact absurd (by unfold f_isKnown; rw [if_pos]; unfold f_wasMade; rw [if_pos h1]) h
  · exact absurd (by unfold f_isKnown; rw [if_pos]; unfold f_wasMade; rw [if_neg h1, if_pos h2]) h
  · exact h1
theorem f_upd0 {md : Nat → Int32} {j : Nat} : md = upd md j (md j + 0) := by
  funext i
  unfold upd
  by_cases h : i = j
  · rw [if_pos h, h, Int32.add_zero]
  · rw [if_neg h]
theorem f_ixv (k n : Nat) : 100 * nI k + nI n = nI (100 * k + n) := by rw [show (100 : Int32) = nI 100 from rfl, pk_mul, nI_add]
theorem f_64a (j : Nat) : 64 * 0 + nI j = nI j := by rw [show (64 : Int32) * 0 = nI 0 by decide, nI_add, Nat.zero_add]
theorem f_64b (j : Nat) : 64 * 1 + nI j = nI (64 + j) := by rw [show (64 : Int32) * 1 = nI 64 by decide, nI_add]
theorem f_12a (j : Nat) : 12 * 0 + nI j = nI j := by rw [show (12 : Int32) * 0 = nI 0 by decide, nI_add, Nat.zero_add]
theorem f_12b (j : Nat) : 12 * 1 + nI j = nI (12 + j) := by rw [show (12 : Int32) * 1 = nI 12 by decide, nI_add]
theorem f_full100 {sz : Nat → Int32} {k n : Nat} (hn : sz k = nI n) (hn2 : n ≤ 100) (h : ¬ f_cfull sz k = 0) : n = 100 := by
  unfold f_cfull at h
  by_cases h8 : sz k < 100
  · rw [if_pos h8] at h; exact absurd rfl h
  · rw [hn] at h8
    have h1 : ¬ n < 100 := fun h9 => h8 (nI_lt (b := 100) h9 (by decide))
    omega
theorem f_ccs6 (md sz : Nat → Int32) (x : Int32) (v : Int64) : (x < 0 ∨ (¬ x < 0 ∧ 4 ≤ x)) ∨ (∃ k : Nat, k < 4 ∧ x = nI k ∧ f_can k v = 0) ∨ (∃ k : Nat, k < 4 ∧ x = nI k ∧ ¬ f_can k v = 0 ∧ ¬ f_cfull sz k = 0) ∨ (∃ k : Nat, k < 4 ∧ k < 3 ∧ x = nI k ∧ ¬ f_can k v = 0 ∧ f_cfull sz k = 0) ∨ ((x = nI 3 ∧ ¬ f_can 3 v = 0 ∧ f_cfull sz 3 = 0) ∧ md v.toInt32.toNatClampNeg < 40) ∨ ((x = nI 3 ∧ ¬ f_can 3 v = 0 ∧ f_cfull sz 3 = 0) ∧ ¬ md v.toInt32.toNatClampNeg < 40) := by
  rcases f_ccs sz x v with h | h | h | h | h
  · exact Or.inl h
  · exact Or.inr (Or.inl h)
  · exact Or.inr (Or.inr (Or.inl h))
  · exact Or.inr (Or.inr (Or.inr (Or.inl h)))
  · by_cases h1 : md v.toInt32.toNatClampNeg < 40
    · exact Or.inr (Or.inr (Or.inr (Or.inr (Or.inl ⟨h, h1⟩))))
    · exact Or.inr (Or.inr (Or.inr (Or.inr (Or.inr ⟨h, h1⟩))))
abbrev rm_MO_answer : Room := { frames := 1, cells := 0, slots := 0, locals := 20 }
set_option maxHeartbeats 4000000 in
set_option maxRecDepth 100000 in
theorem k_MO_answer (l : Launch) (dC : Nat → ClassId) (dI : Nat → Nat → Nat) (cI cJ cG cZ : ClassId) (u0 : Nat) (u1 : Nat) (u2 : Nat) (u3 : Nat) (u4 : Nat) (u5 : Nat) (u6 : Nat) (u7 : Nat) (u8 : Nat) (u9 : Nat) (u10 : Nat) (th : Int32) (an : Nat → Int64) (x : Int32) (v : Int64) : k_M l yMO_answer wsMO_answer rm_MO_answer (dC, dI) vwCl [(cI, .int), (cJ, .long), (cG, .array .long), (cZ, .boolean)] [.ref u0, .int x, .long v] [(u0, .inr (7, [.int th, .ref u1, .ref u2, .ref u3, .ref u4, .ref u5, .ref u6, .ref u7, .ref u8, .ref u9, .ref u10])), (u3, .inl (cJ, 12, .inr (.inl an)))] (some (.int (f_isPart x))) [(u0, .inr (7, [.int 0, .ref u1, .ref u2, .ref u3, .ref u4, .ref u5, .ref u6, .ref u7, .ref u8, .ref u9, .ref u10])), (u3, .inl (cJ, 12, .inr (.inl (f_anA an x v))))] := by
  rcases f_isPart_or x with h0 | ⟨k, hk, rfl⟩
  · rw [show f_anA an x v = an from if_pos h0, h0]
    refine k_of (cc := cMO_answer) (maxL := 4) (ret := (some .boolean)) (by decide) rfl (Nat.le_of_ble_eq_true rfl) ?_
    intro p e s m below meth c A ls hx hb hr hlocks hml hown hts hA hP hD hK hF hl hS
    have hown : s.vm.findClass RMO = some m.cls := hown
    have hl : lv_has ls 4 [(0, .ref u0), (1, .int x), (2, .long v)] := hl
    refine lv_aload_n hx hb dMO_answer_0 rfl (lv_at hl 0 rfl) ?_
    refine lv_iconst (v := 0) hx hb dMO_answer_1 (by decide) ?_
    refine va_put (D := (dC, dI)) (ci := 7) (v := .int 0) (ty := .int) (C := RMO) (T := TMO) (N := 11) hx hb hts inMO tyMO tyMO_ok nmMO hown hK hP hD hS 0 rfl rfl 0 (by decide) (hts _ m_f_MO_44) (fun _ h9 => h9) rfl (by decide +kernel) rfl rfl (Nat.le_of_ble_eq_true rfl) dMO_answer_2 (fun H locs hP hD hS => ?_)
    have hP : va_P (dC, dI) vwCl [(u0, .inr (7, [.int 0, .ref u1, .ref u2, .ref u3, .ref u4, .ref u5, .ref u6, .ref u7, .ref u8, .ref u9, .ref u10])), (u3, .inl (cJ, 12, .inr (.inl an)))] H := hP
    have hD : va_D A [(u0, .inr (7, [.int 0, .ref u1, .ref u2, .ref u3, .ref u4, .ref u5, .ref u6, .ref u7, .ref u8, .ref u9, .ref u10])), (u3, .inl (cJ, 12, .inr (.inl an)))] := hD
    refine lv_iload_n hx hb dMO_answer_5 rfl (lv_at hl 1 rfl) ?_
    refine k_S (wr := [(u0, .inr (7, [.int 0, .ref u1, .ref u2, .ref u3, .ref u4, .ref u5, .ref u6, .ref u7, .ref u8, .ref u9, .ref u10])), (u3, .inl (cJ, 12, .inr (.inl an)))]) (W1 := [(u0, .inr (7, [.int 0, .ref u1, .ref u2, .ref u3, .ref u4, .ref u5, .ref u6, .ref u7, .ref u8, .ref u9, .ref u10])), (u3, .inl (cJ, 12, .inr (.inl an)))]) (st1 := [.int (f_isPart x)]) ⟨hx, hb, hml, hown, hts⟩ (k_MO_isPart l dC dI cI cJ cG cZ x) (va_cwS 1 hts (k_gS m_l_MO_66 m_st_MO_isPart m_in_MO m_c_MO_isPart) rfl rfl rfl (by decide +kernel) ⟨Nat.le_of_ble_eq_true rfl, Nat.le_of_ble_eq_true rfl⟩) hK hF hP hD hS hA [] [0, 1] [0, 1] rfl rfl (by decide) (by decide) (by decide) rfl (by decide) rfl hl.1 rfl (Nat.le_of_ble_eq_true rfl) dMO_answer_6 ⟨Nat.le_of_ble_eq_true rfl, Nat.le_of_ble_eq_true rfl⟩ rfl (fun H locs hP hD hS => ?_)
    refine lv_if_ne (tgt := 14) hx hb dMO_answer_9 (by decide) (fun c_1 => ?_) (fun c_1 => ?_)
    · exact absurd h0 c_1
    · refine lv_iconst (v := 0) hx hb dMO_answer_12 (by decide) ?_
      exact k_zret hx hb hr hlocks rfl hP hK hD hS rfl dMO_answer_13 ⟨Nat.le_of_ble_eq_true rfl, Nat.le_of_ble_eq_true rfl⟩
  · rw [show f_anA an (nI k) v = vp_updL an k v by unfold f_anA; rw [if_neg (by rw [f_isPart_nI hk]; decide), nI_clamp (by omega)], f_isPart_nI hk]
    refine k_of (cc := cMO_answer) (maxL := 4) (ret := (some .boolean)) (by decide) rfl (Nat.le_of_ble_eq_true rfl) ?_
    intro p e s m below meth c A ls hx hb hr hlocks hml hown hts hA hP hD hK hF hl hS
    have hown : s.vm.findClass RMO = some m.cls := hown
    have hl : lv_has ls 4 [(0, .ref u0), (1, .int (nI k)), (2, .long v)] := hl
    refine lv_aload_n hx hb dMO_answer_0 rfl (lv_at hl 0 rfl) ?_
    refine lv_iconst (v := 0) hx hb dMO_answer_1 (by decide) ?_
    refine va_put (D := (dC, dI)) (ci := 7) (v := .int 0) (ty := .int) (C := RMO) (T := TMO) (N := 11) hx hb hts inMO tyMO tyMO_ok nmMO hown hK hP hD hS 0 rfl rfl 0 (by decide) (hts _ m_f_MO_44) (fun _ h9 => h9) rfl (by decide +kernel) rfl rfl (Nat.le_of_ble_eq_true rfl) dMO_answer_2 (fun H locs hP hD hS => ?_)
    have hP : va_P (dC, dI) vwCl [(u0, .inr (7, [.int 0, .ref u1, .ref u2, .ref u3, .ref u4, .ref u5, .ref u6, .ref u7, .ref u8, .ref u9, .ref u10])), (u3, .inl (cJ, 12, .inr (.inl an)))] H := hP
    have hD : va_D A [(u0, .inr (7, [.int 0, .ref u1, .ref u2, .ref u3, .ref u4, .ref u5, .ref u6, .ref u7, .ref u8, .ref u9, .ref u10])), (u3, .inl (cJ, 12, .inr (.inl an)))] := hD
    refine lv_iload_n hx hb dMO_answer_5 rfl (lv_at hl 1 rfl) ?_
    refine k_S (wr := [(u0, .inr (7, [.int 0, .ref u1, .ref u2, .ref u3, .ref u4, .ref u5, .ref u6, .ref u7, .ref u8, .ref u9, .ref u10])), (u3, .inl (cJ, 12, .inr (.inl an)))]) (W1 := [(u0, .inr (7, [.int 0, .ref u1, .ref u2, .ref u3, .ref u4, .ref u5, .ref u6, .ref u7, .ref u8, .ref u9, .ref u10])), (u3, .inl (cJ, 12, .inr (.inl an)))]) (st1 := [.int (f_isPart (nI k))]) ⟨hx, hb, hml, hown, hts⟩ (k_MO_isPart l dC dI cI cJ cG cZ (nI k)) (va_cwS 1 hts (k_gS m_l_MO_66 m_st_MO_isPart m_in_MO m_c_MO_isPart) rfl rfl rfl (by decide +kernel) ⟨Nat.le_of_ble_eq_true rfl, Nat.le_of_ble_eq_true rfl⟩) hK hF hP hD hS hA [] [0, 1] [0, 1] rfl rfl (by decide) (by decide) (by decide) rfl (by decide) rfl hl.1 rfl (Nat.le_of_ble_eq_true rfl) dMO_answer_6 ⟨Nat.le_of_ble_eq_true rfl, Nat.le_of_ble_eq_true rfl⟩ rfl (fun H locs hP hD hS => ?_)
    refine lv_if_ne (tgt := 14) hx hb dMO_answer_9 (by decide) (fun c_1 => ?_) (fun c_1 => ?_)
    · refine lv_aload_n hx hb dMO_answer_14 rfl (lv_at hl 0 rfl) ?_
      refine va_get (D := (dC, dI)) (ci := 7) (v := .ref u3) (C := RMO) (T := TMO) (N := 11) hx hb hts inMO hown hK hP 0 rfl rfl 3 (by decide) (hts _ m_f_MO_17) (fun _ h9 => h9) rfl dMO_answer_15 ?_
      refine lv_iload_n hx hb dMO_answer_18 rfl (lv_at hl 1 rfl) ?_
      refine lv_lload_n hx hb dMO_answer_19 rfl (lv_at hl 2 rfl) ?_
      refine k_lst (W1 := [(u0, .inr (7, [.int 0, .ref u1, .ref u2, .ref u3, .ref u4, .ref u5, .ref u6, .ref u7, .ref u8, .ref u9, .ref u10])), (u3, .inl (cJ, 12, .inr (.inl (vp_updL an k v))))]) hx hb hK hP hD hS 1 1 rfl rfl (j := k) rfl hk (by decide) rfl dMO_answer_20 (fun H locs hP hD hS => ?_)
      refine lv_iconst (v := 1) hx hb dMO_answer_21 (by decide) ?_
      exact k_zret hx hb hr hlocks rfl hP hK hD hS rfl dMO_answer_22 ⟨Nat.le_of_ble_eq_true rfl, Nat.le_of_ble_eq_true rfl⟩
    · exact absurd c_1 (by rw [f_isPart_nI hk]; decide)

abbrev rm_MO_fails : Room := { frames := 1, cells := 0, slots := 0, locals := 25 }
set_option maxHeartbeats 4000000 in
set_option maxRecDepth 100000 in
theorem k_MO_fails (l : Launch) (dC : Nat → ClassId) (dI : Nat → Nat → Nat) (cI cJ cG cZ : ClassId) (u0 : Nat) (u1 : Nat) (u2 : Nat) (u3 : Nat) (u4 : Nat) (u5 : Nat) (u6 : Nat) (u7 : Nat) (u8 : Nat) (u9 : Nat) (u10 : Nat) (th : Int32) (fl : Nat → Int32) (xfl : Nat → Int32) (x : Int32) (g : Int32) : k_M l yMO_fails wsMO_fails rm_MO_fails (dC, dI) vwCl [(cI, .int), (cJ, .long), (cG, .array .long), (cZ, .boolean)] [.ref u0, .int x, .int g] [(u0, .inr (7, [.int th, .ref u1, .ref u2, .ref u3, .ref u4, .ref u5, .ref u6, .ref u7, .ref u8, .ref u9, .ref u10])), (u4, .inl (cI, 24, .inl (f_twoI 12 fl xfl)))] (some (.int (f_fok x g))) [(u0, .inr (7, [.int 0, .ref u1, .ref u2, .ref u3, .ref u4, .ref u5, .ref u6, .ref u7, .ref u8, .ref u9, .ref u10])), (u4, .inl (cI, 24, .inl (f_twoI 12 (f_flF fl x g) (f_flF xfl x g))))] := by
  rcases (show f_isPart x = 0 ∨ (∃ k : Nat, k < 12 ∧ x = nI k ∧ (g < 0 ∨ (¬ g < 0 ∧ ¬ g ≤ 5))) ∨ (∃ k : Nat, k < 12 ∧ x = nI k ∧ ¬ g < 0 ∧ g ≤ 5) by rcases f_isPart_or x with h | ⟨k, hk, h⟩; exact Or.inl h; by_cases h1 : g < 0; exact Or.inr (Or.inl ⟨k, hk, h, Or.inl h1⟩); by_cases h2 : g ≤ 5; exact Or.inr (Or.inr ⟨k, hk, h, h1, h2⟩); exact Or.inr (Or.inl ⟨k, hk, h, Or.inr ⟨h1, h2⟩⟩)) with h0 | ⟨k, hk, rfl, h1⟩ | ⟨k, hk, rfl, h1, h2⟩
  · have e1 : f_fok x g = 0 := by unfold f_fok; rw [if_pos h0]
    rw [show f_flF fl x g = fl from if_pos e1, show f_flF xfl x g = xfl from if_pos e1, e1]
    refine k_of (cc := cMO_fails) (maxL := 3) (ret := (some .boolean)) (by decide) rfl (Nat.le_of_ble_eq_true rfl) ?_
    intro p e s m below meth c A ls hx hb hr hlocks hml hown hts hA hP hD hK hF hl hS
    have hown : s.vm.findClass RMO = some m.cls := hown
    have hl : lv_has ls 3 [(0, .ref u0), (1, .int x), (2, .int g)] := hl
    refine lv_aload_n hx hb dMO_fails_0 rfl (lv_at hl 0 rfl) ?_
    refine lv_iconst (v := 0) hx hb dMO_fails_1 (by decide) ?_
    refine va_put (D := (dC, dI)) (ci := 7) (v := .int 0) (ty := .int) (C := RMO) (T := TMO) (N := 11) hx hb hts inMO tyMO tyMO_ok nmMO hown hK hP hD hS 0 rfl rfl 0 (by decide) (hts _ m_f_MO_44) (fun _ h9 => h9) rfl (by decide +kernel) rfl rfl (Nat.le_of_ble_eq_true rfl) dMO_fails_2 (fun H locs hP hD hS => ?_)
    have hP : va_P (dC, dI) vwCl [(u0, .inr (7, [.int 0, .ref u1, .ref u2, .ref u3, .ref u4, .ref u5, .ref u6, .ref u7, .ref u8, .ref u9, .ref u10])), (u4, .inl (cI, 24, .inl (f_twoI 12 fl xfl)))] H := hP
    have hD : va_D A [(u0, .inr (7, [.int 0, .ref u1, .ref u2, .ref u3, .ref u4, .ref u5, .ref u6, .ref u7, .ref u8, .ref u9, .ref u10])), (u4, .inl (cI, 24, .inl (f_twoI 12 fl xfl)))] := hD
    refine lv_iload_n hx hb dMO_fails_5 rfl (lv_at hl 1 rfl) ?_
    refine k_S (wr := [(u0, .inr (7, [.int 0, .ref u1, .ref u2, .ref u3, .ref u4, .ref u5, .ref u6, .ref u7, .ref u8, .ref u9, .ref u10])), (u4, .inl (cI, 24, .inl (f_twoI 12 fl xfl)))]) (W1 := [(u0, .inr (7, [.int 0, .ref u1, .ref u2, .ref u3, .ref u4, .ref u5, .ref u6, .ref u7, .ref u8, .ref u9, .ref u10])), (u4, .inl (cI, 24, .inl (f_twoI 12 fl xfl)))]) (st1 := [.int (f_isPart x)]) ⟨hx, hb, hml, hown, hts⟩ (k_MO_isPart l dC dI cI cJ cG cZ x) (va_cwS 1 hts (k_gS m_l_MO_66 m_st_MO_isPart m_in_MO m_c_MO_isPart) rfl rfl rfl (by decide +kernel) ⟨Nat.le_of_ble_eq_true rfl, Nat.le_of_ble_eq_true rfl⟩) hK hF hP hD hS hA [] [0, 1] [0, 1] rfl rfl (by decide) (by decide) (by decide) rfl (by decide) rfl hl.1 rfl (Nat.le_of_ble_eq_true rfl) dMO_fails_6 ⟨Nat.le_of_ble_eq_true rfl, Nat.le_of_ble_eq_true rfl⟩ rfl (fun H locs hP hD hS => ?_)
    refine lv_if_eq (tgt := 24) hx hb dMO_fails_9 (by decide) (fun c_1 => ?_) (fun c_1 => ?_)
    · refine lv_iconst (v := 0) hx hb dMO_fails_24 (by decide) ?_
      exact k_zret hx hb hr hlocks rfl hP hK hD hS rfl dMO_fails_25 ⟨Nat.le_of_ble_eq_true rfl, Nat.le_of_ble_eq_true rfl⟩
    · exact absurd h0 c_1
  · have e1 : f_fok (nI k) g = 0 := by unfold f_fok; rw [if_neg (by rw [f_isPart_nI hk]; decide)]; rcases h1 with h1 | ⟨h1, h2⟩; rw [if_pos h1]; rw [if_neg h1, if_neg h2]
    rw [show f_flF fl (nI k) g = fl from if_pos e1, show f_flF xfl (nI k) g = xfl from if_pos e1, e1]
    refine k_of (cc := cMO_fails) (maxL := 3) (ret := (some .boolean)) (by decide) rfl (Nat.le_of_ble_eq_true rfl) ?_
    intro p e s m below meth c A ls hx hb hr hlocks hml hown hts hA hP hD hK hF hl hS
    have hown : s.vm.findClass RMO = some m.cls := hown
    have hl : lv_has ls 3 [(0, .ref u0), (1, .int (nI k)), (2, .int g)] := hl
    refine lv_aload_n hx hb dMO_fails_0 rfl (lv_at hl 0 rfl) ?_
    refine lv_iconst (v := 0) hx hb dMO_fails_1 (by decide) ?_
    refine va_put (D := (dC, dI)) (ci := 7) (v := .int 0) (ty := .int) (C := RMO) (T := TMO) (N := 11) hx hb hts inMO tyMO tyMO_ok nmMO hown hK hP hD hS 0 rfl rfl 0 (by decide) (hts _ m_f_MO_44) (fun _ h9 => h9) rfl (by decide +kernel) rfl rfl (Nat.le_of_ble_eq_true rfl) dMO_fails_2 (fun H locs hP hD hS => ?_)
    have hP : va_P (dC, dI) vwCl [(u0, .inr (7, [.int 0, .ref u1, .ref u2, .ref u3, .ref u4, .ref u5, .ref u6, .ref u7, .ref u8, .ref u9, .ref u10])), (u4, .inl (cI, 24, .inl (f_twoI 12 fl xfl)))] H := hP
    have hD : va_D A [(u0, .inr (7, [.int 0, .ref u1, .ref u2, .ref u3, .ref u4, .ref u5, .ref u6, .ref u7, .ref u8, .ref u9, .ref u10])), (u4, .inl (cI, 24, .inl (f_twoI 12 fl xfl)))] := hD
    refine lv_iload_n hx hb dMO_fails_5 rfl (lv_at hl 1 rfl) ?_
    refine k_S (wr := [(u0, .inr (7, [.int 0, .ref u1, .ref u2, .ref u3, .ref u4, .ref u5, .ref u6, .ref u7, .ref u8, .ref u9, .ref u10])), (u4, .inl (cI, 24, .inl (f_twoI 12 fl xfl)))]) (W1 := [(u0, .inr (7, [.int 0, .ref u1, .ref u2, .ref u3, .ref u4, .ref u5, .ref u6, .ref u7, .ref u8, .ref u9, .ref u10])), (u4, .inl (cI, 24, .inl (f_twoI 12 fl xfl)))]) (st1 := [.int (f_isPart (nI k))]) ⟨hx, hb, hml, hown, hts⟩ (k_MO_isPart l dC dI cI cJ cG cZ (nI k)) (va_cwS 1 hts (k_gS m_l_MO_66 m_st_MO_isPart m_in_MO m_c_MO_isPart) rfl rfl rfl (by decide +kernel) ⟨Nat.le_of_ble_eq_true rfl, Nat.le_of_ble_eq_true rfl⟩) hK hF hP hD hS hA [] [0, 1] [0, 1] rfl rfl (by decide) (by decide) (by decide) rfl (by decide) rfl hl.1 rfl (Nat.le_of_ble_eq_true rfl) dMO_fails_6 ⟨Nat.le_of_ble_eq_true rfl, Nat.le_of_ble_eq_true rfl⟩ rfl (fun H locs hP hD hS => ?_)
    refine lv_if_eq (tgt := 24) hx hb dMO_fails_9 (by decide) (fun c_1 => ?_) (fun c_1 => ?_)
    · exact absurd c_1 (by rw [f_isPart_nI hk]; decide)
    · refine lv_iload_n hx hb dMO_fails_12 rfl (lv_at hl 2 rfl) ?_
      refine lv_i2l hx hb dMO_fails_13 rfl ?_
      refine lv_lconst (v := 0) hx hb dMO_fails_14 (by decide) ?_
      refine lv_ldc2 (v := 5) hx hb hown (hts _ m_k_MO_70) dMO_fails_15 ?_
      refine k_S (wr := [(u0, .inr (7, [.int 0, .ref u1, .ref u2, .ref u3, .ref u4, .ref u5, .ref u6, .ref u7, .ref u8, .ref u9, .ref u10])), (u4, .inl (cI, 24, .inl (f_twoI 12 fl xfl)))]) (W1 := [(u0, .inr (7, [.int 0, .ref u1, .ref u2, .ref u3, .ref u4, .ref u5, .ref u6, .ref u7, .ref u8, .ref u9, .ref u10])), (u4, .inl (cI, 24, .inl (f_twoI 12 fl xfl)))]) (st1 := [.int (f_in g.toInt64 0 5)]) ⟨hx, hb, hml, hown, hts⟩ (k_MO_in l dC dI cI cJ cG cZ g.toInt64 0 5) (va_cwS 3 hts (k_gS m_l_MO_52 m_st_MO_in m_in_MO m_c_MO_in) rfl rfl rfl (by decide +kernel) ⟨Nat.le_of_ble_eq_true rfl, Nat.le_of_ble_eq_true rfl⟩) hK hF hP hD hS hA [] [0, 1] [0, 1] rfl rfl (by decide) (by decide) (by decide) rfl (by decide) rfl hl.1 rfl (Nat.le_of_ble_eq_true rfl) dMO_fails_18 ⟨Nat.le_of_ble_eq_true rfl, Nat.le_of_ble_eq_true rfl⟩ rfl (fun H locs hP hD hS => ?_)
      refine lv_if_ne (tgt := 26) hx hb dMO_fails_21 (by decide) (fun c_2 => ?_) (fun c_2 => ?_)
      · exact absurd (f_in5n (h1.imp_right And.right)) c_2
      · refine lv_iconst (v := 0) hx hb dMO_fails_24 (by decide) ?_
        exact k_zret hx hb hr hlocks rfl hP hK hD hS rfl dMO_fails_25 ⟨Nat.le_of_ble_eq_true rfl, Nat.le_of_ble_eq_true rfl⟩
  · have e1 : f_fok (nI k) g = 1 := by unfold f_fok; rw [if_neg (by rw [f_isPart_nI hk]; decide), if_neg h1, if_pos h2]
    have e2 : ¬ f_fok (nI k) g = 0 := by rw [e1]; decide
    rw [show f_twoI 12 (f_flF fl (nI k) g) (f_flF xfl (nI k) g) = upd (upd (f_twoI 12 fl xfl) k g) (12 + k) g by unfold f_flF; rw [if_neg e2, if_neg e2, nI_clamp (by omega), f_uI1, f_uI0 hk], e1]
    refine k_of (cc := cMO_fails) (maxL := 3) (ret := (some .boolean)) (by decide) rfl (Nat.le_of_ble_eq_true rfl) ?_
    intro p e s m below meth c A ls hx hb hr hlocks hml hown hts hA hP hD hK hF hl hS
    have hown : s.vm.findClass RMO = some m.cls := hown
    have hl : lv_has ls 3 [(0, .ref u0), (1, .int (nI k)), (2, .int g)] := hl
    refine lv_aload_n hx hb dMO_fails_0 rfl (lv_at hl 0 rfl) ?_
    refine lv_iconst (v := 0) hx hb dMO_fails_1 (by decide) ?_
    refine va_put (D := (dC, dI)) (ci := 7) (v := .int 0) (ty := .int) (C := RMO) (T := TMO) (N := 11) hx hb hts inMO tyMO tyMO_ok nmMO hown hK hP hD hS 0 rfl rfl 0 (by decide) (hts _ m_f_MO_44) (fun _ h9 => h9) rfl (by decide +kernel) rfl rfl (Nat.le_of_ble_eq_true rfl) dMO_fails_2 (fun H locs hP hD hS => ?_)
    have hP : va_P (dC, dI) vwCl [(u0, .inr (7, [.int 0, .ref u1, .ref u2, .ref u3, .ref u4, .ref u5, .ref u6, .ref u7, .ref u8, .ref u9, .ref u10])), (u4, .inl (cI, 24, .inl (f_twoI 12 fl xfl)))] H := hP
    have hD : va_D A [(u0, .inr (7, [.int 0, .ref u1, .ref u2, .ref u3, .ref u4, .ref u5, .ref u6, .ref u7, .ref u8, .ref u9, .ref u10])), (u4, .inl (cI, 24, .inl (f_twoI 12 fl xfl)))] := hD
    refine lv_iload_n hx hb dMO_fails_5 rfl (lv_at hl 1 rfl) ?_
    refine k_S (wr := [(u0, .inr (7, [.int 0, .ref u1, .ref u2, .ref u3, .ref u4, .ref u5, .ref u6, .ref u7, .ref u8, .ref u9, .ref u10])), (u4, .inl (cI, 24, .inl (f_twoI 12 fl xfl)))]) (W1 := [(u0, .inr (7, [.int 0, .ref u1, .ref u2, .ref u3, .ref u4, .ref u5, .ref u6, .ref u7, .ref u8, .ref u9, .ref u10])), (u4, .inl (cI, 24, .inl (f_twoI 12 fl xfl)))]) (st1 := [.int (f_isPart (nI k))]) ⟨hx, hb, hml, hown, hts⟩ (k_MO_isPart l dC dI cI cJ cG cZ (nI k)) (va_cwS 1 hts (k_gS m_l_MO_66 m_st_MO_isPart m_in_MO m_c_MO_isPart) rfl rfl rfl (by decide +kernel) ⟨Nat.le_of_ble_eq_true rfl, Nat.le_of_ble_eq_true rfl⟩) hK hF hP hD hS hA [] [0, 1] [0, 1] rfl rfl (by decide) (by decide) (by decide) rfl (by decide) rfl hl.1 rfl (Nat.le_of_ble_eq_true rfl) dMO_fails_6 ⟨Nat.le_of_ble_eq_true rfl, Nat.le_of_ble_eq_true rfl⟩ rfl (fun H locs hP hD hS => ?_)
    refine lv_if_eq (tgt := 24) hx hb dMO_fails_9 (by decide) (fun c_1 => ?_) (fun c_1 => ?_)
    · exact absurd c_1 (by rw [f_isPart_nI hk]; decide)
    · refine lv_iload_n hx hb dMO_fails_12 rfl (lv_at hl 2 rfl) ?_
      refine lv_i2l hx hb dMO_fails_13 rfl ?_
      refine lv_lconst (v := 0) hx hb dMO_fails_14 (by decide) ?_
      refine lv_ldc2 (v := 5) hx hb hown (hts _ m_k_MO_70) dMO_fails_15 ?_
      refine k_S (wr := [(u0, .inr (7, [.int 0, .ref u1, .ref u2, .ref u3, .ref u4, .ref u5, .ref u6, .ref u7, .ref u8, .ref u9, .ref u10])), (u4, .inl (cI, 24, .inl (f_twoI 12 fl xfl)))]) (W1 := [(u0, .inr (7, [.int 0, .ref u1, .ref u2, .ref u3, .ref u4, .ref u5, .ref u6, .ref u7, .ref u8, .ref u9, .ref u10])), (u4, .inl (cI, 24, .inl (f_twoI 12 fl xfl)))]) (st1 := [.int (f_in g.toInt64 0 5)]) ⟨hx, hb, hml, hown, hts⟩ (k_MO_in l dC dI cI cJ cG cZ g.toInt64 0 5) (va_cwS 3 hts (k_gS m_l_MO_52 m_st_MO_in m_in_MO m_c_MO_in) rfl rfl rfl (by decide +kernel) ⟨Nat.le_of_ble_eq_true rfl, Nat.le_of_ble_eq_true rfl⟩) hK hF hP hD hS hA [] [0, 1] [0, 1] rfl rfl (by decide) (by decide) (by decide) rfl (by decide) rfl hl.1 rfl (Nat.le_of_ble_eq_true rfl) dMO_fails_18 ⟨Nat.le_of_ble_eq_true rfl, Nat.le_of_ble_eq_true rfl⟩ rfl (fun H locs hP hD hS => ?_)
      refine lv_if_ne (tgt := 26) hx hb dMO_fails_21 (by decide) (fun c_2 => ?_) (fun c_2 => ?_)
      · refine lv_aload_n hx hb dMO_fails_26 rfl (lv_at hl 0 rfl) ?_
        refine va_get (D := (dC, dI)) (ci := 7) (v := .ref u4) (C := RMO) (T := TMO) (N := 11) hx hb hts inMO hown hK hP 0 rfl rfl 4 (by decide) (hts _ m_f_MO_21) (fun _ h9 => h9) rfl dMO_fails_27 ?_
        refine lv_iload_n hx hb dMO_fails_30 rfl (lv_at hl 1 rfl) ?_
        refine lv_iload_n hx hb dMO_fails_31 rfl (lv_at hl 2 rfl) ?_
        refine k_ist (W1 := [(u0, .inr (7, [.int 0, .ref u1, .ref u2, .ref u3, .ref u4, .ref u5, .ref u6, .ref u7, .ref u8, .ref u9, .ref u10])), (u4, .inl (cI, 24, .inl (upd (f_twoI 12 fl xfl) k g)))]) hx hb hK hP hD hS 1 0 rfl rfl (j := k) rfl (by omega) (by decide) rfl dMO_fails_32 (fun H locs hP hD hS => ?_)
        refine lv_aload_n hx hb dMO_fails_33 rfl (lv_at hl 0 rfl) ?_
        refine va_get (D := (dC, dI)) (ci := 7) (v := .ref u4) (C := RMO) (T := TMO) (N := 11) hx hb hts inMO hown hK hP 0 rfl rfl 4 (by decide) (hts _ m_f_MO_21) (fun _ h9 => h9) rfl dMO_fails_34 ?_
        refine lv_bipush (v := 12) hx hb dMO_fails_37 (by decide) ?_
        refine lv_iload_n hx hb dMO_fails_39 rfl (lv_at hl 1 rfl) ?_
        refine lv_iadd hx hb dMO_fails_40 ?_
        refine lv_iload_n hx hb dMO_fails_41 rfl (lv_at hl 2 rfl) ?_
        refine k_ist (W1 := [(u0, .inr (7, [.int 0, .ref u1, .ref u2, .ref u3, .ref u4, .ref u5, .ref u6, .ref u7, .ref u8, .ref u9, .ref u10])), (u4, .inl (cI, 24, .inl (upd (upd (f_twoI 12 fl xfl) k g) (12 + k) g)))]) hx hb hK hP hD hS 1 0 rfl rfl (j := (12 + k)) (nI_add 12 k) (by omega) (by decide) rfl dMO_fails_42 (fun H locs hP hD hS => ?_)
        refine lv_iconst (v := 1) hx hb dMO_fails_43 (by decide) ?_
        exact k_zret hx hb hr hlocks rfl hP hK hD hS rfl dMO_fails_44 ⟨Nat.le_of_ble_eq_true rfl, Nat.le_of_ble_eq_true rfl⟩
      · exact absurd c_2 (by rw [f_in5y h1 h2]; decide)

abbrev rm_MO_make : Room := { frames := 1, cells := 0, slots := 0, locals := 21 }
set_option maxHeartbeats 4000000 in
set_option maxRecDepth 100000 in
theorem k_MO_make (l : Launch) (dC : Nat → ClassId) (dI : Nat → Nat → Nat) (cI cJ cG cZ : ClassId) (u0 : Nat) (u1 : Nat) (u2 : Nat) (u3 : Nat) (u4 : Nat) (u5 : Nat) (u6 : Nat) (u7 : Nat) (u8 : Nat) (u9 : Nat) (u10 : Nat) (th : Int32) (md : Nat → Int32) (mn : Nat → Nat) (x : Int32) (hmn : ∀ k : Nat, k < 8 → md k = nI (mn k) ∧ mn k ≤ 40) : k_M l yMO_make wsMO_make rm_MO_make (dC, dI) vwCl [(cI, .int), (cJ, .long), (cG, .array .long), (cZ, .boolean)] [.ref u0, .int x] [(u0, .inr (7, [.int th, .ref u1, .ref u2, .ref u3, .ref u4, .ref u5, .ref u6, .ref u7, .ref u8, .ref u9, .ref u10])), (u1, .inl (cI, 8, .inl md))] (some (.int (f_mkV md x))) [(u0, .inr (7, [.int (f_mk md x), .ref u1, .ref u2, .ref u3, .ref u4, .ref u5, .ref u6, .ref u7, .ref u8, .ref u9, .ref u10])), (u1, .inl (cI, 8, .inl (f_mkM md x)))] := by
  rcases f_mks md x with h0 | ⟨k, hk, rfl, h1⟩ | ⟨k, hk, rfl, h1⟩
  · have e1 : f_mk md x = 1 := if_pos h0
    have e2 : ¬ f_mk md x = 0 := by rw [e1]; decide
    rw [show f_mkM md x = md from if_neg e2, show f_mkV md x = 0 from if_neg e2, e1]
    refine k_of (cc := cMO_make) (maxL := 2) (ret := (some .int)) (by decide) rfl (Nat.le_of_ble_eq_true rfl) ?_
    intro p e s m below meth c A ls hx hb hr hlocks hml hown hts hA hP hD hK hF hl hS
    have hown : s.vm.findClass RMO = some m.cls := hown
    have hl : lv_has ls 2 [(0, .ref u0), (1, .int x)] := hl
    refine lv_iload_n hx hb dMO_make_0 rfl (lv_at hl 1 rfl) ?_
    refine k_S (wr := [(u0, .inr (7, [.int th, .ref u1, .ref u2, .ref u3, .ref u4, .ref u5, .ref u6, .ref u7, .ref u8, .ref u9, .ref u10])), (u1, .inl (cI, 8, .inl md))]) (W1 := [(u0, .inr (7, [.int th, .ref u1, .ref u2, .ref u3, .ref u4, .ref u5, .ref u6, .ref u7, .ref u8, .ref u9, .ref u10])), (u1, .inl (cI, 8, .inl md))]) (st1 := [.int (f_isKind x)]) ⟨hx, hb, hml, hown, hts⟩ (k_MO_isKind l dC dI cI cJ cG cZ x) (va_cwS 1 hts (k_gS m_l_MO_72 m_st_MO_isKind m_in_MO m_c_MO_isKind) rfl rfl rfl (by decide +kernel) ⟨Nat.le_of_ble_eq_true rfl, Nat.le_of_ble_eq_true rfl⟩) hK hF hP hD hS hA [] [0, 1] [0, 1] rfl rfl (by decide) (by decide) (by decide) rfl (by decide) rfl hl.1 rfl (Nat.le_of_ble_eq_true rfl) dMO_make_1 ⟨Nat.le_of_ble_eq_true rfl, Nat.le_of_ble_eq_true rfl⟩ rfl (fun H locs hP hD hS => ?_)
    refine lv_if_ne (tgt := 13) hx hb dMO_make_4 (by decide) (fun c_1 => ?_) (fun c_1 => ?_)
    · exact absurd h0 c_1
    · refine lv_aload_n hx hb dMO_make_7 rfl (lv_at hl 0 rfl) ?_
      refine lv_iconst (v := 1) hx hb dMO_make_8 (by decide) ?_
      refine k_V (wr := [(u1, .inl (cI, 8, .inl md))]) (W1 := [(u0, .inr (7, [.int 1, .ref u1, .ref u2, .ref u3, .ref u4, .ref u5, .ref u6, .ref u7, .ref u8, .ref u9, .ref u10])), (u1, .inl (cI, 8, .inl md))]) (st1 := [.int 0]) ⟨hx, hb, hml, hown, hts⟩ (k_MO_refuse l dC dI cI cJ cG cZ u0 u1 u2 u3 u4 u5 u6 u7 u8 u9 u10 th 1) (cwV 1 hts (k_gV m_l_MO_75 m_i_MO_refuse m_s_MO_refuse m_in_MO m_c_MO_refuse) rfl rfl rfl (by decide +kernel) ⟨Nat.le_of_ble_eq_true rfl, Nat.le_of_ble_eq_true rfl⟩) hK hF hP hD hS hA [0] [1] [1, 0] rfl rfl (by decide) (by decide) (by decide) rfl (by decide) rfl rfl rfl rfl hl.1 rfl (Nat.le_of_ble_eq_true rfl) dMO_make_9 ⟨Nat.le_of_ble_eq_true rfl, Nat.le_of_ble_eq_true rfl⟩ rfl (fun H locs hP hD hS => ?_)
      exact k_iret hx hb hr hlocks hP hK hD hS rfl dMO_make_12 ⟨Nat.le_of_ble_eq_true rfl, Nat.le_of_ble_eq_true rfl⟩
  · have e1 : f_mk md (nI k) = 0 := f_mk0 hk h1
    rw [show f_mkM md (nI k) = upd md k (md k + 1) by unfold f_mkM; rw [if_pos e1, nI_clamp (by omega)], show f_mkV md (nI k) = md k + 1 by unfold f_mkV; rw [if_pos e1, nI_clamp (by omega)], e1]
    refine k_of (cc := cMO_make) (maxL := 2) (ret := (some .int)) (by decide) rfl (Nat.le_of_ble_eq_true rfl) ?_
    intro p e s m below meth c A ls hx hb hr hlocks hml hown hts hA hP hD hK hF hl hS
    have hown : s.vm.findClass RMO = some m.cls := hown
    have hl : lv_has ls 2 [(0, .ref u0), (1, .int (nI k))] := hl
    refine lv_iload_n hx hb dMO_make_0 rfl (lv_at hl 1 rfl) ?_
    refine k_S (wr := [(u0, .inr (7, [.int th, .ref u1, .ref u2, .ref u3, .ref u4, .ref u5, .ref u6, .ref u7, .ref u8, .ref u9, .ref u10])), (u1, .inl (cI, 8, .inl md))]) (W1 := [(u0, .inr (7, [.int th, .ref u1, .ref u2, .ref u3, .ref u4, .ref u5, .ref u6, .ref u7, .ref u8, .ref u9, .ref u10])), (u1, .inl (cI, 8, .inl md))]) (st1 := [.int (f_isKind (nI k))]) ⟨hx, hb, hml, hown, hts⟩ (k_MO_isKind l dC dI cI cJ cG cZ (nI k)) (va_cwS 1 hts (k_gS m_l_MO_72 m_st_MO_isKind m_in_MO m_c_MO_isKind) rfl rfl rfl (by decide +kernel) ⟨Nat.le_of_ble_eq_true rfl, Nat.le_of_ble_eq_true rfl⟩) hK hF hP hD hS hA [] [0, 1] [0, 1] rfl rfl (by decide) (by decide) (by decide) rfl (by decide) rfl hl.1 rfl (Nat.le_of_ble_eq_true rfl) dMO_make_1 ⟨Nat.le_of_ble_eq_true rfl, Nat.le_of_ble_eq_true rfl⟩ rfl (fun H locs hP hD hS => ?_)
    refine lv_if_ne (tgt := 13) hx hb dMO_make_4 (by decide) (fun c_1 => ?_) (fun c_1 => ?_)
    · refine lv_aload_n hx hb dMO_make_13 rfl (lv_at hl 0 rfl) ?_
      refine va_get (D := (dC, dI)) (ci := 7) (v := .ref u1) (C := RMO) (T := TMO) (N := 11) hx hb hts inMO hown hK hP 0 rfl rfl 1 (by decide) (hts _ m_f_MO_7) (fun _ h9 => h9) rfl dMO_make_14 ?_
      refine lv_iload_n hx hb dMO_make_17 rfl (lv_at hl 1 rfl) ?_
      refine k_ild (v := md k) hx hb hK hP 1 0 rfl rfl (j := k) rfl hk (by decide) rfl dMO_make_18 ?_
      refine lv_bipush (v := 40) hx hb dMO_make_19 (by decide) ?_
      refine lv_icmp_ne (tgt := 30) hx hb dMO_make_21 (by decide) (fun c_2 => ?_) (fun c_2 => ?_)
      · refine lv_aload_n hx hb dMO_make_30 rfl (lv_at hl 0 rfl) ?_
        refine lv_iconst (v := 0) hx hb dMO_make_31 (by decide) ?_
        refine va_put (D := (dC, dI)) (ci := 7) (v := .int 0) (ty := .int) (C := RMO) (T := TMO) (N := 11) hx hb hts inMO tyMO tyMO_ok nmMO hown hK hP hD hS 0 rfl rfl 0 (by decide) (hts _ m_f_MO_44) (fun _ h9 => h9) rfl (by decide +kernel) rfl rfl (Nat.le_of_ble_eq_true rfl) dMO_make_32 (fun H locs hP hD hS => ?_)
        have hP : va_P (dC, dI) vwCl [(u0, .inr (7, [.int 0, .ref u1, .ref u2, .ref u3, .ref u4, .ref u5, .ref u6, .ref u7, .ref u8, .ref u9, .ref u10])), (u1, .inl (cI, 8, .inl md))] H := hP
        have hD : va_D A [(u0, .inr (7, [.int 0, .ref u1, .ref u2, .ref u3, .ref u4, .ref u5, .ref u6, .ref u7, .ref u8, .ref u9, .ref u10])), (u1, .inl (cI, 8, .inl md))] := hD
        refine lv_aload_n hx hb dMO_make_35 rfl (lv_at hl 0 rfl) ?_
        refine va_get (D := (dC, dI)) (ci := 7) (v := .ref u1) (C := RMO) (T := TMO) (N := 11) hx hb hts inMO hown hK hP 0 rfl rfl 1 (by decide) (hts _ m_f_MO_7) (fun _ h9 => h9) rfl dMO_make_36 ?_
        refine lv_iload_n hx hb dMO_make_39 rfl (lv_at hl 1 rfl) ?_
        refine lv_dup2_11 hx hb dMO_make_40 rfl rfl ?_
        refine k_ild (v := md k) hx hb hK hP 1 0 rfl rfl (j := k) rfl hk (by decide) rfl dMO_make_41 ?_
        refine lv_iconst (v := 1) hx hb dMO_make_42 (by decide) ?_
        refine lv_iadd hx hb dMO_make_43 ?_
        refine k_ist (W1 := [(u0, .inr (7, [.int 0, .ref u1, .ref u2, .ref u3, .ref u4, .ref u5, .ref u6, .ref u7, .ref u8, .ref u9, .ref u10])), (u1, .inl (cI, 8, .inl (upd md k ((md k) + 1))))]) hx hb hK hP hD hS 1 0 rfl rfl (j := k) rfl hk (by decide) rfl dMO_make_44 (fun H locs hP hD hS => ?_)
        refine lv_aload_n hx hb dMO_make_45 rfl (lv_at hl 0 rfl) ?_
        refine va_get (D := (dC, dI)) (ci := 7) (v := .ref u1) (C := RMO) (T := TMO) (N := 11) hx hb hts inMO hown hK hP 0 rfl rfl 1 (by decide) (hts _ m_f_MO_7) (fun _ h9 => h9) rfl dMO_make_46 ?_
        refine lv_iload_n hx hb dMO_make_49 rfl (lv_at hl 1 rfl) ?_
        refine k_ild (v := ((md k) + 1)) hx hb hK hP 1 0 rfl rfl (j := k) rfl hk (by decide) pk_us dMO_make_50 ?_
        exact k_iret hx hb hr hlocks hP hK hD hS rfl dMO_make_51 ⟨Nat.le_of_ble_eq_true rfl, Nat.le_of_ble_eq_true rfl⟩
      · exact absurd ((f_40 (hmn k hk).1 (hmn k hk).2).mpr c_2) (fun h9 => h9 h1)
    · exact absurd c_1 (by rw [f_isKind_nI hk]; decide)
  · have e1 : f_mk md (nI k) = 2 := f_mk2 hk h1
    have e2 : ¬ f_mk md (nI k) = 0 := by rw [e1]; decide
    rw [show f_mkM md (nI k) = md from if_neg e2, show f_mkV md (nI k) = 0 from if_neg e2, e1]
    refine k_of (cc := cMO_make) (maxL := 2) (ret := (some .int)) (by decide) rfl (Nat.le_of_ble_eq_true rfl) ?_
    intro p e s m below meth c A ls hx hb hr hlocks hml hown hts hA hP hD hK hF hl hS
    have hown : s.vm.findClass RMO = some m.cls := hown
    have hl : lv_has ls 2 [(0, .ref u0), (1, .int (nI k))] := hl
    refine lv_iload_n hx hb dMO_make_0 rfl (lv_at hl 1 rfl) ?_
    refine k_S (wr := [(u0, .inr (7, [.int th, .ref u1, .ref u2, .ref u3, .ref u4, .ref u5, .ref u6, .ref u7, .ref u8, .ref u9, .ref u10])), (u1, .inl (cI, 8, .inl md))]) (W1 := [(u0, .inr (7, [.int th, .ref u1, .ref u2, .ref u3, .ref u4, .ref u5, .ref u6, .ref u7, .ref u8, .ref u9, .ref u10])), (u1, .inl (cI, 8, .inl md))]) (st1 := [.int (f_isKind (nI k))]) ⟨hx, hb, hml, hown, hts⟩ (k_MO_isKind l dC dI cI cJ cG cZ (nI k)) (va_cwS 1 hts (k_gS m_l_MO_72 m_st_MO_isKind m_in_MO m_c_MO_isKind) rfl rfl rfl (by decide +kernel) ⟨Nat.le_of_ble_eq_true rfl, Nat.le_of_ble_eq_true rfl⟩) hK hF hP hD hS hA [] [0, 1] [0, 1] rfl rfl (by decide) (by decide) (by decide) rfl (by decide) rfl hl.1 rfl (Nat.le_of_ble_eq_true rfl) dMO_make_1 ⟨Nat.le_of_ble_eq_true rfl, Nat.le_of_ble_eq_true rfl⟩ rfl (fun H locs hP hD hS => ?_)
    refine lv_if_ne (tgt := 13) hx hb dMO_make_4 (by decide) (fun c_1 => ?_) (fun c_1 => ?_)
    · refine lv_aload_n hx hb dMO_make_13 rfl (lv_at hl 0 rfl) ?_
      refine va_get (D := (dC, dI)) (ci := 7) (v := .ref u1) (C := RMO) (T := TMO) (N := 11) hx hb hts inMO hown hK hP 0 rfl rfl 1 (by decide) (hts _ m_f_MO_7) (fun _ h9 => h9) rfl dMO_make_14 ?_
      refine lv_iload_n hx hb dMO_make_17 rfl (lv_at hl 1 rfl) ?_
      refine k_ild (v := md k) hx hb hK hP 1 0 rfl rfl (j := k) rfl hk (by decide) rfl dMO_make_18 ?_
      refine lv_bipush (v := 40) hx hb dMO_make_19 (by decide) ?_
      refine lv_icmp_ne (tgt := 30) hx hb dMO_make_21 (by decide) (fun c_2 => ?_) (fun c_2 => ?_)
      · exact absurd ((f_40 (hmn k hk).1 (hmn k hk).2).mp h1) c_2
      · refine lv_aload_n hx hb dMO_make_24 rfl (lv_at hl 0 rfl) ?_
        refine lv_iconst (v := 2) hx hb dMO_make_25 (by decide) ?_
        refine k_V (wr := [(u1, .inl (cI, 8, .inl md))]) (W1 := [(u0, .inr (7, [.int 2, .ref u1, .ref u2, .ref u3, .ref u4, .ref u5, .ref u6, .ref u7, .ref u8, .ref u9, .ref u10])), (u1, .inl (cI, 8, .inl md))]) (st1 := [.int 0]) ⟨hx, hb, hml, hown, hts⟩ (k_MO_refuse l dC dI cI cJ cG cZ u0 u1 u2 u3 u4 u5 u6 u7 u8 u9 u10 th 2) (cwV 1 hts (k_gV m_l_MO_75 m_i_MO_refuse m_s_MO_refuse m_in_MO m_c_MO_refuse) rfl rfl rfl (by decide +kernel) ⟨Nat.le_of_ble_eq_true rfl, Nat.le_of_ble_eq_true rfl⟩) hK hF hP hD hS hA [0] [1] [1, 0] rfl rfl (by decide) (by decide) (by decide) rfl (by decide) rfl rfl rfl rfl hl.1 rfl (Nat.le_of_ble_eq_true rfl) dMO_make_26 ⟨Nat.le_of_ble_eq_true rfl, Nat.le_of_ble_eq_true rfl⟩ rfl (fun H locs hP hD hS => ?_)
        exact k_iret hx hb hr hlocks hP hK hD hS rfl dMO_make_29 ⟨Nat.le_of_ble_eq_true rfl, Nat.le_of_ble_eq_true rfl⟩
    · exact absurd c_1 (by rw [f_isKind_nI hk]; decide)

abbrev rm_MO_drop : Room := { frames := 1, cells := 0, slots := 0, locals := 22 }
set_option maxHeartbeats 4000000 in
set_option maxRecDepth 100000 in
theorem k_MO_drop (l : Launch) (dC : Nat → ClassId) (dI : Nat → Nat → Nat) (cI cJ cG cZ : ClassId) (u0 : Nat) (u1 : Nat) (u2 : Nat) (u3 : Nat) (u4 : Nat) (u5 : Nat) (u6 : Nat) (u7 : Nat) (u8 : Nat) (u9 : Nat) (u10 : Nat) (th : Int32) (md : Nat → Int32) (dr : Nat → Int32) (kn : Nat → Int64) (mn : Nat → Nat) (x : Int32) (n : Int32) (hmn : ∀ k : Nat, k < 8 → md k = nI (mn k) ∧ mn k ≤ 40) (hkd : ∀ k : Nat, k < 8 → ∀ j : Nat, j < mn k → (dr (40 * k + j) = 0 ↔ f_kb (kn k) j = true)) : k_M l yMO_drop wsMO_drop rm_MO_drop (dC, dI) vwCl [(cI, .int), (cJ, .long), (cG, .array .long), (cZ, .boolean)] [.ref u0, .int x, .int n] [(u0, .inr (7, [.int th, .ref u1, .ref u2, .ref u3, .ref u4, .ref u5, .ref u6, .ref u7, .ref u8, .ref u9, .ref u10])), (u1, .inl (cI, 8, .inl md)), (u2, .inl (cZ, 320, .inl dr))] (some (.int (f_dr md kn x n))) [(u0, .inr (7, [.int 0, .ref u1, .ref u2, .ref u3, .ref u4, .ref u5, .ref u6, .ref u7, .ref u8, .ref u9, .ref u10])), (u1, .inl (cI, 8, .inl md)), (u2, .inl (cZ, 320, .inl (f_drD md kn dr x n)))] := by
  rcases (show f_isKind x = 0 ∨ (∃ k : Nat, k < 8 ∧ x = nI k ∧ f_isKnown md kn k n = 0) ∨ (∃ k : Nat, k < 8 ∧ x = nI k ∧ ¬ f_isKnown md kn k n = 0) by rcases f_isKind_or x with h | ⟨k, hk, h⟩; exact Or.inl h; by_cases h1 : f_isKnown md kn k n = 0; exact Or.inr (Or.inl ⟨k, hk, h, h1⟩); exact Or.inr (Or.inr ⟨k, hk, h, h1⟩)) with h0 | ⟨k, hk, rfl, h1⟩ | ⟨k, hk, rfl, h1⟩
  · have e1 : f_dr md kn x n = 0 := if_pos h0
    rw [show f_drD md kn dr x n = dr from if_pos e1, e1]
    refine k_of (cc := cMO_drop) (maxL := 3) (ret := (some .boolean)) (by decide) rfl (Nat.le_of_ble_eq_true rfl) ?_
    intro p e s m below meth c A ls hx hb hr hlocks hml hown hts hA hP hD hK hF hl hS
    have hown : s.vm.findClass RMO = some m.cls := hown
    have hl : lv_has ls 3 [(0, .ref u0), (1, .int x), (2, .int n)] := hl
    refine lv_aload_n hx hb dMO_drop_0 rfl (lv_at hl 0 rfl) ?_
    refine lv_iconst (v := 0) hx hb dMO_drop_1 (by decide) ?_
    refine va_put (D := (dC, dI)) (ci := 7) (v := .int 0) (ty := .int) (C := RMO) (T := TMO) (N := 11) hx hb hts inMO tyMO tyMO_ok nmMO hown hK hP hD hS 0 rfl rfl 0 (by decide) (hts _ m_f_MO_44) (fun _ h9 => h9) rfl (by decide +kernel) rfl rfl (Nat.le_of_ble_eq_true rfl) dMO_drop_2 (fun H locs hP hD hS => ?_)
    have hP : va_P (dC, dI) vwCl [(u0, .inr (7, [.int 0, .ref u1, .ref u2, .ref u3, .ref u4, .ref u5, .ref u6, .ref u7, .ref u8, .ref u9, .ref u10])), (u1, .inl (cI, 8, .inl md)), (u2, .inl (cZ, 320, .inl dr))] H := hP
    have hD : va_D A [(u0, .inr (7, [.int 0, .ref u1, .ref u2, .ref u3, .ref u4, .ref u5, .ref u6, .ref u7, .ref u8, .ref u9, .ref u10])), (u1, .inl (cI, 8, .inl md)), (u2, .inl (cZ, 320, .inl dr))] := hD
    refine lv_iload_n hx hb dMO_drop_5 rfl (lv_at hl 1 rfl) ?_
    refine k_S (wr := [(u0, .inr (7, [.int 0, .ref u1, .ref u2, .ref u3, .ref u4, .ref u5, .ref u6, .ref u7, .ref u8, .ref u9, .ref u10])), (u1, .inl (cI, 8, .inl md)), (u2, .inl (cZ, 320, .inl dr))]) (W1 := [(u0, .inr (7, [.int 0, .ref u1, .ref u2, .ref u3, .ref u4, .ref u5, .ref u6, .ref u7, .ref u8, .ref u9, .ref u10])), (u1, .inl (cI, 8, .inl md)), (u2, .inl (cZ, 320, .inl dr))]) (st1 := [.int (f_isKind x)]) ⟨hx, hb, hml, hown, hts⟩ (k_MO_isKind l dC dI cI cJ cG cZ x) (va_cwS 1 hts (k_gS m_l_MO_72 m_st_MO_isKind m_in_MO m_c_MO_isKind) rfl rfl rfl (by decide +kernel) ⟨Nat.le_of_ble_eq_true rfl, Nat.le_of_ble_eq_true rfl⟩) hK hF hP hD hS hA [] [0, 1, 2] [0, 1, 2] rfl rfl (by decide) (by decide) (by decide) rfl (by decide) rfl hl.1 rfl (Nat.le_of_ble_eq_true rfl) dMO_drop_6 ⟨Nat.le_of_ble_eq_true rfl, Nat.le_of_ble_eq_true rfl⟩ rfl (fun H locs hP hD hS => ?_)
    refine lv_if_eq (tgt := 21) hx hb dMO_drop_9 (by decide) (fun c_1 => ?_) (fun c_1 => ?_)
    · refine lv_iconst (v := 0) hx hb dMO_drop_21 (by decide) ?_
      exact k_zret hx hb hr hlocks rfl hP hK hD hS rfl dMO_drop_22 ⟨Nat.le_of_ble_eq_true rfl, Nat.le_of_ble_eq_true rfl⟩
    · exact absurd h0 c_1
  · have e1 : f_dr md kn (nI k) n = 0 := by unfold f_dr; rw [if_neg (by rw [f_isKind_nI hk]; decide), nI_clamp (by omega), h1]
    rw [show f_drD md kn dr (nI k) n = dr from if_pos e1, e1]
    refine k_of (cc := cMO_drop) (maxL := 3) (ret := (some .boolean)) (by decide) rfl (Nat.le_of_ble_eq_true rfl) ?_
    intro p e s m below meth c A ls hx hb hr hlocks hml hown hts hA hP hD hK hF hl hS
    have hown : s.vm.findClass RMO = some m.cls := hown
    have hl : lv_has ls 3 [(0, .ref u0), (1, .int (nI k)), (2, .int n)] := hl
    refine lv_aload_n hx hb dMO_drop_0 rfl (lv_at hl 0 rfl) ?_
    refine lv_iconst (v := 0) hx hb dMO_drop_1 (by decide) ?_
    refine va_put (D := (dC, dI)) (ci := 7) (v := .int 0) (ty := .int) (C := RMO) (T := TMO) (N := 11) hx hb hts inMO tyMO tyMO_ok nmMO hown hK hP hD hS 0 rfl rfl 0 (by decide) (hts _ m_f_MO_44) (fun _ h9 => h9) rfl (by decide +kernel) rfl rfl (Nat.le_of_ble_eq_true rfl) dMO_drop_2 (fun H locs hP hD hS => ?_)
    have hP : va_P (dC, dI) vwCl [(u0, .inr (7, [.int 0, .ref u1, .ref u2, .ref u3, .ref u4, .ref u5, .ref u6, .ref u7, .ref u8, .ref u9, .ref u10])), (u1, .inl (cI, 8, .inl md)), (u2, .inl (cZ, 320, .inl dr))] H := hP
    have hD : va_D A [(u0, .inr (7, [.int 0, .ref u1, .ref u2, .ref u3, .ref u4, .ref u5, .ref u6, .ref u7, .ref u8, .ref u9, .ref u10])), (u1, .inl (cI, 8, .inl md)), (u2, .inl (cZ, 320, .inl dr))] := hD
    refine lv_iload_n hx hb dMO_drop_5 rfl (lv_at hl 1 rfl) ?_
    refine k_S (wr := [(u0, .inr (7, [.int 0, .ref u1, .ref u2, .ref u3, .ref u4, .ref u5, .ref u6, .ref u7, .ref u8, .ref u9, .ref u10])), (u1, .inl (cI, 8, .inl md)), (u2, .inl (cZ, 320, .inl dr))]) (W1 := [(u0, .inr (7, [.int 0, .ref u1, .ref u2, .ref u3, .ref u4, .ref u5, .ref u6, .ref u7, .ref u8, .ref u9, .ref u10])), (u1, .inl (cI, 8, .inl md)), (u2, .inl (cZ, 320, .inl dr))]) (st1 := [.int (f_isKind (nI k))]) ⟨hx, hb, hml, hown, hts⟩ (k_MO_isKind l dC dI cI cJ cG cZ (nI k)) (va_cwS 1 hts (k_gS m_l_MO_72 m_st_MO_isKind m_in_MO m_c_MO_isKind) rfl rfl rfl (by decide +kernel) ⟨Nat.le_of_ble_eq_true rfl, Nat.le_of_ble_eq_true rfl⟩) hK hF hP hD hS hA [] [0, 1, 2] [0, 1, 2] rfl rfl (by decide) (by decide) (by decide) rfl (by decide) rfl hl.1 rfl (Nat.le_of_ble_eq_true rfl) dMO_drop_6 ⟨Nat.le_of_ble_eq_true rfl, Nat.le_of_ble_eq_true rfl⟩ rfl (fun H locs hP hD hS => ?_)
    refine lv_if_eq (tgt := 21) hx hb dMO_drop_9 (by decide) (fun c_1 => ?_) (fun c_1 => ?_)
    · exact absurd c_1 (by rw [f_isKind_nI hk]; decide)
    · refine lv_aload_n hx hb dMO_drop_12 rfl (lv_at hl 0 rfl) ?_
      refine lv_iload_n hx hb dMO_drop_13 rfl (lv_at hl 1 rfl) ?_
      refine lv_iload_n hx hb dMO_drop_14 rfl (lv_at hl 2 rfl) ?_
      refine k_V (wr := []) (W1 := [(u0, .inr (7, [.int 0, .ref u1, .ref u2, .ref u3, .ref u4, .ref u5, .ref u6, .ref u7, .ref u8, .ref u9, .ref u10])), (u1, .inl (cI, 8, .inl md)), (u2, .inl (cZ, 320, .inl dr))]) (st1 := [.int (f_isKnown md kn k n)]) ⟨hx, hb, hml, hown, hts⟩ (k_MO_isKnown l dC dI cI cJ cG cZ u0 u1 u2 u3 u4 u5 u6 u7 u8 u9 u10 0 md dr kn mn k n hmn hkd hk) (cwV 2 hts (k_gV m_l_MO_79 m_i_MO_isKnown m_s_MO_isKnown m_in_MO m_c_MO_isKnown) rfl rfl rfl (by decide +kernel) ⟨Nat.le_of_ble_eq_true rfl, Nat.le_of_ble_eq_true rfl⟩) hK hF hP hD hS hA [0, 1, 2] [] [0, 1, 2] rfl rfl (by decide) (by decide) (by decide) rfl (by decide) rfl rfl rfl rfl hl.1 rfl (Nat.le_of_ble_eq_true rfl) dMO_drop_15 ⟨Nat.le_of_ble_eq_true rfl, Nat.le_of_ble_eq_true rfl⟩ rfl (fun H locs hP hD hS => ?_)
      refine lv_if_ne (tgt := 23) hx hb dMO_drop_18 (by decide) (fun c_2 => ?_) (fun c_2 => ?_)
      · exact absurd h1 c_2
      · refine lv_iconst (v := 0) hx hb dMO_drop_21 (by decide) ?_
        exact k_zret hx hb hr hlocks rfl hP hK hD hS rfl dMO_drop_22 ⟨Nat.le_of_ble_eq_true rfl, Nat.le_of_ble_eq_true rfl⟩
  · obtain ⟨j, hj, rfl⟩ := f_known_j (hmn k hk).1 (hmn k hk).2 h1
    have b1 := (hmn k hk).2
    have e1 : f_dr md kn (nI k) (nI (j + 1)) = 1 := by unfold f_dr; rw [if_neg (by rw [f_isKind_nI hk]; decide), nI_clamp (by omega)]; exact f_known1 h1
    have e2 : ¬ f_dr md kn (nI k) (nI (j + 1)) = 0 := by rw [e1]; decide
    rw [show f_drD md kn dr (nI k) (nI (j + 1)) = upd dr (40 * k + j) 1 by unfold f_drD; rw [if_neg e2, nI_clamp (n := k) (by omega), nI_clamp (n := j + 1) (by omega)]; rfl, e1]
    refine k_of (cc := cMO_drop) (maxL := 3) (ret := (some .boolean)) (by decide) rfl (Nat.le_of_ble_eq_true rfl) ?_
    intro p e s m below meth c A ls hx hb hr hlocks hml hown hts hA hP hD hK hF hl hS
    have hown : s.vm.findClass RMO = some m.cls := hown
    have hl : lv_has ls 3 [(0, .ref u0), (1, .int (nI k)), (2, .int (nI (j + 1)))] := hl
    refine lv_aload_n hx hb dMO_drop_0 rfl (lv_at hl 0 rfl) ?_
    refine lv_iconst (v := 0) hx hb dMO_drop_1 (by decide) ?_
    refine va_put (D := (dC, dI)) (ci := 7) (v := .int 0) (ty := .int) (C := RMO) (T := TMO) (N := 11) hx hb hts inMO tyMO tyMO_ok nmMO hown hK hP hD hS 0 rfl rfl 0 (by decide) (hts _ m_f_MO_44) (fun _ h9 => h9) rfl (by decide +kernel) rfl rfl (Nat.le_of_ble_eq_true rfl) dMO_drop_2 (fun H locs hP hD hS => ?_)
    have hP : va_P (dC, dI) vwCl [(u0, .inr (7, [.int 0, .ref u1, .ref u2, .ref u3, .ref u4, .ref u5, .ref u6, .ref u7, .ref u8, .ref u9, .ref u10])), (u1, .inl (cI, 8, .inl md)), (u2, .inl (cZ, 320, .inl dr))] H := hP
    have hD : va_D A [(u0, .inr (7, [.int 0, .ref u1, .ref u2, .ref u3, .ref u4, .ref u5, .ref u6, .ref u7, .ref u8, .ref u9, .ref u10])), (u1, .inl (cI, 8, .inl md)), (u2, .inl (cZ, 320, .inl dr))] := hD
    refine lv_iload_n hx hb dMO_drop_5 rfl (lv_at hl 1 rfl) ?_
    refine k_S (wr := [(u0, .inr (7, [.int 0, .ref u1, .ref u2, .ref u3, .ref u4, .ref u5, .ref u6, .ref u7, .ref u8, .ref u9, .ref u10])), (u1, .inl (cI, 8, .inl md)), (u2, .inl (cZ, 320, .inl dr))]) (W1 := [(u0, .inr (7, [.int 0, .ref u1, .ref u2, .ref u3, .ref u4, .ref u5, .ref u6, .ref u7, .ref u8, .ref u9, .ref u10])), (u1, .inl (cI, 8, .inl md)), (u2, .inl (cZ, 320, .inl dr))]) (st1 := [.int (f_isKind (nI k))]) ⟨hx, hb, hml, hown, hts⟩ (k_MO_isKind l dC dI cI cJ cG cZ (nI k)) (va_cwS 1 hts (k_gS m_l_MO_72 m_st_MO_isKind m_in_MO m_c_MO_isKind) rfl rfl rfl (by decide +kernel) ⟨Nat.le_of_ble_eq_true rfl, Nat.le_of_ble_eq_true rfl⟩) hK hF hP hD hS hA [] [0, 1, 2] [0, 1, 2] rfl rfl (by decide) (by decide) (by decide) rfl (by decide) rfl hl.1 rfl (Nat.le_of_ble_eq_true rfl) dMO_drop_6 ⟨Nat.le_of_ble_eq_true rfl, Nat.le_of_ble_eq_true rfl⟩ rfl (fun H locs hP hD hS => ?_)
    refine lv_if_eq (tgt := 21) hx hb dMO_drop_9 (by decide) (fun c_1 => ?_) (fun c_1 => ?_)
    · exact absurd c_1 (by rw [f_isKind_nI hk]; decide)
    · refine lv_aload_n hx hb dMO_drop_12 rfl (lv_at hl 0 rfl) ?_
      refine lv_iload_n hx hb dMO_drop_13 rfl (lv_at hl 1 rfl) ?_
      refine lv_iload_n hx hb dMO_drop_14 rfl (lv_at hl 2 rfl) ?_
      refine k_V (wr := []) (W1 := [(u0, .inr (7, [.int 0, .ref u1, .ref u2, .ref u3, .ref u4, .ref u5, .ref u6, .ref u7, .ref u8, .ref u9, .ref u10])), (u1, .inl (cI, 8, .inl md)), (u2, .inl (cZ, 320, .inl dr))]) (st1 := [.int (f_isKnown md kn k (nI (j + 1)))]) ⟨hx, hb, hml, hown, hts⟩ (k_MO_isKnown l dC dI cI cJ cG cZ u0 u1 u2 u3 u4 u5 u6 u7 u8 u9 u10 0 md dr kn mn k (nI (j + 1)) hmn hkd hk) (cwV 2 hts (k_gV m_l_MO_79 m_i_MO_isKnown m_s_MO_isKnown m_in_MO m_c_MO_isKnown) rfl rfl rfl (by decide +kernel) ⟨Nat.le_of_ble_eq_true rfl, Nat.le_of_ble_eq_true rfl⟩) hK hF hP hD hS hA [0, 1, 2] [] [0, 1, 2] rfl rfl (by decide) (by decide) (by decide) rfl (by decide) rfl rfl rfl rfl hl.1 rfl (Nat.le_of_ble_eq_true rfl) dMO_drop_15 ⟨Nat.le_of_ble_eq_true rfl, Nat.le_of_ble_eq_true rfl⟩ rfl (fun H locs hP hD hS => ?_)
      refine lv_if_ne (tgt := 23) hx hb dMO_drop_18 (by decide) (fun c_2 => ?_) (fun c_2 => ?_)
      · refine lv_aload_n hx hb dMO_drop_23 rfl (lv_at hl 0 rfl) ?_
        refine va_get (D := (dC, dI)) (ci := 7) (v := .ref u2) (C := RMO) (T := TMO) (N := 11) hx hb hts inMO hown hK hP 0 rfl rfl 2 (by decide) (hts _ m_f_MO_13) (fun _ h9 => h9) rfl dMO_drop_24 ?_
        refine lv_bipush (v := 40) hx hb dMO_drop_27 (by decide) ?_
        refine lv_iload_n hx hb dMO_drop_29 rfl (lv_at hl 1 rfl) ?_
        refine lv_imul hx hb dMO_drop_30 ?_
        refine lv_iload_n hx hb dMO_drop_31 rfl (lv_at hl 2 rfl) ?_
        refine lv_iadd hx hb dMO_drop_32 ?_
        refine lv_iconst (v := 1) hx hb dMO_drop_33 (by decide) ?_
        refine lv_isub hx hb dMO_drop_34 ?_
        refine lv_iconst (v := 1) hx hb dMO_drop_35 (by decide) ?_
        refine k_zst (W1 := [(u0, .inr (7, [.int 0, .ref u1, .ref u2, .ref u3, .ref u4, .ref u5, .ref u6, .ref u7, .ref u8, .ref u9, .ref u10])), (u1, .inl (cI, 8, .inl md)), (u2, .inl (cZ, 320, .inl (upd dr (40 * k + j) 1)))]) hx hb hK hP hD hS 2 3 rfl rfl (j := (40 * k + j)) (f_ixd k j) (by omega) (by decide) rfl dMO_drop_36 (fun H locs hP hD hS => ?_)
        refine lv_iconst (v := 1) hx hb dMO_drop_37 (by decide) ?_
        exact k_zret hx hb hr hlocks rfl hP hK hD hS rfl dMO_drop_38 ⟨Nat.le_of_ble_eq_true rfl, Nat.le_of_ble_eq_true rfl⟩
      · exact absurd c_2 h1

abbrev rm_MO_told : Room := { frames := 1, cells := 0, slots := 0, locals := 25 }
set_option maxHeartbeats 4000000 in
set_option maxRecDepth 100000 in
theorem k_MO_told (l : Launch) (dC : Nat → ClassId) (dI : Nat → Nat → Nat) (cI cJ cG cZ : ClassId) (u0 : Nat) (u1 : Nat) (u2 : Nat) (u3 : Nat) (u4 : Nat) (u5 : Nat) (u6 : Nat) (u7 : Nat) (u8 : Nat) (u9 : Nat) (u10 : Nat) (th : Int32) (tf : Nat → Int64) (xtf : Nat → Int64) (x : Int32) : k_M l yMO_told wsMO_told rm_MO_told (dC, dI) vwCl [(cI, .int), (cJ, .long), (cG, .array .long), (cZ, .boolean)] [.ref u0, .int x] [(u0, .inr (7, [.int th, .ref u1, .ref u2, .ref u3, .ref u4, .ref u5, .ref u6, .ref u7, .ref u8, .ref u9, .ref u10])), (u8, .inl (cJ, 16, .inr (.inl (f_twoL 8 tf xtf))))] (some (.long (f_tdV tf x))) [(u0, .inr (7, [.int (f_td x), .ref u1, .ref u2, .ref u3, .ref u4, .ref u5, .ref u6, .ref u7, .ref u8, .ref u9, .ref u10])), (u8, .inl (cJ, 16, .inr (.inl (f_twoL 8 tf xtf))))] := by
  rcases f_tds x with ⟨h0, h1⟩ | ⟨k, hk, rfl⟩
  · have e2 : ¬ f_td x = 0 := by rw [h0]; decide
    rw [show f_tdV tf x = 0 from if_neg e2, h0]
    refine k_of (cc := cMO_told) (maxL := 2) (ret := (some .long)) (by decide) rfl (Nat.le_of_ble_eq_true rfl) ?_
    intro p e s m below meth c A ls hx hb hr hlocks hml hown hts hA hP hD hK hF hl hS
    have hown : s.vm.findClass RMO = some m.cls := hown
    have hl : lv_has ls 2 [(0, .ref u0), (1, .int x)] := hl
    refine lv_aload_n hx hb dMO_told_0 rfl (lv_at hl 0 rfl) ?_
    refine lv_iload_n hx hb dMO_told_1 rfl (lv_at hl 1 rfl) ?_
    refine lv_i2l hx hb dMO_told_2 rfl ?_
    refine lv_lconst (v := 0) hx hb dMO_told_3 (by decide) ?_
    refine lv_ldc2 (v := 7) hx hb hown (hts _ m_k_MO_58) dMO_told_4 ?_
    refine k_S (wr := [(u0, .inr (7, [.int th, .ref u1, .ref u2, .ref u3, .ref u4, .ref u5, .ref u6, .ref u7, .ref u8, .ref u9, .ref u10])), (u8, .inl (cJ, 16, .inr (.inl (f_twoL 8 tf xtf))))]) (W1 := [(u0, .inr (7, [.int th, .ref u1, .ref u2, .ref u3, .ref u4, .ref u5, .ref u6, .ref u7, .ref u8, .ref u9, .ref u10])), (u8, .inl (cJ, 16, .inr (.inl (f_twoL 8 tf xtf))))]) (st1 := [.int (f_in x.toInt64 0 7), .ref u0]) ⟨hx, hb, hml, hown, hts⟩ (k_MO_in l dC dI cI cJ cG cZ x.toInt64 0 7) (va_cwS 3 hts (k_gS m_l_MO_52 m_st_MO_in m_in_MO m_c_MO_in) rfl rfl rfl (by decide +kernel) ⟨Nat.le_of_ble_eq_true rfl, Nat.le_of_ble_eq_true rfl⟩) hK hF hP hD hS hA [] [0, 1] [0, 1] rfl rfl (by decide) (by decide) (by decide) rfl (by decide) rfl hl.1 rfl (Nat.le_of_ble_eq_true rfl) dMO_told_7 ⟨Nat.le_of_ble_eq_true rfl, Nat.le_of_ble_eq_true rfl⟩ rfl (fun H locs hP hD hS => ?_)
    refine lv_if_eq (tgt := 17) hx hb dMO_told_10 (by decide) (fun c_1 => ?_) (fun c_1 => ?_)
    · refine lv_iconst (v := 1) hx hb dMO_told_17 (by decide) ?_
      refine va_put (D := (dC, dI)) (ci := 7) (v := .int 1) (ty := .int) (C := RMO) (T := TMO) (N := 11) hx hb hts inMO tyMO tyMO_ok nmMO hown hK hP hD hS 0 rfl rfl 0 (by decide) (hts _ m_f_MO_44) (fun _ h9 => h9) rfl (by decide +kernel) rfl rfl (Nat.le_of_ble_eq_true rfl) dMO_told_18 (fun H locs hP hD hS => ?_)
      have hP : va_P (dC, dI) vwCl [(u0, .inr (7, [.int 1, .ref u1, .ref u2, .ref u3, .ref u4, .ref u5, .ref u6, .ref u7, .ref u8, .ref u9, .ref u10])), (u8, .inl (cJ, 16, .inr (.inl (f_twoL 8 tf xtf))))] H := hP
      have hD : va_D A [(u0, .inr (7, [.int 1, .ref u1, .ref u2, .ref u3, .ref u4, .ref u5, .ref u6, .ref u7, .ref u8, .ref u9, .ref u10])), (u8, .inl (cJ, 16, .inr (.inl (f_twoL 8 tf xtf))))] := hD
      refine lv_aload_n hx hb dMO_told_21 rfl (lv_at hl 0 rfl) ?_
      refine va_get (D := (dC, dI)) (ci := 7) (v := .int 1) (C := RMO) (T := TMO) (N := 11) hx hb hts inMO hown hK hP 0 rfl rfl 0 (by decide) (hts _ m_f_MO_44) (fun _ h9 => h9) rfl dMO_told_22 ?_
      refine lv_if_le (tgt := 32) hx hb dMO_told_25 (by decide) (fun c_2 => ?_) (fun c_2 => ?_)
      · exact absurd c_2 (by decide)
      · refine lv_lconst (v := 0) hx hb dMO_told_28 (by decide) ?_
        refine lv_goto (tgt := 38) hx hb dMO_told_29 (by decide) ?_
        exact k_lret hx hb hr hlocks hP hK hD hS rfl dMO_told_38 ⟨Nat.le_of_ble_eq_true rfl, Nat.le_of_ble_eq_true rfl⟩
    · exact absurd (f_in7n h1) c_1
  · rw [show f_tdV tf (nI k) = tf k by unfold f_tdV; rw [if_pos (f_td0 hk), nI_clamp (by omega)], f_td0 hk]
    refine k_of (cc := cMO_told) (maxL := 2) (ret := (some .long)) (by decide) rfl (Nat.le_of_ble_eq_true rfl) ?_
    intro p e s m below meth c A ls hx hb hr hlocks hml hown hts hA hP hD hK hF hl hS
    have hown : s.vm.findClass RMO = some m.cls := hown
    have hl : lv_has ls 2 [(0, .ref u0), (1, .int (nI k))] := hl
    refine lv_aload_n hx hb dMO_told_0 rfl (lv_at hl 0 rfl) ?_
    refine lv_iload_n hx hb dMO_told_1 rfl (lv_at hl 1 rfl) ?_
    refine lv_i2l hx hb dMO_told_2 rfl ?_
    refine lv_lconst (v := 0) hx hb dMO_told_3 (by decide) ?_
    refine lv_ldc2 (v := 7) hx hb hown (hts _ m_k_MO_58) dMO_told_4 ?_
    refine k_S (wr := [(u0, .inr (7, [.int th, .ref u1, .ref u2, .ref u3, .ref u4, .ref u5, .ref u6, .ref u7, .ref u8, .ref u9, .ref u10])), (u8, .inl (cJ, 16, .inr (.inl (f_twoL 8 tf xtf))))]) (W1 := [(u0, .inr (7, [.int th, .ref u1, .ref u2, .ref u3, .ref u4, .ref u5, .ref u6, .ref u7, .ref u8, .ref u9, .ref u10])), (u8, .inl (cJ, 16, .inr (.inl (f_twoL 8 tf xtf))))]) (st1 := [.int (f_in ((nI k).toInt64) 0 7), .ref u0]) ⟨hx, hb, hml, hown, hts⟩ (k_MO_in l dC dI cI cJ cG cZ ((nI k).toInt64) 0 7) (va_cwS 3 hts (k_gS m_l_MO_52 m_st_MO_in m_in_MO m_c_MO_in) rfl rfl rfl (by decide +kernel) ⟨Nat.le_of_ble_eq_true rfl, Nat.le_of_ble_eq_true rfl⟩) hK hF hP hD hS hA [] [0, 1] [0, 1] rfl rfl (by decide) (by decide) (by decide) rfl (by decide) rfl hl.1 rfl (Nat.le_of_ble_eq_true rfl) dMO_told_7 ⟨Nat.le_of_ble_eq_true rfl, Nat.le_of_ble_eq_true rfl⟩ rfl (fun H locs hP hD hS => ?_)
    refine lv_if_eq (tgt := 17) hx hb dMO_told_10 (by decide) (fun c_1 => ?_) (fun c_1 => ?_)
    · exact absurd c_1 (by rw [f_in7y hk]; decide)
    · refine lv_iconst (v := 0) hx hb dMO_told_13 (by decide) ?_
      refine lv_goto (tgt := 18) hx hb dMO_told_14 (by decide) ?_
      refine va_put (D := (dC, dI)) (ci := 7) (v := .int 0) (ty := .int) (C := RMO) (T := TMO) (N := 11) hx hb hts inMO tyMO tyMO_ok nmMO hown hK hP hD hS 0 rfl rfl 0 (by decide) (hts _ m_f_MO_44) (fun _ h9 => h9) rfl (by decide +kernel) rfl rfl (Nat.le_of_ble_eq_true rfl) dMO_told_18 (fun H locs hP hD hS => ?_)
      have hP : va_P (dC, dI) vwCl [(u0, .inr (7, [.int 0, .ref u1, .ref u2, .ref u3, .ref u4, .ref u5, .ref u6, .ref u7, .ref u8, .ref u9, .ref u10])), (u8, .inl (cJ, 16, .inr (.inl (f_twoL 8 tf xtf))))] H := hP
      have hD : va_D A [(u0, .inr (7, [.int 0, .ref u1, .ref u2, .ref u3, .ref u4, .ref u5, .ref u6, .ref u7, .ref u8, .ref u9, .ref u10])), (u8, .inl (cJ, 16, .inr (.inl (f_twoL 8 tf xtf))))] := hD
      refine lv_aload_n hx hb dMO_told_21 rfl (lv_at hl 0 rfl) ?_
      refine va_get (D := (dC, dI)) (ci := 7) (v := .int 0) (C := RMO) (T := TMO) (N := 11) hx hb hts inMO hown hK hP 0 rfl rfl 0 (by decide) (hts _ m_f_MO_44) (fun _ h9 => h9) rfl dMO_told_22 ?_
      refine lv_if_le (tgt := 32) hx hb dMO_told_25 (by decide) (fun c_2 => ?_) (fun c_2 => ?_)
      · refine lv_aload_n hx hb dMO_told_32 rfl (lv_at hl 0 rfl) ?_
        refine va_get (D := (dC, dI)) (ci := 7) (v := .ref u8) (C := RMO) (T := TMO) (N := 11) hx hb hts inMO hown hK hP 0 rfl rfl 8 (by decide) (hts _ m_f_MO_33) (fun _ h9 => h9) rfl dMO_told_33 ?_
        refine lv_iload_n hx hb dMO_told_36 rfl (lv_at hl 1 rfl) ?_
        refine k_lld (v := (f_twoL 8 tf xtf) k) hx hb hK hP 1 1 rfl rfl (j := k) rfl (by omega) (by decide) rfl dMO_told_37 ?_
        exact k_lret hx hb hr hlocks hP hK hD hS (f_tL0 hk) dMO_told_38 ⟨Nat.le_of_ble_eq_true rfl, Nat.le_of_ble_eq_true rfl⟩
      · exact absurd (by decide) c_2

abbrev rm_MO_collected : Room := { frames := 1, cells := 0, slots := 0, locals := 25 }
set_option maxHeartbeats 4000000 in
set_option maxRecDepth 100000 in
theorem k_MO_collected (l : Launch) (dC : Nat → ClassId) (dI : Nat → Nat → Nat) (cI cJ cG cZ : ClassId) (u0 : Nat) (u1 : Nat) (u2 : Nat) (u3 : Nat) (u4 : Nat) (u5 : Nat) (u6 : Nat) (u7 : Nat) (u8 : Nat) (u9 : Nat) (u10 : Nat) (th : Int32) (sz : Nat → Int32) (va : Nat → Int64) (vs : Nat → Nat → Int64) (ns : Nat → Nat) (x : Int32) (i : Int32) (hns : ∀ k : Nat, k < 4 → sz k = nI (ns k) ∧ ns k ≤ 100) (hva : ∀ k : Nat, k < 4 → ∀ j : Nat, j < ns k → va (100 * k + j) = vs k j) : k_M l yMO_collected wsMO_collected rm_MO_collected (dC, dI) vwCl [(cI, .int), (cJ, .long), (cG, .array .long), (cZ, .boolean)] [.ref u0, .int x, .int i] [(u0, .inr (7, [.int th, .ref u1, .ref u2, .ref u3, .ref u4, .ref u5, .ref u6, .ref u7, .ref u8, .ref u9, .ref u10])), (u9, .inl (cI, 4, .inl sz)), (u10, .inl (cJ, 400, .inr (.inl va)))] (some (.long (f_clV sz vs x i))) [(u0, .inr (7, [.int (f_clR sz x i), .ref u1, .ref u2, .ref u3, .ref u4, .ref u5, .ref u6, .ref u7, .ref u8, .ref u9, .ref u10])), (u9, .inl (cI, 4, .inl sz)), (u10, .inl (cJ, 400, .inr (.inl va)))] := by
  rcases f_cls hns x i with ⟨e1, h1⟩ | ⟨k, hk, rfl, e1, h1⟩ | ⟨k, j, hk, hj, rfl, rfl, h1, e1⟩
  · have e2 : ¬ f_clR sz x i = 0 := by rw [e1]; decide
    rw [show f_clV sz vs x i = 0 from if_neg e2, e1]
    refine k_of (cc := cMO_collected) (maxL := 4) (ret := (some .long)) (by decide) rfl (Nat.le_of_ble_eq_true rfl) ?_
    intro p e s m below meth c A ls hx hb hr hlocks hml hown hts hA hP hD hK hF hl hS
    have hown : s.vm.findClass RMO = some m.cls := hown
    have hl : lv_has ls 4 [(0, .ref u0), (1, .int x), (2, .int i)] := hl
    refine lv_iload_n hx hb dMO_collected_0 rfl (lv_at hl 1 rfl) ?_
    refine lv_i2l hx hb dMO_collected_1 rfl ?_
    refine lv_lconst (v := 0) hx hb dMO_collected_2 (by decide) ?_
    refine lv_ldc2 (v := 3) hx hb hown (hts _ m_k_MO_60) dMO_collected_3 ?_
    refine k_S (wr := [(u0, .inr (7, [.int th, .ref u1, .ref u2, .ref u3, .ref u4, .ref u5, .ref u6, .ref u7, .ref u8, .ref u9, .ref u10])), (u9, .inl (cI, 4, .inl sz)), (u10, .inl (cJ, 400, .inr (.inl va)))]) (W1 := [(u0, .inr (7, [.int th, .ref u1, .ref u2, .ref u3, .ref u4, .ref u5, .ref u6, .ref u7, .ref u8, .ref u9, .ref u10])), (u9, .inl (cI, 4, .inl sz)), (u10, .inl (cJ, 400, .inr (.inl va)))]) (st1 := [.int (f_in x.toInt64 0 3)]) ⟨hx, hb, hml, hown, hts⟩ (k_MO_in l dC dI cI cJ cG cZ x.toInt64 0 3) (va_cwS 3 hts (k_gS m_l_MO_52 m_st_MO_in m_in_MO m_c_MO_in) rfl rfl rfl (by decide +kernel) ⟨Nat.le_of_ble_eq_true rfl, Nat.le_of_ble_eq_true rfl⟩) hK hF hP hD hS hA [] [0, 1, 2] [0, 1, 2] rfl rfl (by decide) (by decide) (by decide) rfl (by decide) rfl hl.1 rfl (Nat.le_of_ble_eq_true rfl) dMO_collected_6 ⟨Nat.le_of_ble_eq_true rfl, Nat.le_of_ble_eq_true rfl⟩ rfl (fun H locs hP hD hS => ?_)
    refine lv_if_eq (tgt := 46) hx hb dMO_collected_9 (by decide) (fun c_1 => ?_) (fun c_1 => ?_)
    · refine lv_iconst (v := 0) hx hb dMO_collected_46 (by decide) ?_
      refine lv_istore_n (lv' := [(3, .int 0), (0, .ref u0), (1, .int x), (2, .int i)]) hx hb dMO_collected_47 rfl hl (by decide) rfl (fun ls hl => ?_)
      refine lv_aload_n hx hb dMO_collected_48 rfl (lv_at hl 1 rfl) ?_
      refine lv_iload_n hx hb dMO_collected_49 rfl (lv_at hl 0 rfl) ?_
      refine lv_if_eq (tgt := 57) hx hb dMO_collected_50 (by decide) (fun c_2 => ?_) (fun c_2 => ?_)
      · refine lv_iconst (v := 1) hx hb dMO_collected_57 (by decide) ?_
        refine va_put (D := (dC, dI)) (ci := 7) (v := .int 1) (ty := .int) (C := RMO) (T := TMO) (N := 11) hx hb hts inMO tyMO tyMO_ok nmMO hown hK hP hD hS 0 rfl rfl 0 (by decide) (hts _ m_f_MO_44) (fun _ h9 => h9) rfl (by decide +kernel) rfl rfl (Nat.le_of_ble_eq_true rfl) dMO_collected_58 (fun H locs hP hD hS => ?_)
        have hP : va_P (dC, dI) vwCl [(u0, .inr (7, [.int 1, .ref u1, .ref u2, .ref u3, .ref u4, .ref u5, .ref u6, .ref u7, .ref u8, .ref u9, .ref u10])), (u9, .inl (cI, 4, .inl sz)), (u10, .inl (cJ, 400, .inr (.inl va)))] H := hP
        have hD : va_D A [(u0, .inr (7, [.int 1, .ref u1, .ref u2, .ref u3, .ref u4, .ref u5, .ref u6, .ref u7, .ref u8, .ref u9, .ref u10])), (u9, .inl (cI, 4, .inl sz)), (u10, .inl (cJ, 400, .inr (.inl va)))] := hD
        refine lv_iload_n hx hb dMO_collected_61 rfl (lv_at hl 0 rfl) ?_
        refine lv_if_eq (tgt := 79) hx hb dMO_collected_62 (by decide) (fun c_3 => ?_) (fun c_3 => ?_)
        · refine lv_lconst (v := 0) hx hb dMO_collected_79 (by decide) ?_
          exact k_lret hx hb hr hlocks hP hK hD hS rfl dMO_collected_80 ⟨Nat.le_of_ble_eq_true rfl, Nat.le_of_ble_eq_true rfl⟩
        · exact absurd (by decide) c_3
      · exact absurd (by decide) c_2
    · exact absurd (f_in3n h1) c_1
  · have e2 : ¬ f_clR sz (nI k) i = 0 := by rw [e1]; decide
    rw [show f_clV sz vs (nI k) i = 0 from if_neg e2, e1]
    refine k_of (cc := cMO_collected) (maxL := 4) (ret := (some .long)) (by decide) rfl (Nat.le_of_ble_eq_true rfl) ?_
    intro p e s m below meth c A ls hx hb hr hlocks hml hown hts hA hP hD hK hF hl hS
    have hown : s.vm.findClass RMO = some m.cls := hown
    have hl : lv_has ls 4 [(0, .ref u0), (1, .int (nI k)), (2, .int i)] := hl
    refine lv_iload_n hx hb dMO_collected_0 rfl (lv_at hl 1 rfl) ?_
    refine lv_i2l hx hb dMO_collected_1 rfl ?_
    refine lv_lconst (v := 0) hx hb dMO_collected_2 (by decide) ?_
    refine lv_ldc2 (v := 3) hx hb hown (hts _ m_k_MO_60) dMO_collected_3 ?_
    refine k_S (wr := [(u0, .inr (7, [.int th, .ref u1, .ref u2, .ref u3, .ref u4, .ref u5, .ref u6, .ref u7, .ref u8, .ref u9, .ref u10])), (u9, .inl (cI, 4, .inl sz)), (u10, .inl (cJ, 400, .inr (.inl va)))]) (W1 := [(u0, .inr (7, [.int th, .ref u1, .ref u2, .ref u3, .ref u4, .ref u5, .ref u6, .ref u7, .ref u8, .ref u9, .ref u10])), (u9, .inl (cI, 4, .inl sz)), (u10, .inl (cJ, 400, .inr (.inl va)))]) (st1 := [.int (f_in ((nI k).toInt64) 0 3)]) ⟨hx, hb, hml, hown, hts⟩ (k_MO_in l dC dI cI cJ cG cZ ((nI k).toInt64) 0 3) (va_cwS 3 hts (k_gS m_l_MO_52 m_st_MO_in m_in_MO m_c_MO_in) rfl rfl rfl (by decide +kernel) ⟨Nat.le_of_ble_eq_true rfl, Nat.le_of_ble_eq_true rfl⟩) hK hF hP hD hS hA [] [0, 1, 2] [0, 1, 2] rfl rfl (by decide) (by decide) (by decide) rfl (by decide) rfl hl.1 rfl (Nat.le_of_ble_eq_true rfl) dMO_collected_6 ⟨Nat.le_of_ble_eq_true rfl, Nat.le_of_ble_eq_true rfl⟩ rfl (fun H locs hP hD hS => ?_)
    refine lv_if_eq (tgt := 46) hx hb dMO_collected_9 (by decide) (fun c_1 => ?_) (fun c_1 => ?_)
    · exact absurd c_1 (by rw [f_in3y hk]; decide)
    · refine lv_iload_n hx hb dMO_collected_12 rfl (lv_at hl 2 rfl) ?_
      refine lv_if_lt (tgt := 46) hx hb dMO_collected_13 (by decide) (fun c_2 => ?_) (fun c_2 => ?_)
      · refine lv_iconst (v := 0) hx hb dMO_collected_46 (by decide) ?_
        refine lv_istore_n (lv' := [(3, .int 0), (0, .ref u0), (1, .int (nI k)), (2, .int i)]) hx hb dMO_collected_47 rfl hl (by decide) rfl (fun ls hl => ?_)
        refine lv_aload_n hx hb dMO_collected_48 rfl (lv_at hl 1 rfl) ?_
        refine lv_iload_n hx hb dMO_collected_49 rfl (lv_at hl 0 rfl) ?_
        refine lv_if_eq (tgt := 57) hx hb dMO_collected_50 (by decide) (fun c_3 => ?_) (fun c_3 => ?_)
        · refine lv_iconst (v := 1) hx hb dMO_collected_57 (by decide) ?_
          refine va_put (D := (dC, dI)) (ci := 7) (v := .int 1) (ty := .int) (C := RMO) (T := TMO) (N := 11) hx hb hts inMO tyMO tyMO_ok nmMO hown hK hP hD hS 0 rfl rfl 0 (by decide) (hts _ m_f_MO_44) (fun _ h9 => h9) rfl (by decide +kernel) rfl rfl (Nat.le_of_ble_eq_true rfl) dMO_collected_58 (fun H locs hP hD hS => ?_)
          have hP : va_P (dC, dI) vwCl [(u0, .inr (7, [.int 1, .ref u1, .ref u2, .ref u3, .ref u4, .ref u5, .ref u6, .ref u7, .ref u8, .ref u9, .ref u10])), (u9, .inl (cI, 4, .inl sz)), (u10, .inl (cJ, 400, .inr (.inl va)))] H := hP
          have hD : va_D A [(u0, .inr (7, [.int 1, .ref u1, .ref u2, .ref u3, .ref u4, .ref u5, .ref u6, .ref u7, .ref u8, .ref u9, .ref u10])), (u9, .inl (cI, 4, .inl sz)), (u10, .inl (cJ, 400, .inr (.inl va)))] := hD
          refine lv_iload_n hx hb dMO_collected_61 rfl (lv_at hl 0 rfl) ?_
          refine lv_if_eq (tgt := 79) hx hb dMO_collected_62 (by decide) (fun c_4 => ?_) (fun c_4 => ?_)
          · refine lv_lconst (v := 0) hx hb dMO_collected_79 (by decide) ?_
            exact k_lret hx hb hr hlocks hP hK hD hS rfl dMO_collected_80 ⟨Nat.le_of_ble_eq_true rfl, Nat.le_of_ble_eq_true rfl⟩
          · exact absurd (by decide) c_4
        · exact absurd (by decide) c_3
      · refine lv_iload_n hx hb dMO_collected_16 rfl (lv_at hl 2 rfl) ?_
        refine lv_aload_n hx hb dMO_collected_17 rfl (lv_at hl 0 rfl) ?_
        refine va_get (D := (dC, dI)) (ci := 7) (v := .ref u9) (C := RMO) (T := TMO) (N := 11) hx hb hts inMO hown hK hP 0 rfl rfl 9 (by decide) (hts _ m_f_MO_36) (fun _ h9 => h9) rfl dMO_collected_18 ?_
        refine lv_iload_n hx hb dMO_collected_21 rfl (lv_at hl 1 rfl) ?_
        refine lv_i2l hx hb dMO_collected_22 rfl ?_
        refine lv_lconst (v := 0) hx hb dMO_collected_23 (by decide) ?_
        refine lv_ldc2 (v := 3) hx hb hown (hts _ m_k_MO_60) dMO_collected_24 ?_
        refine k_S (wr := [(u0, .inr (7, [.int th, .ref u1, .ref u2, .ref u3, .ref u4, .ref u5, .ref u6, .ref u7, .ref u8, .ref u9, .ref u10])), (u9, .inl (cI, 4, .inl sz)), (u10, .inl (cJ, 400, .inr (.inl va)))]) (W1 := [(u0, .inr (7, [.int th, .ref u1, .ref u2, .ref u3, .ref u4, .ref u5, .ref u6, .ref u7, .ref u8, .ref u9, .ref u10])), (u9, .inl (cI, 4, .inl sz)), (u10, .inl (cJ, 400, .inr (.inl va)))]) (st1 := [.int (f_in ((nI k).toInt64) 0 3), .ref u9, .int i]) ⟨hx, hb, hml, hown, hts⟩ (k_MO_in l dC dI cI cJ cG cZ ((nI k).toInt64) 0 3) (va_cwS 3 hts (k_gS m_l_MO_52 m_st_MO_in m_in_MO m_c_MO_in) rfl rfl rfl (by decide +kernel) ⟨Nat.le_of_ble_eq_true rfl, Nat.le_of_ble_eq_true rfl⟩) hK hF hP hD hS hA [] [0, 1, 2] [0, 1, 2] rfl rfl (by decide) (by decide) (by decide) rfl (by decide) rfl hl.1 rfl (Nat.le_of_ble_eq_true rfl) dMO_collected_27 ⟨Nat.le_of_ble_eq_true rfl, Nat.le_of_ble_eq_true rfl⟩ rfl (fun H locs hP hD hS => ?_)
        refine lv_if_eq (tgt := 37) hx hb dMO_collected_30 (by decide) (fun c_5 => ?_) (fun c_5 => ?_)
        · exact absurd c_5 (by rw [f_in3y hk]; decide)
        · refine lv_iload_n hx hb dMO_collected_33 rfl (lv_at hl 1 rfl) ?_
          refine lv_goto (tgt := 38) hx hb dMO_collected_34 (by decide) ?_
          refine k_ild (v := sz k) hx hb hK hP 1 0 rfl rfl (j := k) rfl (by omega) (by decide) rfl dMO_collected_38 ?_
          refine lv_icmp_ge (tgt := 46) hx hb dMO_collected_39 (by decide) (fun c_6 => ?_) (fun c_6 => ?_)
          · refine lv_iconst (v := 0) hx hb dMO_collected_46 (by decide) ?_
            refine lv_istore_n (lv' := [(3, .int 0), (0, .ref u0), (1, .int (nI k)), (2, .int i)]) hx hb dMO_collected_47 rfl hl (by decide) rfl (fun ls hl => ?_)
            refine lv_aload_n hx hb dMO_collected_48 rfl (lv_at hl 1 rfl) ?_
            refine lv_iload_n hx hb dMO_collected_49 rfl (lv_at hl 0 rfl) ?_
            refine lv_if_eq (tgt := 57) hx hb dMO_collected_50 (by decide) (fun c_7 => ?_) (fun c_7 => ?_)
            · refine lv_iconst (v := 1) hx hb dMO_collected_57 (by decide) ?_
              refine va_put (D := (dC, dI)) (ci := 7) (v := .int 1) (ty := .int) (C := RMO) (T := TMO) (N := 11) hx hb hts inMO tyMO tyMO_ok nmMO hown hK hP hD hS 0 rfl rfl 0 (by decide) (hts _ m_f_MO_44) (fun _ h9 => h9) rfl (by decide +kernel) rfl rfl (Nat.le_of_ble_eq_true rfl) dMO_collected_58 (fun H locs hP hD hS => ?_)
              have hP : va_P (dC, dI) vwCl [(u0, .inr (7, [.int 1, .ref u1, .ref u2, .ref u3, .ref u4, .ref u5, .ref u6, .ref u7, .ref u8, .ref u9, .ref u10])), (u9, .inl (cI, 4, .inl sz)), (u10, .inl (cJ, 400, .inr (.inl va)))] H := hP
              have hD : va_D A [(u0, .inr (7, [.int 1, .ref u1, .ref u2, .ref u3, .ref u4, .ref u5, .ref u6, .ref u7, .ref u8, .ref u9, .ref u10])), (u9, .inl (cI, 4, .inl sz)), (u10, .inl (cJ, 400, .inr (.inl va)))] := hD
              refine lv_iload_n hx hb dMO_collected_61 rfl (lv_at hl 0 rfl) ?_
              refine lv_if_eq (tgt := 79) hx hb dMO_collected_62 (by decide) (fun c_8 => ?_) (fun c_8 => ?_)
              · refine lv_lconst (v := 0) hx hb dMO_collected_79 (by decide) ?_
                exact k_lret hx hb hr hlocks hP hK hD hS rfl dMO_collected_80 ⟨Nat.le_of_ble_eq_true rfl, Nat.le_of_ble_eq_true rfl⟩
              · exact absurd (by decide) c_8
            · exact absurd (by decide) c_7
          · exact (h1.elim (fun h9 => absurd h9 c_2) (fun h9 => absurd (Int32.not_le.mp c_6) h9))
  · have hj2 : j < ns k := by have h9 := h1; rw [(hns k hk).1] at h9; exact (nI_ltI (by omega) (by have := (hns k hk).2; omega)).mp h9
    rw [show f_clV sz vs (nI k) (nI j) = vs k j by unfold f_clV; rw [if_pos e1, nI_clamp (by omega), nI_clamp (by omega)], e1]
    refine k_of (cc := cMO_collected) (maxL := 4) (ret := (some .long)) (by decide) rfl (Nat.le_of_ble_eq_true rfl) ?_
    intro p e s m below meth c A ls hx hb hr hlocks hml hown hts hA hP hD hK hF hl hS
    have hown : s.vm.findClass RMO = some m.cls := hown
    have hl : lv_has ls 4 [(0, .ref u0), (1, .int (nI k)), (2, .int (nI j))] := hl
    refine lv_iload_n hx hb dMO_collected_0 rfl (lv_at hl 1 rfl) ?_
    refine lv_i2l hx hb dMO_collected_1 rfl ?_
    refine lv_lconst (v := 0) hx hb dMO_collected_2 (by decide) ?_
    refine lv_ldc2 (v := 3) hx hb hown (hts _ m_k_MO_60) dMO_collected_3 ?_
    refine k_S (wr := [(u0, .inr (7, [.int th, .ref u1, .ref u2, .ref u3, .ref u4, .ref u5, .ref u6, .ref u7, .ref u8, .ref u9, .ref u10])), (u9, .inl (cI, 4, .inl sz)), (u10, .inl (cJ, 400, .inr (.inl va)))]) (W1 := [(u0, .inr (7, [.int th, .ref u1, .ref u2, .ref u3, .ref u4, .ref u5, .ref u6, .ref u7, .ref u8, .ref u9, .ref u10])), (u9, .inl (cI, 4, .inl sz)), (u10, .inl (cJ, 400, .inr (.inl va)))]) (st1 := [.int (f_in ((nI k).toInt64) 0 3)]) ⟨hx, hb, hml, hown, hts⟩ (k_MO_in l dC dI cI cJ cG cZ ((nI k).toInt64) 0 3) (va_cwS 3 hts (k_gS m_l_MO_52 m_st_MO_in m_in_MO m_c_MO_in) rfl rfl rfl (by decide +kernel) ⟨Nat.le_of_ble_eq_true rfl, Nat.le_of_ble_eq_true rfl⟩) hK hF hP hD hS hA [] [0, 1, 2] [0, 1, 2] rfl rfl (by decide) (by decide) (by decide) rfl (by decide) rfl hl.1 rfl (Nat.le_of_ble_eq_true rfl) dMO_collected_6 ⟨Nat.le_of_ble_eq_true rfl, Nat.le_of_ble_eq_true rfl⟩ rfl (fun H locs hP hD hS => ?_)
    refine lv_if_eq (tgt := 46) hx hb dMO_collected_9 (by decide) (fun c_1 => ?_) (fun c_1 => ?_)
    · exact absurd c_1 (by rw [f_in3y hk]; decide)
    · refine lv_iload_n hx hb dMO_collected_12 rfl (lv_at hl 2 rfl) ?_
      refine lv_if_lt (tgt := 46) hx hb dMO_collected_13 (by decide) (fun c_2 => ?_) (fun c_2 => ?_)
      · exact absurd c_2 (f_nn (by omega))
      · refine lv_iload_n hx hb dMO_collected_16 rfl (lv_at hl 2 rfl) ?_
        refine lv_aload_n hx hb dMO_collected_17 rfl (lv_at hl 0 rfl) ?_
        refine va_get (D := (dC, dI)) (ci := 7) (v := .ref u9) (C := RMO) (T := TMO) (N := 11) hx hb hts inMO hown hK hP 0 rfl rfl 9 (by decide) (hts _ m_f_MO_36) (fun _ h9 => h9) rfl dMO_collected_18 ?_
        refine lv_iload_n hx hb dMO_collected_21 rfl (lv_at hl 1 rfl) ?_
        refine lv_i2l hx hb dMO_collected_22 rfl ?_
        refine lv_lconst (v := 0) hx hb dMO_collected_23 (by decide) ?_
        refine lv_ldc2 (v := 3) hx hb hown (hts _ m_k_MO_60) dMO_collected_24 ?_
        refine k_S (wr := [(u0, .inr (7, [.int th, .ref u1, .ref u2, .ref u3, .ref u4, .ref u5, .ref u6, .ref u7, .ref u8, .ref u9, .ref u10])), (u9, .inl (cI, 4, .inl sz)), (u10, .inl (cJ, 400, .inr (.inl va)))]) (W1 := [(u0, .inr (7, [.int th, .ref u1, .ref u2, .ref u3, .ref u4, .ref u5, .ref u6, .ref u7, .ref u8, .ref u9, .ref u10])), (u9, .inl (cI, 4, .inl sz)), (u10, .inl (cJ, 400, .inr (.inl va)))]) (st1 := [.int (f_in ((nI k).toInt64) 0 3), .ref u9, .int (nI j)]) ⟨hx, hb, hml, hown, hts⟩ (k_MO_in l dC dI cI cJ cG cZ ((nI k).toInt64) 0 3) (va_cwS 3 hts (k_gS m_l_MO_52 m_st_MO_in m_in_MO m_c_MO_in) rfl rfl rfl (by decide +kernel) ⟨Nat.le_of_ble_eq_true rfl, Nat.le_of_ble_eq_true rfl⟩) hK hF hP hD hS hA [] [0, 1, 2] [0, 1, 2] rfl rfl (by decide) (by decide) (by decide) rfl (by decide) rfl hl.1 rfl (Nat.le_of_ble_eq_true rfl) dMO_collected_27 ⟨Nat.le_of_ble_eq_true rfl, Nat.le_of_ble_eq_true rfl⟩ rfl (fun H locs hP hD hS => ?_)
        refine lv_if_eq (tgt := 37) hx hb dMO_collected_30 (by decide) (fun c_3 => ?_) (fun c_3 => ?_)
        · exact absurd c_3 (by rw [f_in3y hk]; decide)
        · refine lv_iload_n hx hb dMO_collected_33 rfl (lv_at hl 1 rfl) ?_
          refine lv_goto (tgt := 38) hx hb dMO_collected_34 (by decide) ?_
          refine k_ild (v := sz k) hx hb hK hP 1 0 rfl rfl (j := k) rfl (by omega) (by decide) rfl dMO_collected_38 ?_
          refine lv_icmp_ge (tgt := 46) hx hb dMO_collected_39 (by decide) (fun c_4 => ?_) (fun c_4 => ?_)
          · exact absurd h1 (Int32.not_lt.mpr c_4)
          · refine lv_iconst (v := 1) hx hb dMO_collected_42 (by decide) ?_
            refine lv_goto (tgt := 47) hx hb dMO_collected_43 (by decide) ?_
            refine lv_istore_n (lv' := [(3, .int 1), (0, .ref u0), (1, .int (nI k)), (2, .int (nI j))]) hx hb dMO_collected_47 rfl hl (by decide) rfl (fun ls hl => ?_)
            refine lv_aload_n hx hb dMO_collected_48 rfl (lv_at hl 1 rfl) ?_
            refine lv_iload_n hx hb dMO_collected_49 rfl (lv_at hl 0 rfl) ?_
            refine lv_if_eq (tgt := 57) hx hb dMO_collected_50 (by decide) (fun c_5 => ?_) (fun c_5 => ?_)
            · exact absurd c_5 (by decide)
            · refine lv_iconst (v := 0) hx hb dMO_collected_53 (by decide) ?_
              refine lv_goto (tgt := 58) hx hb dMO_collected_54 (by decide) ?_
              refine va_put (D := (dC, dI)) (ci := 7) (v := .int 0) (ty := .int) (C := RMO) (T := TMO) (N := 11) hx hb hts inMO tyMO tyMO_ok nmMO hown hK hP hD hS 0 rfl rfl 0 (by decide) (hts _ m_f_MO_44) (fun _ h9 => h9) rfl (by decide +kernel) rfl rfl (Nat.le_of_ble_eq_true rfl) dMO_collected_58 (fun H locs hP hD hS => ?_)
              have hP : va_P (dC, dI) vwCl [(u0, .inr (7, [.int 0, .ref u1, .ref u2, .ref u3, .ref u4, .ref u5, .ref u6, .ref u7, .ref u8, .ref u9, .ref u10])), (u9, .inl (cI, 4, .inl sz)), (u10, .inl (cJ, 400, .inr (.inl va)))] H := hP
              have hD : va_D A [(u0, .inr (7, [.int 0, .ref u1, .ref u2, .ref u3, .ref u4, .ref u5, .ref u6, .ref u7, .ref u8, .ref u9, .ref u10])), (u9, .inl (cI, 4, .inl sz)), (u10, .inl (cJ, 400, .inr (.inl va)))] := hD
              refine lv_iload_n hx hb dMO_collected_61 rfl (lv_at hl 0 rfl) ?_
              refine lv_if_eq (tgt := 79) hx hb dMO_collected_62 (by decide) (fun c_6 => ?_) (fun c_6 => ?_)
              · exact absurd c_6 (by decide)
              · refine lv_aload_n hx hb dMO_collected_65 rfl (lv_at hl 1 rfl) ?_
                refine va_get (D := (dC, dI)) (ci := 7) (v := .ref u10) (C := RMO) (T := TMO) (N := 11) hx hb hts inMO hown hK hP 0 rfl rfl 10 (by decide) (hts _ m_f_MO_39) (fun _ h9 => h9) rfl dMO_collected_66 ?_
                refine lv_bipush (v := 100) hx hb dMO_collected_69 (by decide) ?_
                refine lv_iload_n hx hb dMO_collected_71 rfl (lv_at hl 2 rfl) ?_
                refine lv_imul hx hb dMO_collected_72 ?_
                refine lv_iload_n hx hb dMO_collected_73 rfl (lv_at hl 3 rfl) ?_
                refine lv_iadd hx hb dMO_collected_74 ?_
                refine k_lld (v := va (100 * k + j)) hx hb hK hP 2 1 rfl rfl (j := (100 * k + j)) (f_ixv k j) (by omega) (by decide) rfl dMO_collected_75 ?_
                refine lv_goto (tgt := 80) hx hb dMO_collected_76 (by decide) ?_
                exact k_lret hx hb hr hlocks hP hK hD hS (hva k hk j hj2) dMO_collected_80 ⟨Nat.le_of_ble_eq_true rfl, Nat.le_of_ble_eq_true rfl⟩

abbrev rm_MO_log : Room := { frames := 1, cells := 0, slots := 0, locals := 25 }
set_option maxHeartbeats 4000000 in
set_option maxRecDepth 100000 in
theorem k_MO_log (l : Launch) (dC : Nat → ClassId) (dI : Nat → Nat → Nat) (cI cJ cG cZ : ClassId) (u0 : Nat) (u1 : Nat) (u2 : Nat) (u3 : Nat) (u4 : Nat) (u5 : Nat) (u6 : Nat) (u7 : Nat) (u8 : Nat) (u9 : Nat) (u10 : Nat) (th : Int32) (lg : Nat → Int64) (rg : Nat → Int64) (xrg : Nat → Int64) (z : Nat) (q : Nat) (xz : Nat) (xq : Nat) (x : Int32) (i : Int32) (hz : z ≤ 64) (hxz : xz ≤ 64) (hlg : ∀ j : Nat, j < z → lg j = rg (f_ix q z j)) (hlx : ∀ j : Nat, j < xz → lg (64 + j) = xrg (f_ix xq xz j)) : k_M l yMO_log wsMO_log rm_MO_log (dC, dI) vwCl [(cI, .int), (cJ, .long), (cG, .array .long), (cZ, .boolean)] [.ref u0, .int x, .int i] [(u0, .inr (7, [.int th, .ref u1, .ref u2, .ref u3, .ref u4, .ref u5, .ref u6, .ref u7, .ref u8, .ref u9, .ref u10])), (u6, .inl (cI, 2, .inl (f_lo z xz))), (u7, .inl (cJ, 128, .inr (.inl lg)))] (some (.long (f_lgW rg xrg z q xz xq x i))) [(u0, .inr (7, [.int (f_lgR z xz x i), .ref u1, .ref u2, .ref u3, .ref u4, .ref u5, .ref u6, .ref u7, .ref u8, .ref u9, .ref u10])), (u6, .inl (cI, 2, .inl (f_lo z xz))), (u7, .inl (cJ, 128, .inr (.inl lg)))] := by
  rcases f_lga hz hxz x i with ⟨e1, h1⟩ | ⟨rfl, e1, h1⟩ | ⟨rfl, e1, h1⟩ | ⟨rfl, j, hj, rfl, e1⟩ | ⟨rfl, j, hj, rfl, e1⟩
  · have e2 : ¬ f_lgR z xz x i = 0 := by rw [e1]; decide
    rw [show f_lgW rg xrg z q xz xq x i = 0 from if_neg e2, e1]
    refine k_of (cc := cMO_log) (maxL := 4) (ret := (some .long)) (by decide) rfl (Nat.le_of_ble_eq_true rfl) ?_
    intro p e s m below meth c A ls hx hb hr hlocks hml hown hts hA hP hD hK hF hl hS
    have hown : s.vm.findClass RMO = some m.cls := hown
    have hl : lv_has ls 4 [(0, .ref u0), (1, .int x), (2, .int i)] := hl
    refine lv_iload_n hx hb dMO_log_0 rfl (lv_at hl 1 rfl) ?_
    refine lv_i2l hx hb dMO_log_1 rfl ?_
    refine lv_lconst (v := 0) hx hb dMO_log_2 (by decide) ?_
    refine lv_lconst (v := 1) hx hb dMO_log_3 (by decide) ?_
    refine k_S (wr := [(u0, .inr (7, [.int th, .ref u1, .ref u2, .ref u3, .ref u4, .ref u5, .ref u6, .ref u7, .ref u8, .ref u9, .ref u10])), (u6, .inl (cI, 2, .inl (f_lo z xz))), (u7, .inl (cJ, 128, .inr (.inl lg)))]) (W1 := [(u0, .inr (7, [.int th, .ref u1, .ref u2, .ref u3, .ref u4, .ref u5, .ref u6, .ref u7, .ref u8, .ref u9, .ref u10])), (u6, .inl (cI, 2, .inl (f_lo z xz))), (u7, .inl (cJ, 128, .inr (.inl lg)))]) (st1 := [.int (f_in x.toInt64 0 1)]) ⟨hx, hb, hml, hown, hts⟩ (k_MO_in l dC dI cI cJ cG cZ x.toInt64 0 1) (va_cwS 3 hts (k_gS m_l_MO_52 m_st_MO_in m_in_MO m_c_MO_in) rfl rfl rfl (by decide +kernel) ⟨Nat.le_of_ble_eq_true rfl, Nat.le_of_ble_eq_true rfl⟩) hK hF hP hD hS hA [] [0, 1, 2] [0, 1, 2] rfl rfl (by decide) (by decide) (by decide) rfl (by decide) rfl hl.1 rfl (Nat.le_of_ble_eq_true rfl) dMO_log_4 ⟨Nat.le_of_ble_eq_true rfl, Nat.le_of_ble_eq_true rfl⟩ rfl (fun H locs hP hD hS => ?_)
    refine lv_if_eq (tgt := 42) hx hb dMO_log_7 (by decide) (fun c_1 => ?_) (fun c_1 => ?_)
    · refine lv_iconst (v := 0) hx hb dMO_log_42 (by decide) ?_
      refine lv_istore_n (lv' := [(3, .int 0), (0, .ref u0), (1, .int x), (2, .int i)]) hx hb dMO_log_43 rfl hl (by decide) rfl (fun ls hl => ?_)
      refine lv_aload_n hx hb dMO_log_44 rfl (lv_at hl 1 rfl) ?_
      refine lv_iload_n hx hb dMO_log_45 rfl (lv_at hl 0 rfl) ?_
      refine lv_if_eq (tgt := 53) hx hb dMO_log_46 (by decide) (fun c_2 => ?_) (fun c_2 => ?_)
      · refine lv_iconst (v := 1) hx hb dMO_log_53 (by decide) ?_
        refine va_put (D := (dC, dI)) (ci := 7) (v := .int 1) (ty := .int) (C := RMO) (T := TMO) (N := 11) hx hb hts inMO tyMO tyMO_ok nmMO hown hK hP hD hS 0 rfl rfl 0 (by decide) (hts _ m_f_MO_44) (fun _ h9 => h9) rfl (by decide +kernel) rfl rfl (Nat.le_of_ble_eq_true rfl) dMO_log_54 (fun H locs hP hD hS => ?_)
        have hP : va_P (dC, dI) vwCl [(u0, .inr (7, [.int 1, .ref u1, .ref u2, .ref u3, .ref u4, .ref u5, .ref u6, .ref u7, .ref u8, .ref u9, .ref u10])), (u6, .inl (cI, 2, .inl (f_lo z xz))), (u7, .inl (cJ, 128, .inr (.inl lg)))] H := hP
        have hD : va_D A [(u0, .inr (7, [.int 1, .ref u1, .ref u2, .ref u3, .ref u4, .ref u5, .ref u6, .ref u7, .ref u8, .ref u9, .ref u10])), (u6, .inl (cI, 2, .inl (f_lo z xz))), (u7, .inl (cJ, 128, .inr (.inl lg)))] := hD
        refine lv_iload_n hx hb dMO_log_57 rfl (lv_at hl 0 rfl) ?_
        refine lv_if_eq (tgt := 75) hx hb dMO_log_58 (by decide) (fun c_3 => ?_) (fun c_3 => ?_)
        · refine lv_lconst (v := 0) hx hb dMO_log_75 (by decide) ?_
          exact k_lret hx hb hr hlocks hP hK hD hS rfl dMO_log_76 ⟨Nat.le_of_ble_eq_true rfl, Nat.le_of_ble_eq_true rfl⟩
        · exact absurd (by decide) c_3
      · exact absurd (by decide) c_2
    · exact absurd (f_in1n h1) c_1
  · have e2 : ¬ f_lgR z xz 0 i = 0 := by rw [e1]; decide
    rw [show f_lgW rg xrg z q xz xq 0 i = 0 from if_neg e2, e1]
    refine k_of (cc := cMO_log) (maxL := 4) (ret := (some .long)) (by decide) rfl (Nat.le_of_ble_eq_true rfl) ?_
    intro p e s m below meth c A ls hx hb hr hlocks hml hown hts hA hP hD hK hF hl hS
    have hown : s.vm.findClass RMO = some m.cls := hown
    have hl : lv_has ls 4 [(0, .ref u0), (1, .int 0), (2, .int i)] := hl
    refine lv_iload_n hx hb dMO_log_0 rfl (lv_at hl 1 rfl) ?_
    refine lv_i2l hx hb dMO_log_1 rfl ?_
    refine lv_lconst (v := 0) hx hb dMO_log_2 (by decide) ?_
    refine lv_lconst (v := 1) hx hb dMO_log_3 (by decide) ?_
    refine k_S (wr := [(u0, .inr (7, [.int th, .ref u1, .ref u2, .ref u3, .ref u4, .ref u5, .ref u6, .ref u7, .ref u8, .ref u9, .ref u10])), (u6, .inl (cI, 2, .inl (f_lo z xz))), (u7, .inl (cJ, 128, .inr (.inl lg)))]) (W1 := [(u0, .inr (7, [.int th, .ref u1, .ref u2, .ref u3, .ref u4, .ref u5, .ref u6, .ref u7, .ref u8, .ref u9, .ref u10])), (u6, .inl (cI, 2, .inl (f_lo z xz))), (u7, .inl (cJ, 128, .inr (.inl lg)))]) (st1 := [.int (f_in ((0 : Int32).toInt64) 0 1)]) ⟨hx, hb, hml, hown, hts⟩ (k_MO_in l dC dI cI cJ cG cZ ((0 : Int32).toInt64) 0 1) (va_cwS 3 hts (k_gS m_l_MO_52 m_st_MO_in m_in_MO m_c_MO_in) rfl rfl rfl (by decide +kernel) ⟨Nat.le_of_ble_eq_true rfl, Nat.le_of_ble_eq_true rfl⟩) hK hF hP hD hS hA [] [0, 1, 2] [0, 1, 2] rfl rfl (by decide) (by decide) (by decide) rfl (by decide) rfl hl.1 rfl (Nat.le_of_ble_eq_true rfl) dMO_log_4 ⟨Nat.le_of_ble_eq_true rfl, Nat.le_of_ble_eq_true rfl⟩ rfl (fun H locs hP hD hS => ?_)
    refine lv_if_eq (tgt := 42) hx hb dMO_log_7 (by decide) (fun c_1 => ?_) (fun c_1 => ?_)
    · exact absurd c_1 (show ¬ f_in (0 : Int32).toInt64 0 1 = 0 by decide)
    · refine lv_iload_n hx hb dMO_log_10 rfl (lv_at hl 2 rfl) ?_
      refine lv_if_lt (tgt := 42) hx hb dMO_log_11 (by decide) (fun c_2 => ?_) (fun c_2 => ?_)
      · refine lv_iconst (v := 0) hx hb dMO_log_42 (by decide) ?_
        refine lv_istore_n (lv' := [(3, .int 0), (0, .ref u0), (1, .int 0), (2, .int i)]) hx hb dMO_log_43 rfl hl (by decide) rfl (fun ls hl => ?_)
        refine lv_aload_n hx hb dMO_log_44 rfl (lv_at hl 1 rfl) ?_
        refine lv_iload_n hx hb dMO_log_45 rfl (lv_at hl 0 rfl) ?_
        refine lv_if_eq (tgt := 53) hx hb dMO_log_46 (by decide) (fun c_3 => ?_) (fun c_3 => ?_)
        · refine lv_iconst (v := 1) hx hb dMO_log_53 (by decide) ?_
          refine va_put (D := (dC, dI)) (ci := 7) (v := .int 1) (ty := .int) (C := RMO) (T := TMO) (N := 11) hx hb hts inMO tyMO tyMO_ok nmMO hown hK hP hD hS 0 rfl rfl 0 (by decide) (hts _ m_f_MO_44) (fun _ h9 => h9) rfl (by decide +kernel) rfl rfl (Nat.le_of_ble_eq_true rfl) dMO_log_54 (fun H locs hP hD hS => ?_)
          have hP : va_P (dC, dI) vwCl [(u0, .inr (7, [.int 1, .ref u1, .ref u2, .ref u3, .ref u4, .ref u5, .ref u6, .ref u7, .ref u8, .ref u9, .ref u10])), (u6, .inl (cI, 2, .inl (f_lo z xz))), (u7, .inl (cJ, 128, .inr (.inl lg)))] H := hP
          have hD : va_D A [(u0, .inr (7, [.int 1, .ref u1, .ref u2, .ref u3, .ref u4, .ref u5, .ref u6, .ref u7, .ref u8, .ref u9, .ref u10])), (u6, .inl (cI, 2, .inl (f_lo z xz))), (u7, .inl (cJ, 128, .inr (.inl lg)))] := hD
          refine lv_iload_n hx hb dMO_log_57 rfl (lv_at hl 0 rfl) ?_
          refine lv_if_eq (tgt := 75) hx hb dMO_log_58 (by decide) (fun c_4 => ?_) (fun c_4 => ?_)
          · refine lv_lconst (v := 0) hx hb dMO_log_75 (by decide) ?_
            exact k_lret hx hb hr hlocks hP hK hD hS rfl dMO_log_76 ⟨Nat.le_of_ble_eq_true rfl, Nat.le_of_ble_eq_true rfl⟩
          · exact absurd (by decide) c_4
        · exact absurd (by decide) c_3
      · refine lv_iload_n hx hb dMO_log_14 rfl (lv_at hl 2 rfl) ?_
        refine lv_aload_n hx hb dMO_log_15 rfl (lv_at hl 0 rfl) ?_
        refine va_get (D := (dC, dI)) (ci := 7) (v := .ref u6) (C := RMO) (T := TMO) (N := 11) hx hb hts inMO hown hK hP 0 rfl rfl 6 (by decide) (hts _ m_f_MO_27) (fun _ h9 => h9) rfl dMO_log_16 ?_
        refine lv_iload_n hx hb dMO_log_19 rfl (lv_at hl 1 rfl) ?_
        refine lv_i2l hx hb dMO_log_20 rfl ?_
        refine lv_lconst (v := 0) hx hb dMO_log_21 (by decide) ?_
        refine lv_lconst (v := 1) hx hb dMO_log_22 (by decide) ?_
        refine k_S (wr := [(u0, .inr (7, [.int th, .ref u1, .ref u2, .ref u3, .ref u4, .ref u5, .ref u6, .ref u7, .ref u8, .ref u9, .ref u10])), (u6, .inl (cI, 2, .inl (f_lo z xz))), (u7, .inl (cJ, 128, .inr (.inl lg)))]) (W1 := [(u0, .inr (7, [.int th, .ref u1, .ref u2, .ref u3, .ref u4, .ref u5, .ref u6, .ref u7, .ref u8, .ref u9, .ref u10])), (u6, .inl (cI, 2, .inl (f_lo z xz))), (u7, .inl (cJ, 128, .inr (.inl lg)))]) (st1 := [.int (f_in ((0 : Int32).toInt64) 0 1), .ref u6, .int i]) ⟨hx, hb, hml, hown, hts⟩ (k_MO_in l dC dI cI cJ cG cZ ((0 : Int32).toInt64) 0 1) (va_cwS 3 hts (k_gS m_l_MO_52 m_st_MO_in m_in_MO m_c_MO_in) rfl rfl rfl (by decide +kernel) ⟨Nat.le_of_ble_eq_true rfl, Nat.le_of_ble_eq_true rfl⟩) hK hF hP hD hS hA [] [0, 1, 2] [0, 1, 2] rfl rfl (by decide) (by decide) (by decide) rfl (by decide) rfl hl.1 rfl (Nat.le_of_ble_eq_true rfl) dMO_log_23 ⟨Nat.le_of_ble_eq_true rfl, Nat.le_of_ble_eq_true rfl⟩ rfl (fun H locs hP hD hS => ?_)
        refine lv_if_eq (tgt := 33) hx hb dMO_log_26 (by decide) (fun c_5 => ?_) (fun c_5 => ?_)
        · exact absurd c_5 (show ¬ f_in (0 : Int32).toInt64 0 1 = 0 by decide)
        · refine lv_iload_n hx hb dMO_log_29 rfl (lv_at hl 1 rfl) ?_
          refine lv_goto (tgt := 34) hx hb dMO_log_30 (by decide) ?_
          refine k_ild (v := (f_lo z xz) 0) hx hb hK hP 1 0 rfl rfl (j := 0) (by decide) (by decide) (by decide) rfl dMO_log_34 ?_
          refine k_topi (y := nI z) rfl ?_
          refine lv_icmp_ge (tgt := 42) hx hb dMO_log_35 (by decide) (fun c_6 => ?_) (fun c_6 => ?_)
          · refine lv_iconst (v := 0) hx hb dMO_log_42 (by decide) ?_
            refine lv_istore_n (lv' := [(3, .int 0), (0, .ref u0), (1, .int 0), (2, .int i)]) hx hb dMO_log_43 rfl hl (by decide) rfl (fun ls hl => ?_)
            refine lv_aload_n hx hb dMO_log_44 rfl (lv_at hl 1 rfl) ?_
            refine lv_iload_n hx hb dMO_log_45 rfl (lv_at hl 0 rfl) ?_
            refine lv_if_eq (tgt := 53) hx hb dMO_log_46 (by decide) (fun c_7 => ?_) (fun c_7 => ?_)
            · refine lv_iconst (v := 1) hx hb dMO_log_53 (by decide) ?_
              refine va_put (D := (dC, dI)) (ci := 7) (v := .int 1) (ty := .int) (C := RMO) (T := TMO) (N := 11) hx hb hts inMO tyMO tyMO_ok nmMO hown hK hP hD hS 0 rfl rfl 0 (by decide) (hts _ m_f_MO_44) (fun _ h9 => h9) rfl (by decide +kernel) rfl rfl (Nat.le_of_ble_eq_true rfl) dMO_log_54 (fun H locs hP hD hS => ?_)
              have hP : va_P (dC, dI) vwCl [(u0, .inr (7, [.int 1, .ref u1, .ref u2, .ref u3, .ref u4, .ref u5, .ref u6, .ref u7, .ref u8, .ref u9, .ref u10])), (u6, .inl (cI, 2, .inl (f_lo z xz))), (u7, .inl (cJ, 128, .inr (.inl lg)))] H := hP
              have hD : va_D A [(u0, .inr (7, [.int 1, .ref u1, .ref u2, .ref u3, .ref u4, .ref u5, .ref u6, .ref u7, .ref u8, .ref u9, .ref u10])), (u6, .inl (cI, 2, .inl (f_lo z xz))), (u7, .inl (cJ, 128, .inr (.inl lg)))] := hD
              refine lv_iload_n hx hb dMO_log_57 rfl (lv_at hl 0 rfl) ?_
              refine lv_if_eq (tgt := 75) hx hb dMO_log_58 (by decide) (fun c_8 => ?_) (fun c_8 => ?_)
              · refine lv_lconst (v := 0) hx hb dMO_log_75 (by decide) ?_
                exact k_lret hx hb hr hlocks hP hK hD hS rfl dMO_log_76 ⟨Nat.le_of_ble_eq_true rfl, Nat.le_of_ble_eq_true rfl⟩
              · exact absurd (by decide) c_8
            · exact absurd (by decide) c_7
          · exact (h1.elim (fun h9 => absurd h9 c_2) (fun h9 => absurd (Int32.not_le.mp c_6) h9))
  · have e2 : ¬ f_lgR z xz 1 i = 0 := by rw [e1]; decide
    rw [show f_lgW rg xrg z q xz xq 1 i = 0 from if_neg e2, e1]
    refine k_of (cc := cMO_log) (maxL := 4) (ret := (some .long)) (by decide) rfl (Nat.le_of_ble_eq_true rfl) ?_
    intro p e s m below meth c A ls hx hb hr hlocks hml hown hts hA hP hD hK hF hl hS
    have hown : s.vm.findClass RMO = some m.cls := hown
    have hl : lv_has ls 4 [(0, .ref u0), (1, .int 1), (2, .int i)] := hl
    refine lv_iload_n hx hb dMO_log_0 rfl (lv_at hl 1 rfl) ?_
    refine lv_i2l hx hb dMO_log_1 rfl ?_
    refine lv_lconst (v := 0) hx hb dMO_log_2 (by decide) ?_
    refine lv_lconst (v := 1) hx hb dMO_log_3 (by decide) ?_
    refine k_S (wr := [(u0, .inr (7, [.int th, .ref u1, .ref u2, .ref u3, .ref u4, .ref u5, .ref u6, .ref u7, .ref u8, .ref u9, .ref u10])), (u6, .inl (cI, 2, .inl (f_lo z xz))), (u7, .inl (cJ, 128, .inr (.inl lg)))]) (W1 := [(u0, .inr (7, [.int th, .ref u1, .ref u2, .ref u3, .ref u4, .ref u5, .ref u6, .ref u7, .ref u8, .ref u9, .ref u10])), (u6, .inl (cI, 2, .inl (f_lo z xz))), (u7, .inl (cJ, 128, .inr (.inl lg)))]) (st1 := [.int (f_in ((1 : Int32).toInt64) 0 1)]) ⟨hx, hb, hml, hown, hts⟩ (k_MO_in l dC dI cI cJ cG cZ ((1 : Int32).toInt64) 0 1) (va_cwS 3 hts (k_gS m_l_MO_52 m_st_MO_in m_in_MO m_c_MO_in) rfl rfl rfl (by decide +kernel) ⟨Nat.le_of_ble_eq_true rfl, Nat.le_of_ble_eq_true rfl⟩) hK hF hP hD hS hA [] [0, 1, 2] [0, 1, 2] rfl rfl (by decide) (by decide) (by decide) rfl (by decide) rfl hl.1 rfl (Nat.le_of_ble_eq_true rfl) dMO_log_4 ⟨Nat.le_of_ble_eq_true rfl, Nat.le_of_ble_eq_true rfl⟩ rfl (fun H locs hP hD hS => ?_)
    refine lv_if_eq (tgt := 42) hx hb dMO_log_7 (by decide) (fun c_1 => ?_) (fun c_1 => ?_)
    · exact absurd c_1 (show ¬ f_in (1 : Int32).toInt64 0 1 = 0 by decide)
    · refine lv_iload_n hx hb dMO_log_10 rfl (lv_at hl 2 rfl) ?_
      refine lv_if_lt (tgt := 42) hx hb dMO_log_11 (by decide) (fun c_2 => ?_) (fun c_2 => ?_)
      · refine lv_iconst (v := 0) hx hb dMO_log_42 (by decide) ?_
        refine lv_istore_n (lv' := [(3, .int 0), (0, .ref u0), (1, .int 1), (2, .int i)]) hx hb dMO_log_43 rfl hl (by decide) rfl (fun ls hl => ?_)
        refine lv_aload_n hx hb dMO_log_44 rfl (lv_at hl 1 rfl) ?_
        refine lv_iload_n hx hb dMO_log_45 rfl (lv_at hl 0 rfl) ?_
        refine lv_if_eq (tgt := 53) hx hb dMO_log_46 (by decide) (fun c_3 => ?_) (fun c_3 => ?_)
        · refine lv_iconst (v := 1) hx hb dMO_log_53 (by decide) ?_
          refine va_put (D := (dC, dI)) (ci := 7) (v := .int 1) (ty := .int) (C := RMO) (T := TMO) (N := 11) hx hb hts inMO tyMO tyMO_ok nmMO hown hK hP hD hS 0 rfl rfl 0 (by decide) (hts _ m_f_MO_44) (fun _ h9 => h9) rfl (by decide +kernel) rfl rfl (Nat.le_of_ble_eq_true rfl) dMO_log_54 (fun H locs hP hD hS => ?_)
          have hP : va_P (dC, dI) vwCl [(u0, .inr (7, [.int 1, .ref u1, .ref u2, .ref u3, .ref u4, .ref u5, .ref u6, .ref u7, .ref u8, .ref u9, .ref u10])), (u6, .inl (cI, 2, .inl (f_lo z xz))), (u7, .inl (cJ, 128, .inr (.inl lg)))] H := hP
          have hD : va_D A [(u0, .inr (7, [.int 1, .ref u1, .ref u2, .ref u3, .ref u4, .ref u5, .ref u6, .ref u7, .ref u8, .ref u9, .ref u10])), (u6, .inl (cI, 2, .inl (f_lo z xz))), (u7, .inl (cJ, 128, .inr (.inl lg)))] := hD
          refine lv_iload_n hx hb dMO_log_57 rfl (lv_at hl 0 rfl) ?_
          refine lv_if_eq (tgt := 75) hx hb dMO_log_58 (by decide) (fun c_4 => ?_) (fun c_4 => ?_)
          · refine lv_lconst (v := 0) hx hb dMO_log_75 (by decide) ?_
            exact k_lret hx hb hr hlocks hP hK hD hS rfl dMO_log_76 ⟨Nat.le_of_ble_eq_true rfl, Nat.le_of_ble_eq_true rfl⟩
          · exact absurd (by decide) c_4
        · exact absurd (by decide) c_3
      · refine lv_iload_n hx hb dMO_log_14 rfl (lv_at hl 2 rfl) ?_
        refine lv_aload_n hx hb dMO_log_15 rfl (lv_at hl 0 rfl) ?_
        refine va_get (D := (dC, dI)) (ci := 7) (v := .ref u6) (C := RMO) (T := TMO) (N := 11) hx hb hts inMO hown hK hP 0 rfl rfl 6 (by decide) (hts _ m_f_MO_27) (fun _ h9 => h9) rfl dMO_log_16 ?_
        refine lv_iload_n hx hb dMO_log_19 rfl (lv_at hl 1 rfl) ?_
        refine lv_i2l hx hb dMO_log_20 rfl ?_
        refine lv_lconst (v := 0) hx hb dMO_log_21 (by decide) ?_
        refine lv_lconst (v := 1) hx hb dMO_log_22 (by decide) ?_
        refine k_S (wr := [(u0, .inr (7, [.int th, .ref u1, .ref u2, .ref u3, .ref u4, .ref u5, .ref u6, .ref u7, .ref u8, .ref u9, .ref u10])), (u6, .inl (cI, 2, .inl (f_lo z xz))), (u7, .inl (cJ, 128, .inr (.inl lg)))]) (W1 := [(u0, .inr (7, [.int th, .ref u1, .ref u2, .ref u3, .ref u4, .ref u5, .ref u6, .ref u7, .ref u8, .ref u9, .ref u10])), (u6, .inl (cI, 2, .inl (f_lo z xz))), (u7, .inl (cJ, 128, .inr (.inl lg)))]) (st1 := [.int (f_in ((1 : Int32).toInt64) 0 1), .ref u6, .int i]) ⟨hx, hb, hml, hown, hts⟩ (k_MO_in l dC dI cI cJ cG cZ ((1 : Int32).toInt64) 0 1) (va_cwS 3 hts (k_gS m_l_MO_52 m_st_MO_in m_in_MO m_c_MO_in) rfl rfl rfl (by decide +kernel) ⟨Nat.le_of_ble_eq_true rfl, Nat.le_of_ble_eq_true rfl⟩) hK hF hP hD hS hA [] [0, 1, 2] [0, 1, 2] rfl rfl (by decide) (by decide) (by decide) rfl (by decide) rfl hl.1 rfl (Nat.le_of_ble_eq_true rfl) dMO_log_23 ⟨Nat.le_of_ble_eq_true rfl, Nat.le_of_ble_eq_true rfl⟩ rfl (fun H locs hP hD hS => ?_)
        refine lv_if_eq (tgt := 33) hx hb dMO_log_26 (by decide) (fun c_5 => ?_) (fun c_5 => ?_)
        · exact absurd c_5 (show ¬ f_in (1 : Int32).toInt64 0 1 = 0 by decide)
        · refine lv_iload_n hx hb dMO_log_29 rfl (lv_at hl 1 rfl) ?_
          refine lv_goto (tgt := 34) hx hb dMO_log_30 (by decide) ?_
          refine k_ild (v := (f_lo z xz) 1) hx hb hK hP 1 0 rfl rfl (j := 1) (by decide) (by decide) (by decide) rfl dMO_log_34 ?_
          refine k_topi (y := nI xz) rfl ?_
          refine lv_icmp_ge (tgt := 42) hx hb dMO_log_35 (by decide) (fun c_6 => ?_) (fun c_6 => ?_)
          · refine lv_iconst (v := 0) hx hb dMO_log_42 (by decide) ?_
            refine lv_istore_n (lv' := [(3, .int 0), (0, .ref u0), (1, .int 1), (2, .int i)]) hx hb dMO_log_43 rfl hl (by decide) rfl (fun ls hl => ?_)
            refine lv_aload_n hx hb dMO_log_44 rfl (lv_at hl 1 rfl) ?_
            refine lv_iload_n hx hb dMO_log_45 rfl (lv_at hl 0 rfl) ?_
            refine lv_if_eq (tgt := 53) hx hb dMO_log_46 (by decide) (fun c_7 => ?_) (fun c_7 => ?_)
            · refine lv_iconst (v := 1) hx hb dMO_log_53 (by decide) ?_
              refine va_put (D := (dC, dI)) (ci := 7) (v := .int 1) (ty := .int) (C := RMO) (T := TMO) (N := 11) hx hb hts inMO tyMO tyMO_ok nmMO hown hK hP hD hS 0 rfl rfl 0 (by decide) (hts _ m_f_MO_44) (fun _ h9 => h9) rfl (by decide +kernel) rfl rfl (Nat.le_of_ble_eq_true rfl) dMO_log_54 (fun H locs hP hD hS => ?_)
              have hP : va_P (dC, dI) vwCl [(u0, .inr (7, [.int 1, .ref u1, .ref u2, .ref u3, .ref u4, .ref u5, .ref u6, .ref u7, .ref u8, .ref u9, .ref u10])), (u6, .inl (cI, 2, .inl (f_lo z xz))), (u7, .inl (cJ, 128, .inr (.inl lg)))] H := hP
              have hD : va_D A [(u0, .inr (7, [.int 1, .ref u1, .ref u2, .ref u3, .ref u4, .ref u5, .ref u6, .ref u7, .ref u8, .ref u9, .ref u10])), (u6, .inl (cI, 2, .inl (f_lo z xz))), (u7, .inl (cJ, 128, .inr (.inl lg)))] := hD
              refine lv_iload_n hx hb dMO_log_57 rfl (lv_at hl 0 rfl) ?_
              refine lv_if_eq (tgt := 75) hx hb dMO_log_58 (by decide) (fun c_8 => ?_) (fun c_8 => ?_)
              · refine lv_lconst (v := 0) hx hb dMO_log_75 (by decide) ?_
                exact k_lret hx hb hr hlocks hP hK hD hS rfl dMO_log_76 ⟨Nat.le_of_ble_eq_true rfl, Nat.le_of_ble_eq_true rfl⟩
              · exact absurd (by decide) c_8
            · exact absurd (by decide) c_7
          · exact (h1.elim (fun h9 => absurd h9 c_2) (fun h9 => absurd (Int32.not_le.mp c_6) h9))
  · rw [show f_lgW rg xrg z q xz xq 0 (nI j) = rg (f_ix q z j) by unfold f_lgW f_lgV; rw [if_pos e1, if_pos (by decide), nI_clamp (by omega)], e1]
    refine k_of (cc := cMO_log) (maxL := 4) (ret := (some .long)) (by decide) rfl (Nat.le_of_ble_eq_true rfl) ?_
    intro p e s m below meth c A ls hx hb hr hlocks hml hown hts hA hP hD hK hF hl hS
    have hown : s.vm.findClass RMO = some m.cls := hown
    have hl : lv_has ls 4 [(0, .ref u0), (1, .int 0), (2, .int (nI j))] := hl
    refine lv_iload_n hx hb dMO_log_0 rfl (lv_at hl 1 rfl) ?_
    refine lv_i2l hx hb dMO_log_1 rfl ?_
    refine lv_lconst (v := 0) hx hb dMO_log_2 (by decide) ?_
    refine lv_lconst (v := 1) hx hb dMO_log_3 (by decide) ?_
    refine k_S (wr := [(u0, .inr (7, [.int th, .ref u1, .ref u2, .ref u3, .ref u4, .ref u5, .ref u6, .ref u7, .ref u8, .ref u9, .ref u10])), (u6, .inl (cI, 2, .inl (f_lo z xz))), (u7, .inl (cJ, 128, .inr (.inl lg)))]) (W1 := [(u0, .inr (7, [.int th, .ref u1, .ref u2, .ref u3, .ref u4, .ref u5, .ref u6, .ref u7, .ref u8, .ref u9, .ref u10])), (u6, .inl (cI, 2, .inl (f_lo z xz))), (u7, .inl (cJ, 128, .inr (.inl lg)))]) (st1 := [.int (f_in ((0 : Int32).toInt64) 0 1)]) ⟨hx, hb, hml, hown, hts⟩ (k_MO_in l dC dI cI cJ cG cZ ((0 : Int32).toInt64) 0 1) (va_cwS 3 hts (k_gS m_l_MO_52 m_st_MO_in m_in_MO m_c_MO_in) rfl rfl rfl (by decide +kernel) ⟨Nat.le_of_ble_eq_true rfl, Nat.le_of_ble_eq_true rfl⟩) hK hF hP hD hS hA [] [0, 1, 2] [0, 1, 2] rfl rfl (by decide) (by decide) (by decide) rfl (by decide) rfl hl.1 rfl (Nat.le_of_ble_eq_true rfl) dMO_log_4 ⟨Nat.le_of_ble_eq_true rfl, Nat.le_of_ble_eq_true rfl⟩ rfl (fun H locs hP hD hS => ?_)
    refine lv_if_eq (tgt := 42) hx hb dMO_log_7 (by decide) (fun c_1 => ?_) (fun c_1 => ?_)
    · exact absurd c_1 (show ¬ f_in (0 : Int32).toInt64 0 1 = 0 by decide)
    · refine lv_iload_n hx hb dMO_log_10 rfl (lv_at hl 2 rfl) ?_
      refine lv_if_lt (tgt := 42) hx hb dMO_log_11 (by decide) (fun c_2 => ?_) (fun c_2 => ?_)
      · exact absurd c_2 (f_nn (by omega))
      · refine lv_iload_n hx hb dMO_log_14 rfl (lv_at hl 2 rfl) ?_
        refine lv_aload_n hx hb dMO_log_15 rfl (lv_at hl 0 rfl) ?_
        refine va_get (D := (dC, dI)) (ci := 7) (v := .ref u6) (C := RMO) (T := TMO) (N := 11) hx hb hts inMO hown hK hP 0 rfl rfl 6 (by decide) (hts _ m_f_MO_27) (fun _ h9 => h9) rfl dMO_log_16 ?_
        refine lv_iload_n hx hb dMO_log_19 rfl (lv_at hl 1 rfl) ?_
        refine lv_i2l hx hb dMO_log_20 rfl ?_
        refine lv_lconst (v := 0) hx hb dMO_log_21 (by decide) ?_
        refine lv_lconst (v := 1) hx hb dMO_log_22 (by decide) ?_
        refine k_S (wr := [(u0, .inr (7, [.int th, .ref u1, .ref u2, .ref u3, .ref u4, .ref u5, .ref u6, .ref u7, .ref u8, .ref u9, .ref u10])), (u6, .inl (cI, 2, .inl (f_lo z xz))), (u7, .inl (cJ, 128, .inr (.inl lg)))]) (W1 := [(u0, .inr (7, [.int th, .ref u1, .ref u2, .ref u3, .ref u4, .ref u5, .ref u6, .ref u7, .ref u8, .ref u9, .ref u10])), (u6, .inl (cI, 2, .inl (f_lo z xz))), (u7, .inl (cJ, 128, .inr (.inl lg)))]) (st1 := [.int (f_in ((0 : Int32).toInt64) 0 1), .ref u6, .int (nI j)]) ⟨hx, hb, hml, hown, hts⟩ (k_MO_in l dC dI cI cJ cG cZ ((0 : Int32).toInt64) 0 1) (va_cwS 3 hts (k_gS m_l_MO_52 m_st_MO_in m_in_MO m_c_MO_in) rfl rfl rfl (by decide +kernel) ⟨Nat.le_of_ble_eq_true rfl, Nat.le_of_ble_eq_true rfl⟩) hK hF hP hD hS hA [] [0, 1, 2] [0, 1, 2] rfl rfl (by decide) (by decide) (by decide) rfl (by decide) rfl hl.1 rfl (Nat.le_of_ble_eq_true rfl) dMO_log_23 ⟨Nat.le_of_ble_eq_true rfl, Nat.le_of_ble_eq_true rfl⟩ rfl (fun H locs hP hD hS => ?_)
        refine lv_if_eq (tgt := 33) hx hb dMO_log_26 (by decide) (fun c_3 => ?_) (fun c_3 => ?_)
        · exact absurd c_3 (show ¬ f_in (0 : Int32).toInt64 0 1 = 0 by decide)
        · refine lv_iload_n hx hb dMO_log_29 rfl (lv_at hl 1 rfl) ?_
          refine lv_goto (tgt := 34) hx hb dMO_log_30 (by decide) ?_
          refine k_ild (v := (f_lo z xz) 0) hx hb hK hP 1 0 rfl rfl (j := 0) (by decide) (by decide) (by decide) rfl dMO_log_34 ?_
          refine k_topi (y := nI z) rfl ?_
          refine lv_icmp_ge (tgt := 42) hx hb dMO_log_35 (by decide) (fun c_4 => ?_) (fun c_4 => ?_)
          · exact absurd (nI_lt hj (by omega)) (Int32.not_lt.mpr c_4)
          · refine lv_iconst (v := 1) hx hb dMO_log_38 (by decide) ?_
            refine lv_goto (tgt := 43) hx hb dMO_log_39 (by decide) ?_
            refine lv_istore_n (lv' := [(3, .int 1), (0, .ref u0), (1, .int 0), (2, .int (nI j))]) hx hb dMO_log_43 rfl hl (by decide) rfl (fun ls hl => ?_)
            refine lv_aload_n hx hb dMO_log_44 rfl (lv_at hl 1 rfl) ?_
            refine lv_iload_n hx hb dMO_log_45 rfl (lv_at hl 0 rfl) ?_
            refine lv_if_eq (tgt := 53) hx hb dMO_log_46 (by decide) (fun c_5 => ?_) (fun c_5 => ?_)
            · exact absurd c_5 (by decide)
            · refine lv_iconst (v := 0) hx hb dMO_log_49 (by decide) ?_
              refine lv_goto (tgt := 54) hx hb dMO_log_50 (by decide) ?_
              refine va_put (D := (dC, dI)) (ci := 7) (v := .int 0) (ty := .int) (C := RMO) (T := TMO) (N := 11) hx hb hts inMO tyMO tyMO_ok nmMO hown hK hP hD hS 0 rfl rfl 0 (by decide) (hts _ m_f_MO_44) (fun _ h9 => h9) rfl (by decide +kernel) rfl rfl (Nat.le_of_ble_eq_true rfl) dMO_log_54 (fun H locs hP hD hS => ?_)
              have hP : va_P (dC, dI) vwCl [(u0, .inr (7, [.int 0, .ref u1, .ref u2, .ref u3, .ref u4, .ref u5, .ref u6, .ref u7, .ref u8, .ref u9, .ref u10])), (u6, .inl (cI, 2, .inl (f_lo z xz))), (u7, .inl (cJ, 128, .inr (.inl lg)))] H := hP
              have hD : va_D A [(u0, .inr (7, [.int 0, .ref u1, .ref u2, .ref u3, .ref u4, .ref u5, .ref u6, .ref u7, .ref u8, .ref u9, .ref u10])), (u6, .inl (cI, 2, .inl (f_lo z xz))), (u7, .inl (cJ, 128, .inr (.inl lg)))] := hD
              refine lv_iload_n hx hb dMO_log_57 rfl (lv_at hl 0 rfl) ?_
              refine lv_if_eq (tgt := 75) hx hb dMO_log_58 (by decide) (fun c_6 => ?_) (fun c_6 => ?_)
              · exact absurd c_6 (by decide)
              · refine lv_aload_n hx hb dMO_log_61 rfl (lv_at hl 1 rfl) ?_
                refine va_get (D := (dC, dI)) (ci := 7) (v := .ref u7) (C := RMO) (T := TMO) (N := 11) hx hb hts inMO hown hK hP 0 rfl rfl 7 (by decide) (hts _ m_f_MO_30) (fun _ h9 => h9) rfl dMO_log_62 ?_
                refine lv_bipush (v := 64) hx hb dMO_log_65 (by decide) ?_
                refine lv_iload_n hx hb dMO_log_67 rfl (lv_at hl 2 rfl) ?_
                refine lv_imul hx hb dMO_log_68 ?_
                refine lv_iload_n hx hb dMO_log_69 rfl (lv_at hl 3 rfl) ?_
                refine lv_iadd hx hb dMO_log_70 ?_
                refine k_lld (v := lg j) hx hb hK hP 2 1 rfl rfl (j := j) (f_64a j) (by omega) (by decide) rfl dMO_log_71 ?_
                refine lv_goto (tgt := 76) hx hb dMO_log_72 (by decide) ?_
                exact k_lret hx hb hr hlocks hP hK hD hS (hlg j hj) dMO_log_76 ⟨Nat.le_of_ble_eq_true rfl, Nat.le_of_ble_eq_true rfl⟩
  · rw [show f_lgW rg xrg z q xz xq 1 (nI j) = xrg (f_ix xq xz j) by unfold f_lgW f_lgV; rw [if_pos e1, if_neg (by decide), nI_clamp (by omega)], e1]
    refine k_of (cc := cMO_log) (maxL := 4) (ret := (some .long)) (by decide) rfl (Nat.le_of_ble_eq_true rfl) ?_
    intro p e s m below meth c A ls hx hb hr hlocks hml hown hts hA hP hD hK hF hl hS
    have hown : s.vm.findClass RMO = some m.cls := hown
    have hl : lv_has ls 4 [(0, .ref u0), (1, .int 1), (2, .int (nI j))] := hl
    refine lv_iload_n hx hb dMO_log_0 rfl (lv_at hl 1 rfl) ?_
    refine lv_i2l hx hb dMO_log_1 rfl ?_
    refine lv_lconst (v := 0) hx hb dMO_log_2 (by decide) ?_
    refine lv_lconst (v := 1) hx hb dMO_log_3 (by decide) ?_
    refine k_S (wr := [(u0, .inr (7, [.int th, .ref u1, .ref u2, .ref u3, .ref u4, .ref u5, .ref u6, .ref u7, .ref u8, .ref u9, .ref u10])), (u6, .inl (cI, 2, .inl (f_lo z xz))), (u7, .inl (cJ, 128, .inr (.inl lg)))]) (W1 := [(u0, .inr (7, [.int th, .ref u1, .ref u2, .ref u3, .ref u4, .ref u5, .ref u6, .ref u7, .ref u8, .ref u9, .ref u10])), (u6, .inl (cI, 2, .inl (f_lo z xz))), (u7, .inl (cJ, 128, .inr (.inl lg)))]) (st1 := [.int (f_in ((1 : Int32).toInt64) 0 1)]) ⟨hx, hb, hml, hown, hts⟩ (k_MO_in l dC dI cI cJ cG cZ ((1 : Int32).toInt64) 0 1) (va_cwS 3 hts (k_gS m_l_MO_52 m_st_MO_in m_in_MO m_c_MO_in) rfl rfl rfl (by decide +kernel) ⟨Nat.le_of_ble_eq_true rfl, Nat.le_of_ble_eq_true rfl⟩) hK hF hP hD hS hA [] [0, 1, 2] [0, 1, 2] rfl rfl (by decide) (by decide) (by decide) rfl (by decide) rfl hl.1 rfl (Nat.le_of_ble_eq_true rfl) dMO_log_4 ⟨Nat.le_of_ble_eq_true rfl, Nat.le_of_ble_eq_true rfl⟩ rfl (fun H locs hP hD hS => ?_)
    refine lv_if_eq (tgt := 42) hx hb dMO_log_7 (by decide) (fun c_1 => ?_) (fun c_1 => ?_)
    · exact absurd c_1 (show ¬ f_in (1 : Int32).toInt64 0 1 = 0 by decide)
    · refine lv_iload_n hx hb dMO_log_10 rfl (lv_at hl 2 rfl) ?_
      refine lv_if_lt (tgt := 42) hx hb dMO_log_11 (by decide) (fun c_2 => ?_) (fun c_2 => ?_)
      · exact absurd c_2 (f_nn (by omega))
      · refine lv_iload_n hx hb dMO_log_14 rfl (lv_at hl 2 rfl) ?_
        refine lv_aload_n hx hb dMO_log_15 rfl (lv_at hl 0 rfl) ?_
        refine va_get (D := (dC, dI)) (ci := 7) (v := .ref u6) (C := RMO) (T := TMO) (N := 11) hx hb hts inMO hown hK hP 0 rfl rfl 6 (by decide) (hts _ m_f_MO_27) (fun _ h9 => h9) rfl dMO_log_16 ?_
        refine lv_iload_n hx hb dMO_log_19 rfl (lv_at hl 1 rfl) ?_
        refine lv_i2l hx hb dMO_log_20 rfl ?_
        refine lv_lconst (v := 0) hx hb dMO_log_21 (by decide) ?_
        refine lv_lconst (v := 1) hx hb dMO_log_22 (by decide) ?_
        refine k_S (wr := [(u0, .inr (7, [.int th, .ref u1, .ref u2, .ref u3, .ref u4, .ref u5, .ref u6, .ref u7, .ref u8, .ref u9, .ref u10])), (u6, .inl (cI, 2, .inl (f_lo z xz))), (u7, .inl (cJ, 128, .inr (.inl lg)))]) (W1 := [(u0, .inr (7, [.int th, .ref u1, .ref u2, .ref u3, .ref u4, .ref u5, .ref u6, .ref u7, .ref u8, .ref u9, .ref u10])), (u6, .inl (cI, 2, .inl (f_lo z xz))), (u7, .inl (cJ, 128, .inr (.inl lg)))]) (st1 := [.int (f_in ((1 : Int32).toInt64) 0 1), .ref u6, .int (nI j)]) ⟨hx, hb, hml, hown, hts⟩ (k_MO_in l dC dI cI cJ cG cZ ((1 : Int32).toInt64) 0 1) (va_cwS 3 hts (k_gS m_l_MO_52 m_st_MO_in m_in_MO m_c_MO_in) rfl rfl rfl (by decide +kernel) ⟨Nat.le_of_ble_eq_true rfl, Nat.le_of_ble_eq_true rfl⟩) hK hF hP hD hS hA [] [0, 1, 2] [0, 1, 2] rfl rfl (by decide) (by decide) (by decide) rfl (by decide) rfl hl.1 rfl (Nat.le_of_ble_eq_true rfl) dMO_log_23 ⟨Nat.le_of_ble_eq_true rfl, Nat.le_of_ble_eq_true rfl⟩ rfl (fun H locs hP hD hS => ?_)
        refine lv_if_eq (tgt := 33) hx hb dMO_log_26 (by decide) (fun c_3 => ?_) (fun c_3 => ?_)
        · exact absurd c_3 (show ¬ f_in (1 : Int32).toInt64 0 1 = 0 by decide)
        · refine lv_iload_n hx hb dMO_log_29 rfl (lv_at hl 1 rfl) ?_
          refine lv_goto (tgt := 34) hx hb dMO_log_30 (by decide) ?_
          refine k_ild (v := (f_lo z xz) 1) hx hb hK hP 1 0 rfl rfl (j := 1) (by decide) (by decide) (by decide) rfl dMO_log_34 ?_
          refine k_topi (y := nI xz) rfl ?_
          refine lv_icmp_ge (tgt := 42) hx hb dMO_log_35 (by decide) (fun c_4 => ?_) (fun c_4 => ?_)
          · exact absurd (nI_lt hj (by omega)) (Int32.not_lt.mpr c_4)
          · refine lv_iconst (v := 1) hx hb dMO_log_38 (by decide) ?_
            refine lv_goto (tgt := 43) hx hb dMO_log_39 (by decide) ?_
            refine lv_istore_n (lv' := [(3, .int 1), (0, .ref u0), (1, .int 1), (2, .int (nI j))]) hx hb dMO_log_43 rfl hl (by decide) rfl (fun ls hl => ?_)
            refine lv_aload_n hx hb dMO_log_44 rfl (lv_at hl 1 rfl) ?_
            refine lv_iload_n hx hb dMO_log_45 rfl (lv_at hl 0 rfl) ?_
            refine lv_if_eq (tgt := 53) hx hb dMO_log_46 (by decide) (fun c_5 => ?_) (fun c_5 => ?_)
            · exact absurd c_5 (by decide)
            · refine lv_iconst (v := 0) hx hb dMO_log_49 (by decide) ?_
              refine lv_goto (tgt := 54) hx hb dMO_log_50 (by decide) ?_
              refine va_put (D := (dC, dI)) (ci := 7) (v := .int 0) (ty := .int) (C := RMO) (T := TMO) (N := 11) hx hb hts inMO tyMO tyMO_ok nmMO hown hK hP hD hS 0 rfl rfl 0 (by decide) (hts _ m_f_MO_44) (fun _ h9 => h9) rfl (by decide +kernel) rfl rfl (Nat.le_of_ble_eq_true rfl) dMO_log_54 (fun H locs hP hD hS => ?_)
              have hP : va_P (dC, dI) vwCl [(u0, .inr (7, [.int 0, .ref u1, .ref u2, .ref u3, .ref u4, .ref u5, .ref u6, .ref u7, .ref u8, .ref u9, .ref u10])), (u6, .inl (cI, 2, .inl (f_lo z xz))), (u7, .inl (cJ, 128, .inr (.inl lg)))] H := hP
              have hD : va_D A [(u0, .inr (7, [.int 0, .ref u1, .ref u2, .ref u3, .ref u4, .ref u5, .ref u6, .ref u7, .ref u8, .ref u9, .ref u10])), (u6, .inl (cI, 2, .inl (f_lo z xz))), (u7, .inl (cJ, 128, .inr (.inl lg)))] := hD
              refine lv_iload_n hx hb dMO_log_57 rfl (lv_at hl 0 rfl) ?_
              refine lv_if_eq (tgt := 75) hx hb dMO_log_58 (by decide) (fun c_6 => ?_) (fun c_6 => ?_)
              · exact absurd c_6 (by decide)
              · refine lv_aload_n hx hb dMO_log_61 rfl (lv_at hl 1 rfl) ?_
                refine va_get (D := (dC, dI)) (ci := 7) (v := .ref u7) (C := RMO) (T := TMO) (N := 11) hx hb hts inMO hown hK hP 0 rfl rfl 7 (by decide) (hts _ m_f_MO_30) (fun _ h9 => h9) rfl dMO_log_62 ?_
                refine lv_bipush (v := 64) hx hb dMO_log_65 (by decide) ?_
                refine lv_iload_n hx hb dMO_log_67 rfl (lv_at hl 2 rfl) ?_
                refine lv_imul hx hb dMO_log_68 ?_
                refine lv_iload_n hx hb dMO_log_69 rfl (lv_at hl 3 rfl) ?_
                refine lv_iadd hx hb dMO_log_70 ?_
                refine k_lld (v := lg (64 + j)) hx hb hK hP 2 1 rfl rfl (j := (64 + j)) (f_64b j) (by omega) (by decide) rfl dMO_log_71 ?_
                refine lv_goto (tgt := 76) hx hb dMO_log_72 (by decide) ?_
                exact k_lret hx hb hr hlocks hP hK hD hS (hlx j hj) dMO_log_76 ⟨Nat.le_of_ble_eq_true rfl, Nat.le_of_ble_eq_true rfl⟩

abbrev rm_MO_sum : Room := { frames := 1, cells := 0, slots := 0, locals := 25 }
set_option maxHeartbeats 4000000 in
set_option maxRecDepth 100000 in
theorem k_MO_sum (l : Launch) (dC : Nat → ClassId) (dI : Nat → Nat → Nat) (cI cJ cG cZ : ClassId) (u0 : Nat) (u1 : Nat) (u2 : Nat) (u3 : Nat) (u4 : Nat) (u5 : Nat) (u6 : Nat) (u7 : Nat) (u8 : Nat) (u9 : Nat) (u10 : Nat) (th : Int32) (sm : Nat → Int64) (xsm : Nat → Int64) (x : Int32) (y : Int32) : k_M l yMO_sum wsMO_sum rm_MO_sum (dC, dI) vwCl [(cI, .int), (cJ, .long), (cG, .array .long), (cZ, .boolean)] [.ref u0, .int x, .int y] [(u0, .inr (7, [.int th, .ref u1, .ref u2, .ref u3, .ref u4, .ref u5, .ref u6, .ref u7, .ref u8, .ref u9, .ref u10])), (u5, .inl (cJ, 24, .inr (.inl (f_twoL 12 sm xsm))))] (some (.long (f_smW sm xsm x y))) [(u0, .inr (7, [.int (f_smR x y), .ref u1, .ref u2, .ref u3, .ref u4, .ref u5, .ref u6, .ref u7, .ref u8, .ref u9, .ref u10])), (u5, .inl (cJ, 24, .inr (.inl (f_twoL 12 sm xsm))))] := by
  rcases f_sms x y with ⟨e1, h1⟩ | ⟨rfl, k, hk, rfl, e1⟩ | ⟨rfl, k, hk, rfl, e1⟩
  · have e2 : ¬ f_smR x y = 0 := by rw [e1]; decide
    rw [show f_smW sm xsm x y = 0 from if_neg e2, e1]
    refine k_of (cc := cMO_sum) (maxL := 4) (ret := (some .long)) (by decide) rfl (Nat.le_of_ble_eq_true rfl) ?_
    intro p e s m below meth c A ls hx hb hr hlocks hml hown hts hA hP hD hK hF hl hS
    have hown : s.vm.findClass RMO = some m.cls := hown
    have hl : lv_has ls 4 [(0, .ref u0), (1, .int x), (2, .int y)] := hl
    refine lv_iload_n hx hb dMO_sum_0 rfl (lv_at hl 1 rfl) ?_
    refine lv_i2l hx hb dMO_sum_1 rfl ?_
    refine lv_lconst (v := 0) hx hb dMO_sum_2 (by decide) ?_
    refine lv_lconst (v := 1) hx hb dMO_sum_3 (by decide) ?_
    refine k_S (wr := [(u0, .inr (7, [.int th, .ref u1, .ref u2, .ref u3, .ref u4, .ref u5, .ref u6, .ref u7, .ref u8, .ref u9, .ref u10])), (u5, .inl (cJ, 24, .inr (.inl (f_twoL 12 sm xsm))))]) (W1 := [(u0, .inr (7, [.int th, .ref u1, .ref u2, .ref u3, .ref u4, .ref u5, .ref u6, .ref u7, .ref u8, .ref u9, .ref u10])), (u5, .inl (cJ, 24, .inr (.inl (f_twoL 12 sm xsm))))]) (st1 := [.int (f_in x.toInt64 0 1)]) ⟨hx, hb, hml, hown, hts⟩ (k_MO_in l dC dI cI cJ cG cZ x.toInt64 0 1) (va_cwS 3 hts (k_gS m_l_MO_52 m_st_MO_in m_in_MO m_c_MO_in) rfl rfl rfl (by decide +kernel) ⟨Nat.le_of_ble_eq_true rfl, Nat.le_of_ble_eq_true rfl⟩) hK hF hP hD hS hA [] [0, 1] [0, 1] rfl rfl (by decide) (by decide) (by decide) rfl (by decide) rfl hl.1 rfl (Nat.le_of_ble_eq_true rfl) dMO_sum_4 ⟨Nat.le_of_ble_eq_true rfl, Nat.le_of_ble_eq_true rfl⟩ rfl (fun H locs hP hD hS => ?_)
    refine lv_if_eq (tgt := 21) hx hb dMO_sum_7 (by decide) (fun c_1 => ?_) (fun c_1 => ?_)
    · refine lv_iconst (v := 0) hx hb dMO_sum_21 (by decide) ?_
      refine lv_istore_n (lv' := [(3, .int 0), (0, .ref u0), (1, .int x), (2, .int y)]) hx hb dMO_sum_22 rfl hl (by decide) rfl (fun ls hl => ?_)
      refine lv_aload_n hx hb dMO_sum_23 rfl (lv_at hl 1 rfl) ?_
      refine lv_iload_n hx hb dMO_sum_24 rfl (lv_at hl 0 rfl) ?_
      refine lv_if_eq (tgt := 32) hx hb dMO_sum_25 (by decide) (fun c_2 => ?_) (fun c_2 => ?_)
      · refine lv_iconst (v := 1) hx hb dMO_sum_32 (by decide) ?_
        refine va_put (D := (dC, dI)) (ci := 7) (v := .int 1) (ty := .int) (C := RMO) (T := TMO) (N := 11) hx hb hts inMO tyMO tyMO_ok nmMO hown hK hP hD hS 0 rfl rfl 0 (by decide) (hts _ m_f_MO_44) (fun _ h9 => h9) rfl (by decide +kernel) rfl rfl (Nat.le_of_ble_eq_true rfl) dMO_sum_33 (fun H locs hP hD hS => ?_)
        have hP : va_P (dC, dI) vwCl [(u0, .inr (7, [.int 1, .ref u1, .ref u2, .ref u3, .ref u4, .ref u5, .ref u6, .ref u7, .ref u8, .ref u9, .ref u10])), (u5, .inl (cJ, 24, .inr (.inl (f_twoL 12 sm xsm))))] H := hP
        have hD : va_D A [(u0, .inr (7, [.int 1, .ref u1, .ref u2, .ref u3, .ref u4, .ref u5, .ref u6, .ref u7, .ref u8, .ref u9, .ref u10])), (u5, .inl (cJ, 24, .inr (.inl (f_twoL 12 sm xsm))))] := hD
        refine lv_iload_n hx hb dMO_sum_36 rfl (lv_at hl 0 rfl) ?_
        refine lv_if_eq (tgt := 54) hx hb dMO_sum_37 (by decide) (fun c_3 => ?_) (fun c_3 => ?_)
        · refine lv_lconst (v := 0) hx hb dMO_sum_54 (by decide) ?_
          exact k_lret hx hb hr hlocks hP hK hD hS rfl dMO_sum_55 ⟨Nat.le_of_ble_eq_true rfl, Nat.le_of_ble_eq_true rfl⟩
        · exact absurd (by decide) c_3
      · exact absurd (by decide) c_2
    · refine lv_iload_n hx hb dMO_sum_10 rfl (lv_at hl 2 rfl) ?_
      refine k_S (wr := [(u0, .inr (7, [.int th, .ref u1, .ref u2, .ref u3, .ref u4, .ref u5, .ref u6, .ref u7, .ref u8, .ref u9, .ref u10])), (u5, .inl (cJ, 24, .inr (.inl (f_twoL 12 sm xsm))))]) (W1 := [(u0, .inr (7, [.int th, .ref u1, .ref u2, .ref u3, .ref u4, .ref u5, .ref u6, .ref u7, .ref u8, .ref u9, .ref u10])), (u5, .inl (cJ, 24, .inr (.inl (f_twoL 12 sm xsm))))]) (st1 := [.int (f_isPart y)]) ⟨hx, hb, hml, hown, hts⟩ (k_MO_isPart l dC dI cI cJ cG cZ y) (va_cwS 1 hts (k_gS m_l_MO_66 m_st_MO_isPart m_in_MO m_c_MO_isPart) rfl rfl rfl (by decide +kernel) ⟨Nat.le_of_ble_eq_true rfl, Nat.le_of_ble_eq_true rfl⟩) hK hF hP hD hS hA [] [0, 1] [0, 1] rfl rfl (by decide) (by decide) (by decide) rfl (by decide) rfl hl.1 rfl (Nat.le_of_ble_eq_true rfl) dMO_sum_11 ⟨Nat.le_of_ble_eq_true rfl, Nat.le_of_ble_eq_true rfl⟩ rfl (fun H locs hP hD hS => ?_)
      refine lv_if_eq (tgt := 21) hx hb dMO_sum_14 (by decide) (fun c_4 => ?_) (fun c_4 => ?_)
      · refine lv_iconst (v := 0) hx hb dMO_sum_21 (by decide) ?_
        refine lv_istore_n (lv' := [(3, .int 0), (0, .ref u0), (1, .int x), (2, .int y)]) hx hb dMO_sum_22 rfl hl (by decide) rfl (fun ls hl => ?_)
        refine lv_aload_n hx hb dMO_sum_23 rfl (lv_at hl 1 rfl) ?_
        refine lv_iload_n hx hb dMO_sum_24 rfl (lv_at hl 0 rfl) ?_
        refine lv_if_eq (tgt := 32) hx hb dMO_sum_25 (by decide) (fun c_5 => ?_) (fun c_5 => ?_)
        · refine lv_iconst (v := 1) hx hb dMO_sum_32 (by decide) ?_
          refine va_put (D := (dC, dI)) (ci := 7) (v := .int 1) (ty := .int) (C := RMO) (T := TMO) (N := 11) hx hb hts inMO tyMO tyMO_ok nmMO hown hK hP hD hS 0 rfl rfl 0 (by decide) (hts _ m_f_MO_44) (fun _ h9 => h9) rfl (by decide +kernel) rfl rfl (Nat.le_of_ble_eq_true rfl) dMO_sum_33 (fun H locs hP hD hS => ?_)
          have hP : va_P (dC, dI) vwCl [(u0, .inr (7, [.int 1, .ref u1, .ref u2, .ref u3, .ref u4, .ref u5, .ref u6, .ref u7, .ref u8, .ref u9, .ref u10])), (u5, .inl (cJ, 24, .inr (.inl (f_twoL 12 sm xsm))))] H := hP
          have hD : va_D A [(u0, .inr (7, [.int 1, .ref u1, .ref u2, .ref u3, .ref u4, .ref u5, .ref u6, .ref u7, .ref u8, .ref u9, .ref u10])), (u5, .inl (cJ, 24, .inr (.inl (f_twoL 12 sm xsm))))] := hD
          refine lv_iload_n hx hb dMO_sum_36 rfl (lv_at hl 0 rfl) ?_
          refine lv_if_eq (tgt := 54) hx hb dMO_sum_37 (by decide) (fun c_6 => ?_) (fun c_6 => ?_)
          · refine lv_lconst (v := 0) hx hb dMO_sum_54 (by decide) ?_
            exact k_lret hx hb hr hlocks hP hK hD hS rfl dMO_sum_55 ⟨Nat.le_of_ble_eq_true rfl, Nat.le_of_ble_eq_true rfl⟩
          · exact absurd (by decide) c_6
        · exact absurd (by decide) c_5
      · exact (h1.elim (fun h9 => absurd (f_in1n h9) c_1) (fun h9 => absurd h9 c_4))
  · rw [show f_smW sm xsm 0 (nI k) = sm k by unfold f_smW f_smV; rw [if_pos e1, if_pos (by decide), nI_clamp (by omega)], e1]
    refine k_of (cc := cMO_sum) (maxL := 4) (ret := (some .long)) (by decide) rfl (Nat.le_of_ble_eq_true rfl) ?_
    intro p e s m below meth c A ls hx hb hr hlocks hml hown hts hA hP hD hK hF hl hS
    have hown : s.vm.findClass RMO = some m.cls := hown
    have hl : lv_has ls 4 [(0, .ref u0), (1, .int 0), (2, .int (nI k))] := hl
    refine lv_iload_n hx hb dMO_sum_0 rfl (lv_at hl 1 rfl) ?_
    refine lv_i2l hx hb dMO_sum_1 rfl ?_
    refine lv_lconst (v := 0) hx hb dMO_sum_2 (by decide) ?_
    refine lv_lconst (v := 1) hx hb dMO_sum_3 (by decide) ?_
    refine k_S (wr := [(u0, .inr (7, [.int th, .ref u1, .ref u2, .ref u3, .ref u4, .ref u5, .ref u6, .ref u7, .ref u8, .ref u9, .ref u10])), (u5, .inl (cJ, 24, .inr (.inl (f_twoL 12 sm xsm))))]) (W1 := [(u0, .inr (7, [.int th, .ref u1, .ref u2, .ref u3, .ref u4, .ref u5, .ref u6, .ref u7, .ref u8, .ref u9, .ref u10])), (u5, .inl (cJ, 24, .inr (.inl (f_twoL 12 sm xsm))))]) (st1 := [.int (f_in ((0 : Int32).toInt64) 0 1)]) ⟨hx, hb, hml, hown, hts⟩ (k_MO_in l dC dI cI cJ cG cZ ((0 : Int32).toInt64) 0 1) (va_cwS 3 hts (k_gS m_l_MO_52 m_st_MO_in m_in_MO m_c_MO_in) rfl rfl rfl (by decide +kernel) ⟨Nat.le_of_ble_eq_true rfl, Nat.le_of_ble_eq_true rfl⟩) hK hF hP hD hS hA [] [0, 1] [0, 1] rfl rfl (by decide) (by decide) (by decide) rfl (by decide) rfl hl.1 rfl (Nat.le_of_ble_eq_true rfl) dMO_sum_4 ⟨Nat.le_of_ble_eq_true rfl, Nat.le_of_ble_eq_true rfl⟩ rfl (fun H locs hP hD hS => ?_)
    refine lv_if_eq (tgt := 21) hx hb dMO_sum_7 (by decide) (fun c_1 => ?_) (fun c_1 => ?_)
    · exact absurd c_1 (show ¬ f_in (0 : Int32).toInt64 0 1 = 0 by decide)
    · refine lv_iload_n hx hb dMO_sum_10 rfl (lv_at hl 2 rfl) ?_
      refine k_S (wr := [(u0, .inr (7, [.int th, .ref u1, .ref u2, .ref u3, .ref u4, .ref u5, .ref u6, .ref u7, .ref u8, .ref u9, .ref u10])), (u5, .inl (cJ, 24, .inr (.inl (f_twoL 12 sm xsm))))]) (W1 := [(u0, .inr (7, [.int th, .ref u1, .ref u2, .ref u3, .ref u4, .ref u5, .ref u6, .ref u7, .ref u8, .ref u9, .ref u10])), (u5, .inl (cJ, 24, .inr (.inl (f_twoL 12 sm xsm))))]) (st1 := [.int (f_isPart (nI k))]) ⟨hx, hb, hml, hown, hts⟩ (k_MO_isPart l dC dI cI cJ cG cZ (nI k)) (va_cwS 1 hts (k_gS m_l_MO_66 m_st_MO_isPart m_in_MO m_c_MO_isPart) rfl rfl rfl (by decide +kernel) ⟨Nat.le_of_ble_eq_true rfl, Nat.le_of_ble_eq_true rfl⟩) hK hF hP hD hS hA [] [0, 1] [0, 1] rfl rfl (by decide) (by decide) (by decide) rfl (by decide) rfl hl.1 rfl (Nat.le_of_ble_eq_true rfl) dMO_sum_11 ⟨Nat.le_of_ble_eq_true rfl, Nat.le_of_ble_eq_true rfl⟩ rfl (fun H locs hP hD hS => ?_)
      refine lv_if_eq (tgt := 21) hx hb dMO_sum_14 (by decide) (fun c_2 => ?_) (fun c_2 => ?_)
      · exact absurd c_2 (by rw [f_isPart_nI hk]; decide)
      · refine lv_iconst (v := 1) hx hb dMO_sum_17 (by decide) ?_
        refine lv_goto (tgt := 22) hx hb dMO_sum_18 (by decide) ?_
        refine lv_istore_n (lv' := [(3, .int 1), (0, .ref u0), (1, .int 0), (2, .int (nI k))]) hx hb dMO_sum_22 rfl hl (by decide) rfl (fun ls hl => ?_)
        refine lv_aload_n hx hb dMO_sum_23 rfl (lv_at hl 1 rfl) ?_
        refine lv_iload_n hx hb dMO_sum_24 rfl (lv_at hl 0 rfl) ?_
        refine lv_if_eq (tgt := 32) hx hb dMO_sum_25 (by decide) (fun c_3 => ?_) (fun c_3 => ?_)
        · exact absurd c_3 (by decide)
        · refine lv_iconst (v := 0) hx hb dMO_sum_28 (by decide) ?_
          refine lv_goto (tgt := 33) hx hb dMO_sum_29 (by decide) ?_
          refine va_put (D := (dC, dI)) (ci := 7) (v := .int 0) (ty := .int) (C := RMO) (T := TMO) (N := 11) hx hb hts inMO tyMO tyMO_ok nmMO hown hK hP hD hS 0 rfl rfl 0 (by decide) (hts _ m_f_MO_44) (fun _ h9 => h9) rfl (by decide +kernel) rfl rfl (Nat.le_of_ble_eq_true rfl) dMO_sum_33 (fun H locs hP hD hS => ?_)
          have hP : va_P (dC, dI) vwCl [(u0, .inr (7, [.int 0, .ref u1, .ref u2, .ref u3, .ref u4, .ref u5, .ref u6, .ref u7, .ref u8, .ref u9, .ref u10])), (u5, .inl (cJ, 24, .inr (.inl (f_twoL 12 sm xsm))))] H := hP
          have hD : va_D A [(u0, .inr (7, [.int 0, .ref u1, .ref u2, .ref u3, .ref u4, .ref u5, .ref u6, .ref u7, .ref u8, .ref u9, .ref u10])), (u5, .inl (cJ, 24, .inr (.inl (f_twoL 12 sm xsm))))] := hD
          refine lv_iload_n hx hb dMO_sum_36 rfl (lv_at hl 0 rfl) ?_
          refine lv_if_eq (tgt := 54) hx hb dMO_sum_37 (by decide) (fun c_4 => ?_) (fun c_4 => ?_)
          · exact absurd c_4 (by decide)
          · refine lv_aload_n hx hb dMO_sum_40 rfl (lv_at hl 1 rfl) ?_
            refine va_get (D := (dC, dI)) (ci := 7) (v := .ref u5) (C := RMO) (T := TMO) (N := 11) hx hb hts inMO hown hK hP 0 rfl rfl 5 (by decide) (hts _ m_f_MO_24) (fun _ h9 => h9) rfl dMO_sum_41 ?_
            refine lv_bipush (v := 12) hx hb dMO_sum_44 (by decide) ?_
            refine lv_iload_n hx hb dMO_sum_46 rfl (lv_at hl 2 rfl) ?_
            refine lv_imul hx hb dMO_sum_47 ?_
            refine lv_iload_n hx hb dMO_sum_48 rfl (lv_at hl 3 rfl) ?_
            refine lv_iadd hx hb dMO_sum_49 ?_
            refine k_lld (v := (f_twoL 12 sm xsm) k) hx hb hK hP 1 1 rfl rfl (j := k) (f_12a k) (by omega) (by decide) rfl dMO_sum_50 ?_
            refine lv_goto (tgt := 55) hx hb dMO_sum_51 (by decide) ?_
            exact k_lret hx hb hr hlocks hP hK hD hS (f_tL0 hk) dMO_sum_55 ⟨Nat.le_of_ble_eq_true rfl, Nat.le_of_ble_eq_true rfl⟩
  · rw [show f_smW sm xsm 1 (nI k) = xsm k by unfold f_smW f_smV; rw [if_pos e1, if_neg (by decide), nI_clamp (by omega)], e1]
    refine k_of (cc := cMO_sum) (maxL := 4) (ret := (some .long)) (by decide) rfl (Nat.le_of_ble_eq_true rfl) ?_
    intro p e s m below meth c A ls hx hb hr hlocks hml hown hts hA hP hD hK hF hl hS
    have hown : s.vm.findClass RMO = some m.cls := hown
    have hl : lv_has ls 4 [(0, .ref u0), (1, .int 1), (2, .int (nI k))] := hl
    refine lv_iload_n hx hb dMO_sum_0 rfl (lv_at hl 1 rfl) ?_
    refine lv_i2l hx hb dMO_sum_1 rfl ?_
    refine lv_lconst (v := 0) hx hb dMO_sum_2 (by decide) ?_
    refine lv_lconst (v := 1) hx hb dMO_sum_3 (by decide) ?_
    refine k_S (wr := [(u0, .inr (7, [.int th, .ref u1, .ref u2, .ref u3, .ref u4, .ref u5, .ref u6, .ref u7, .ref u8, .ref u9, .ref u10])), (u5, .inl (cJ, 24, .inr (.inl (f_twoL 12 sm xsm))))]) (W1 := [(u0, .inr (7, [.int th, .ref u1, .ref u2, .ref u3, .ref u4, .ref u5, .ref u6, .ref u7, .ref u8, .ref u9, .ref u10])), (u5, .inl (cJ, 24, .inr (.inl (f_twoL 12 sm xsm))))]) (st1 := [.int (f_in ((1 : Int32).toInt64) 0 1)]) ⟨hx, hb, hml, hown, hts⟩ (k_MO_in l dC dI cI cJ cG cZ ((1 : Int32).toInt64) 0 1) (va_cwS 3 hts (k_gS m_l_MO_52 m_st_MO_in m_in_MO m_c_MO_in) rfl rfl rfl (by decide +kernel) ⟨Nat.le_of_ble_eq_true rfl, Nat.le_of_ble_eq_true rfl⟩) hK hF hP hD hS hA [] [0, 1] [0, 1] rfl rfl (by decide) (by decide) (by decide) rfl (by decide) rfl hl.1 rfl (Nat.le_of_ble_eq_true rfl) dMO_sum_4 ⟨Nat.le_of_ble_eq_true rfl, Nat.le_of_ble_eq_true rfl⟩ rfl (fun H locs hP hD hS => ?_)
    refine lv_if_eq (tgt := 21) hx hb dMO_sum_7 (by decide) (fun c_1 => ?_) (fun c_1 => ?_)
    · exact absurd c_1 (show ¬ f_in (1 : Int32).toInt64 0 1 = 0 by decide)
    · refine lv_iload_n hx hb dMO_sum_10 rfl (lv_at hl 2 rfl) ?_
      refine k_S (wr := [(u0, .inr (7, [.int th, .ref u1, .ref u2, .ref u3, .ref u4, .ref u5, .ref u6, .ref u7, .ref u8, .ref u9, .ref u10])), (u5, .inl (cJ, 24, .inr (.inl (f_twoL 12 sm xsm))))]) (W1 := [(u0, .inr (7, [.int th, .ref u1, .ref u2, .ref u3, .ref u4, .ref u5, .ref u6, .ref u7, .ref u8, .ref u9, .ref u10])), (u5, .inl (cJ, 24, .inr (.inl (f_twoL 12 sm xsm))))]) (st1 := [.int (f_isPart (nI k))]) ⟨hx, hb, hml, hown, hts⟩ (k_MO_isPart l dC dI cI cJ cG cZ (nI k)) (va_cwS 1 hts (k_gS m_l_MO_66 m_st_MO_isPart m_in_MO m_c_MO_isPart) rfl rfl rfl (by decide +kernel) ⟨Nat.le_of_ble_eq_true rfl, Nat.le_of_ble_eq_true rfl⟩) hK hF hP hD hS hA [] [0, 1] [0, 1] rfl rfl (by decide) (by decide) (by decide) rfl (by decide) rfl hl.1 rfl (Nat.le_of_ble_eq_true rfl) dMO_sum_11 ⟨Nat.le_of_ble_eq_true rfl, Nat.le_of_ble_eq_true rfl⟩ rfl (fun H locs hP hD hS => ?_)
      refine lv_if_eq (tgt := 21) hx hb dMO_sum_14 (by decide) (fun c_2 => ?_) (fun c_2 => ?_)
      · exact absurd c_2 (by rw [f_isPart_nI hk]; decide)
      · refine lv_iconst (v := 1) hx hb dMO_sum_17 (by decide) ?_
        refine lv_goto (tgt := 22) hx hb dMO_sum_18 (by decide) ?_
        refine lv_istore_n (lv' := [(3, .int 1), (0, .ref u0), (1, .int 1), (2, .int (nI k))]) hx hb dMO_sum_22 rfl hl (by decide) rfl (fun ls hl => ?_)
        refine lv_aload_n hx hb dMO_sum_23 rfl (lv_at hl 1 rfl) ?_
        refine lv_iload_n hx hb dMO_sum_24 rfl (lv_at hl 0 rfl) ?_
        refine lv_if_eq (tgt := 32) hx hb dMO_sum_25 (by decide) (fun c_3 => ?_) (fun c_3 => ?_)
        · exact absurd c_3 (by decide)
        · refine lv_iconst (v := 0) hx hb dMO_sum_28 (by decide) ?_
          refine lv_goto (tgt := 33) hx hb dMO_sum_29 (by decide) ?_
          refine va_put (D := (dC, dI)) (ci := 7) (v := .int 0) (ty := .int) (C := RMO) (T := TMO) (N := 11) hx hb hts inMO tyMO tyMO_ok nmMO hown hK hP hD hS 0 rfl rfl 0 (by decide) (hts _ m_f_MO_44) (fun _ h9 => h9) rfl (by decide +kernel) rfl rfl (Nat.le_of_ble_eq_true rfl) dMO_sum_33 (fun H locs hP hD hS => ?_)
          have hP : va_P (dC, dI) vwCl [(u0, .inr (7, [.int 0, .ref u1, .ref u2, .ref u3, .ref u4, .ref u5, .ref u6, .ref u7, .ref u8, .ref u9, .ref u10])), (u5, .inl (cJ, 24, .inr (.inl (f_twoL 12 sm xsm))))] H := hP
          have hD : va_D A [(u0, .inr (7, [.int 0, .ref u1, .ref u2, .ref u3, .ref u4, .ref u5, .ref u6, .ref u7, .ref u8, .ref u9, .ref u10])), (u5, .inl (cJ, 24, .inr (.inl (f_twoL 12 sm xsm))))] := hD
          refine lv_iload_n hx hb dMO_sum_36 rfl (lv_at hl 0 rfl) ?_
          refine lv_if_eq (tgt := 54) hx hb dMO_sum_37 (by decide) (fun c_4 => ?_) (fun c_4 => ?_)
          · exact absurd c_4 (by decide)
          · refine lv_aload_n hx hb dMO_sum_40 rfl (lv_at hl 1 rfl) ?_
            refine va_get (D := (dC, dI)) (ci := 7) (v := .ref u5) (C := RMO) (T := TMO) (N := 11) hx hb hts inMO hown hK hP 0 rfl rfl 5 (by decide) (hts _ m_f_MO_24) (fun _ h9 => h9) rfl dMO_sum_41 ?_
            refine lv_bipush (v := 12) hx hb dMO_sum_44 (by decide) ?_
            refine lv_iload_n hx hb dMO_sum_46 rfl (lv_at hl 2 rfl) ?_
            refine lv_imul hx hb dMO_sum_47 ?_
            refine lv_iload_n hx hb dMO_sum_48 rfl (lv_at hl 3 rfl) ?_
            refine lv_iadd hx hb dMO_sum_49 ?_
            refine k_lld (v := (f_twoL 12 sm xsm) (12 + k)) hx hb hK hP 1 1 rfl rfl (j := (12 + k)) (f_12b k) (by omega) (by decide) rfl dMO_sum_50 ?_
            refine lv_goto (tgt := 55) hx hb dMO_sum_51 (by decide) ?_
            exact k_lret hx hb hr hlocks hP hK hD hS f_tL1 dMO_sum_55 ⟨Nat.le_of_ble_eq_true rfl, Nat.le_of_ble_eq_true rfl⟩

abbrev rm_MO_collect : Room := { frames := 2, cells := 0, slots := 0, locals := 47 }
set_option maxHeartbeats 4000000 in
set_option maxRecDepth 100000 in
theorem k_MO_collect (l : Launch) (dC : Nat → ClassId) (dI : Nat → Nat → Nat) (cI cJ cG cZ : ClassId) (u0 : Nat) (u1 : Nat) (u2 : Nat) (u3 : Nat) (u4 : Nat) (u5 : Nat) (u6 : Nat) (u7 : Nat) (u8 : Nat) (u9 : Nat) (u10 : Nat) (th : Int32) (md : Nat → Int32) (sz : Nat → Int32) (va : Nat → Int64) (ns : Nat → Nat) (x : Int32) (v : Int64) (hns : ∀ k : Nat, k < 4 → sz k = nI (ns k) ∧ ns k ≤ 100) : k_M l yMO_collect wsMO_collect rm_MO_collect (dC, dI) vwCl [(cI, .int), (cJ, .long), (cG, .array .long), (cZ, .boolean)] [.ref u0, .int x, .long v] [(u0, .inr (7, [.int th, .ref u1, .ref u2, .ref u3, .ref u4, .ref u5, .ref u6, .ref u7, .ref u8, .ref u9, .ref u10])), (u1, .inl (cI, 8, .inl md)), (u9, .inl (cI, 4, .inl sz)), (u10, .inl (cJ, 400, .inr (.inl va)))] (some (.int (f_coR sz x v))) [(u0, .inr (7, [.int 0, .ref u1, .ref u2, .ref u3, .ref u4, .ref u5, .ref u6, .ref u7, .ref u8, .ref u9, .ref u10])), (u1, .inl (cI, 8, .inl (f_coM md sz x v))), (u9, .inl (cI, 4, .inl (f_coZ sz x v))), (u10, .inl (cJ, 400, .inr (.inl (f_coW sz va x v))))] := by
  rcases (show _ ∨ _ ∨ _ ∨ _ ∨ (_ ∧ md v.toInt32.toNatClampNeg < 40) ∨ (_ ∧ ¬ md v.toInt32.toNatClampNeg < 40) from f_ccs6 md sz x v) with h0 | ⟨k, hk, rfl, h1⟩ | ⟨k, hk, rfl, h1, h2⟩ | ⟨k, hk, hk3, rfl, h1, h2⟩ | ⟨⟨rfl, h1, h2⟩, h3⟩ | ⟨⟨rfl, h1, h2⟩, h3⟩
  · have e1 : f_cc sz x v = 4 := by unfold f_cc; rcases h0 with h0 | ⟨h0, h1⟩; rw [if_pos h0]; rw [if_neg h0, if_pos h1]
    rw [show f_coM md sz x v = md by unfold f_coM; rw [e1]; rfl, show f_coZ sz x v = sz from if_pos e1, show f_coW sz va x v = va from if_pos e1, show f_coR sz x v = -1 from if_pos e1]
    refine k_of (cc := cMO_collect) (maxL := 4) (ret := (some .int)) (by decide) rfl (Nat.le_of_ble_eq_true rfl) ?_
    intro p e s m below meth c A ls hx hb hr hlocks hml hown hts hA hP hD hK hF hl hS
    have hown : s.vm.findClass RMO = some m.cls := hown
    have hl : lv_has ls 4 [(0, .ref u0), (1, .int x), (2, .long v)] := hl
    refine lv_aload_n hx hb dMO_collect_0 rfl (lv_at hl 0 rfl) ?_
    refine lv_iconst (v := 0) hx hb dMO_collect_1 (by decide) ?_
    refine va_put (D := (dC, dI)) (ci := 7) (v := .int 0) (ty := .int) (C := RMO) (T := TMO) (N := 11) hx hb hts inMO tyMO tyMO_ok nmMO hown hK hP hD hS 0 rfl rfl 0 (by decide) (hts _ m_f_MO_44) (fun _ h9 => h9) rfl (by decide +kernel) rfl rfl (Nat.le_of_ble_eq_true rfl) dMO_collect_2 (fun H locs hP hD hS => ?_)
    have hP : va_P (dC, dI) vwCl [(u0, .inr (7, [.int 0, .ref u1, .ref u2, .ref u3, .ref u4, .ref u5, .ref u6, .ref u7, .ref u8, .ref u9, .ref u10])), (u1, .inl (cI, 8, .inl md)), (u9, .inl (cI, 4, .inl sz)), (u10, .inl (cJ, 400, .inr (.inl va)))] H := hP
    have hD : va_D A [(u0, .inr (7, [.int 0, .ref u1, .ref u2, .ref u3, .ref u4, .ref u5, .ref u6, .ref u7, .ref u8, .ref u9, .ref u10])), (u1, .inl (cI, 8, .inl md)), (u9, .inl (cI, 4, .inl sz)), (u10, .inl (cJ, 400, .inr (.inl va)))] := hD
    refine lv_iload_n hx hb dMO_collect_5 rfl (lv_at hl 1 rfl) ?_
    refine lv_i2l hx hb dMO_collect_6 rfl ?_
    refine lv_lconst (v := 0) hx hb dMO_collect_7 (by decide) ?_
    refine lv_ldc2 (v := 3) hx hb hown (hts _ m_k_MO_60) dMO_collect_8 ?_
    refine k_S (wr := [(u0, .inr (7, [.int 0, .ref u1, .ref u2, .ref u3, .ref u4, .ref u5, .ref u6, .ref u7, .ref u8, .ref u9, .ref u10])), (u1, .inl (cI, 8, .inl md)), (u9, .inl (cI, 4, .inl sz)), (u10, .inl (cJ, 400, .inr (.inl va)))]) (W1 := [(u0, .inr (7, [.int 0, .ref u1, .ref u2, .ref u3, .ref u4, .ref u5, .ref u6, .ref u7, .ref u8, .ref u9, .ref u10])), (u1, .inl (cI, 8, .inl md)), (u9, .inl (cI, 4, .inl sz)), (u10, .inl (cJ, 400, .inr (.inl va)))]) (st1 := [.int (f_in x.toInt64 0 3)]) ⟨hx, hb, hml, hown, hts⟩ (k_MO_in l dC dI cI cJ cG cZ x.toInt64 0 3) (va_cwS 3 hts (k_gS m_l_MO_52 m_st_MO_in m_in_MO m_c_MO_in) rfl rfl rfl (by decide +kernel) ⟨Nat.le_of_ble_eq_true rfl, Nat.le_of_ble_eq_true rfl⟩) hK hF hP hD hS hA [] [0, 1, 2, 3] [0, 1, 2, 3] rfl rfl (by decide) (by decide) (by decide) rfl (by decide) rfl hl.1 rfl (Nat.le_of_ble_eq_true rfl) dMO_collect_11 ⟨Nat.le_of_ble_eq_true rfl, Nat.le_of_ble_eq_true rfl⟩ rfl (fun H locs hP hD hS => ?_)
    refine lv_if_eq (tgt := 36) hx hb dMO_collect_14 (by decide) (fun c_1 => ?_) (fun c_1 => ?_)
    · refine lv_iconst (v := (-1)) hx hb dMO_collect_36 (by decide) ?_
      exact k_iret hx hb hr hlocks hP hK hD hS rfl dMO_collect_37 ⟨Nat.le_of_ble_eq_true rfl, Nat.le_of_ble_eq_true rfl⟩
    · exact absurd (f_in3n (h0.imp_right And.right)) c_1
  · have e1 : f_cc sz (nI k) v = 4 := by unfold f_cc; rw [if_neg (f_nn (by omega)), if_neg (f_ge4 (by omega)), nI_clamp (by omega), if_pos h1]
    rw [show f_coM md sz (nI k) v = md by unfold f_coM; rw [e1]; rfl, show f_coZ sz (nI k) v = sz from if_pos e1, show f_coW sz va (nI k) v = va from if_pos e1, show f_coR sz (nI k) v = -1 from if_pos e1]
    refine k_of (cc := cMO_collect) (maxL := 4) (ret := (some .int)) (by decide) rfl (Nat.le_of_ble_eq_true rfl) ?_
    intro p e s m below meth c A ls hx hb hr hlocks hml hown hts hA hP hD hK hF hl hS
    have hown : s.vm.findClass RMO = some m.cls := hown
    have hl : lv_has ls 4 [(0, .ref u0), (1, .int (nI k)), (2, .long v)] := hl
    refine lv_aload_n hx hb dMO_collect_0 rfl (lv_at hl 0 rfl) ?_
    refine lv_iconst (v := 0) hx hb dMO_collect_1 (by decide) ?_
    refine va_put (D := (dC, dI)) (ci := 7) (v := .int 0) (ty := .int) (C := RMO) (T := TMO) (N := 11) hx hb hts inMO tyMO tyMO_ok nmMO hown hK hP hD hS 0 rfl rfl 0 (by decide) (hts _ m_f_MO_44) (fun _ h9 => h9) rfl (by decide +kernel) rfl rfl (Nat.le_of_ble_eq_true rfl) dMO_collect_2 (fun H locs hP hD hS => ?_)
    have hP : va_P (dC, dI) vwCl [(u0, .inr (7, [.int 0, .ref u1, .ref u2, .ref u3, .ref u4, .ref u5, .ref u6, .ref u7, .ref u8, .ref u9, .ref u10])), (u1, .inl (cI, 8, .inl md)), (u9, .inl (cI, 4, .inl sz)), (u10, .inl (cJ, 400, .inr (.inl va)))] H := hP
    have hD : va_D A [(u0, .inr (7, [.int 0, .ref u1, .ref u2, .ref u3, .ref u4, .ref u5, .ref u6, .ref u7, .ref u8, .ref u9, .ref u10])), (u1, .inl (cI, 8, .inl md)), (u9, .inl (cI, 4, .inl sz)), (u10, .inl (cJ, 400, .inr (.inl va)))] := hD
    refine lv_iload_n hx hb dMO_collect_5 rfl (lv_at hl 1 rfl) ?_
    refine lv_i2l hx hb dMO_collect_6 rfl ?_
    refine lv_lconst (v := 0) hx hb dMO_collect_7 (by decide) ?_
    refine lv_ldc2 (v := 3) hx hb hown (hts _ m_k_MO_60) dMO_collect_8 ?_
    refine k_S (wr := [(u0, .inr (7, [.int 0, .ref u1, .ref u2, .ref u3, .ref u4, .ref u5, .ref u6, .ref u7, .ref u8, .ref u9, .ref u10])), (u1, .inl (cI, 8, .inl md)), (u9, .inl (cI, 4, .inl sz)), (u10, .inl (cJ, 400, .inr (.inl va)))]) (W1 := [(u0, .inr (7, [.int 0, .ref u1, .ref u2, .ref u3, .ref u4, .ref u5, .ref u6, .ref u7, .ref u8, .ref u9, .ref u10])), (u1, .inl (cI, 8, .inl md)), (u9, .inl (cI, 4, .inl sz)), (u10, .inl (cJ, 400, .inr (.inl va)))]) (st1 := [.int (f_in ((nI k).toInt64) 0 3)]) ⟨hx, hb, hml, hown, hts⟩ (k_MO_in l dC dI cI cJ cG cZ ((nI k).toInt64) 0 3) (va_cwS 3 hts (k_gS m_l_MO_52 m_st_MO_in m_in_MO m_c_MO_in) rfl rfl rfl (by decide +kernel) ⟨Nat.le_of_ble_eq_true rfl, Nat.le_of_ble_eq_true rfl⟩) hK hF hP hD hS hA [] [0, 1, 2, 3] [0, 1, 2, 3] rfl rfl (by decide) (by decide) (by decide) rfl (by decide) rfl hl.1 rfl (Nat.le_of_ble_eq_true rfl) dMO_collect_11 ⟨Nat.le_of_ble_eq_true rfl, Nat.le_of_ble_eq_true rfl⟩ rfl (fun H locs hP hD hS => ?_)
    refine lv_if_eq (tgt := 36) hx hb dMO_collect_14 (by decide) (fun c_1 => ?_) (fun c_1 => ?_)
    · exact absurd c_1 (by rw [f_in3y hk]; decide)
    · refine lv_iload_n hx hb dMO_collect_17 rfl (lv_at hl 1 rfl) ?_
      refine lv_lload_n hx hb dMO_collect_18 rfl (lv_at hl 2 rfl) ?_
      refine k_S (wr := [(u0, .inr (7, [.int 0, .ref u1, .ref u2, .ref u3, .ref u4, .ref u5, .ref u6, .ref u7, .ref u8, .ref u9, .ref u10])), (u1, .inl (cI, 8, .inl md)), (u9, .inl (cI, 4, .inl sz)), (u10, .inl (cJ, 400, .inr (.inl va)))]) (W1 := [(u0, .inr (7, [.int 0, .ref u1, .ref u2, .ref u3, .ref u4, .ref u5, .ref u6, .ref u7, .ref u8, .ref u9, .ref u10])), (u1, .inl (cI, 8, .inl md)), (u9, .inl (cI, 4, .inl sz)), (u10, .inl (cJ, 400, .inr (.inl va)))]) (st1 := [.int (f_can k v)]) ⟨hx, hb, hml, hown, hts⟩ (k_MO_fits l dC dI cI cJ cG cZ k v hk) (va_cwS 2 hts (k_gS m_l_MO_62 m_st_MO_fits m_in_MO m_c_MO_fits) rfl rfl rfl (by decide +kernel) ⟨Nat.le_of_ble_eq_true rfl, Nat.le_of_ble_eq_true rfl⟩) hK hF hP hD hS hA [] [0, 1, 2, 3] [0, 1, 2, 3] rfl rfl (by decide) (by decide) (by decide) rfl (by decide) rfl hl.1 rfl (Nat.le_of_ble_eq_true rfl) dMO_collect_19 ⟨Nat.le_of_ble_eq_true rfl, Nat.le_of_ble_eq_true rfl⟩ rfl (fun H locs hP hD hS => ?_)
      refine lv_if_eq (tgt := 36) hx hb dMO_collect_22 (by decide) (fun c_2 => ?_) (fun c_2 => ?_)
      · refine lv_iconst (v := (-1)) hx hb dMO_collect_36 (by decide) ?_
        exact k_iret hx hb hr hlocks hP hK hD hS rfl dMO_collect_37 ⟨Nat.le_of_ble_eq_true rfl, Nat.le_of_ble_eq_true rfl⟩
      · exact absurd h1 c_2
  · obtain ⟨n, hn0⟩ : ∃ n, n = ns k := ⟨_, rfl⟩
    have hn : sz k = nI n := by rw [hn0]; exact (hns k hk).1
    have hn2 : n ≤ 100 := by rw [hn0]; exact (hns k hk).2
    have hn1 : n = 100 := f_full100 hn hn2 h2
    have e1 : f_cc sz (nI k) v = 4 := by unfold f_cc; rw [if_neg (f_nn (by omega)), if_neg (f_ge4 (by omega)), nI_clamp (by omega), if_neg h1, if_neg h2]
    rw [show f_coM md sz (nI k) v = md by unfold f_coM; rw [e1]; rfl, show f_coZ sz (nI k) v = sz from if_pos e1, show f_coW sz va (nI k) v = va from if_pos e1, show f_coR sz (nI k) v = -1 from if_pos e1]
    refine k_of (cc := cMO_collect) (maxL := 4) (ret := (some .int)) (by decide) rfl (Nat.le_of_ble_eq_true rfl) ?_
    intro p e s m below meth c A ls hx hb hr hlocks hml hown hts hA hP hD hK hF hl hS
    have hown : s.vm.findClass RMO = some m.cls := hown
    have hl : lv_has ls 4 [(0, .ref u0), (1, .int (nI k)), (2, .long v)] := hl
    refine lv_aload_n hx hb dMO_collect_0 rfl (lv_at hl 0 rfl) ?_
    refine lv_iconst (v := 0) hx hb dMO_collect_1 (by decide) ?_
    refine va_put (D := (dC, dI)) (ci := 7) (v := .int 0) (ty := .int) (C := RMO) (T := TMO) (N := 11) hx hb hts inMO tyMO tyMO_ok nmMO hown hK hP hD hS 0 rfl rfl 0 (by decide) (hts _ m_f_MO_44) (fun _ h9 => h9) rfl (by decide +kernel) rfl rfl (Nat.le_of_ble_eq_true rfl) dMO_collect_2 (fun H locs hP hD hS => ?_)
    have hP : va_P (dC, dI) vwCl [(u0, .inr (7, [.int 0, .ref u1, .ref u2, .ref u3, .ref u4, .ref u5, .ref u6, .ref u7, .ref u8, .ref u9, .ref u10])), (u1, .inl (cI, 8, .inl md)), (u9, .inl (cI, 4, .inl sz)), (u10, .inl (cJ, 400, .inr (.inl va)))] H := hP
    have hD : va_D A [(u0, .inr (7, [.int 0, .ref u1, .ref u2, .ref u3, .ref u4, .ref u5, .ref u6, .ref u7, .ref u8, .ref u9, .ref u10])), (u1, .inl (cI, 8, .inl md)), (u9, .inl (cI, 4, .inl sz)), (u10, .inl (cJ, 400, .inr (.inl va)))] := hD
    refine lv_iload_n hx hb dMO_collect_5 rfl (lv_at hl 1 rfl) ?_
    refine lv_i2l hx hb dMO_collect_6 rfl ?_
    refine lv_lconst (v := 0) hx hb dMO_collect_7 (by decide) ?_
    refine lv_ldc2 (v := 3) hx hb hown (hts _ m_k_MO_60) dMO_collect_8 ?_
    refine k_S (wr := [(u0, .inr (7, [.int 0, .ref u1, .ref u2, .ref u3, .ref u4, .ref u5, .ref u6, .ref u7, .ref u8, .ref u9, .ref u10])), (u1, .inl (cI, 8, .inl md)), (u9, .inl (cI, 4, .inl sz)), (u10, .inl (cJ, 400, .inr (.inl va)))]) (W1 := [(u0, .inr (7, [.int 0, .ref u1, .ref u2, .ref u3, .ref u4, .ref u5, .ref u6, .ref u7, .ref u8, .ref u9, .ref u10])), (u1, .inl (cI, 8, .inl md)), (u9, .inl (cI, 4, .inl sz)), (u10, .inl (cJ, 400, .inr (.inl va)))]) (st1 := [.int (f_in ((nI k).toInt64) 0 3)]) ⟨hx, hb, hml, hown, hts⟩ (k_MO_in l dC dI cI cJ cG cZ ((nI k).toInt64) 0 3) (va_cwS 3 hts (k_gS m_l_MO_52 m_st_MO_in m_in_MO m_c_MO_in) rfl rfl rfl (by decide +kernel) ⟨Nat.le_of_ble_eq_true rfl, Nat.le_of_ble_eq_true rfl⟩) hK hF hP hD hS hA [] [0, 1, 2, 3] [0, 1, 2, 3] rfl rfl (by decide) (by decide) (by decide) rfl (by decide) rfl hl.1 rfl (Nat.le_of_ble_eq_true rfl) dMO_collect_11 ⟨Nat.le_of_ble_eq_true rfl, Nat.le_of_ble_eq_true rfl⟩ rfl (fun H locs hP hD hS => ?_)
    refine lv_if_eq (tgt := 36) hx hb dMO_collect_14 (by decide) (fun c_1 => ?_) (fun c_1 => ?_)
    · exact absurd c_1 (by rw [f_in3y hk]; decide)
    · refine lv_iload_n hx hb dMO_collect_17 rfl (lv_at hl 1 rfl) ?_
      refine lv_lload_n hx hb dMO_collect_18 rfl (lv_at hl 2 rfl) ?_
      refine k_S (wr := [(u0, .inr (7, [.int 0, .ref u1, .ref u2, .ref u3, .ref u4, .ref u5, .ref u6, .ref u7, .ref u8, .ref u9, .ref u10])), (u1, .inl (cI, 8, .inl md)), (u9, .inl (cI, 4, .inl sz)), (u10, .inl (cJ, 400, .inr (.inl va)))]) (W1 := [(u0, .inr (7, [.int 0, .ref u1, .ref u2, .ref u3, .ref u4, .ref u5, .ref u6, .ref u7, .ref u8, .ref u9, .ref u10])), (u1, .inl (cI, 8, .inl md)), (u9, .inl (cI, 4, .inl sz)), (u10, .inl (cJ, 400, .inr (.inl va)))]) (st1 := [.int (f_can k v)]) ⟨hx, hb, hml, hown, hts⟩ (k_MO_fits l dC dI cI cJ cG cZ k v hk) (va_cwS 2 hts (k_gS m_l_MO_62 m_st_MO_fits m_in_MO m_c_MO_fits) rfl rfl rfl (by decide +kernel) ⟨Nat.le_of_ble_eq_true rfl, Nat.le_of_ble_eq_true rfl⟩) hK hF hP hD hS hA [] [0, 1, 2, 3] [0, 1, 2, 3] rfl rfl (by decide) (by decide) (by decide) rfl (by decide) rfl hl.1 rfl (Nat.le_of_ble_eq_true rfl) dMO_collect_19 ⟨Nat.le_of_ble_eq_true rfl, Nat.le_of_ble_eq_true rfl⟩ rfl (fun H locs hP hD hS => ?_)
      refine lv_if_eq (tgt := 36) hx hb dMO_collect_22 (by decide) (fun c_2 => ?_) (fun c_2 => ?_)
      · exact absurd c_2 h1
      · refine lv_aload_n hx hb dMO_collect_25 rfl (lv_at hl 0 rfl) ?_
        refine va_get (D := (dC, dI)) (ci := 7) (v := .ref u9) (C := RMO) (T := TMO) (N := 11) hx hb hts inMO hown hK hP 0 rfl rfl 9 (by decide) (hts _ m_f_MO_36) (fun _ h9 => h9) rfl dMO_collect_26 ?_
        refine lv_iload_n hx hb dMO_collect_29 rfl (lv_at hl 1 rfl) ?_
        refine k_ild (v := sz k) hx hb hK hP 2 0 rfl rfl (j := k) rfl (by omega) (by decide) rfl dMO_collect_30 ?_
        refine k_topi (y := nI n) hn ?_
        refine lv_bipush (v := 100) hx hb dMO_collect_31 (by decide) ?_
        refine lv_icmp_ne (tgt := 38) hx hb dMO_collect_33 (by decide) (fun c_3 => ?_) (fun c_3 => ?_)
        · exact absurd (show nI n = 100 by rw [hn1]; rfl) c_3
        · refine lv_iconst (v := (-1)) hx hb dMO_collect_36 (by decide) ?_
          exact k_iret hx hb hr hlocks hP hK hD hS rfl dMO_collect_37 ⟨Nat.le_of_ble_eq_true rfl, Nat.le_of_ble_eq_true rfl⟩
  · obtain ⟨n, hn0⟩ : ∃ n, n = ns k := ⟨_, rfl⟩
    have hn : sz k = nI n := by rw [hn0]; exact (hns k hk).1
    have hn2 : n ≤ 100 := by rw [hn0]; exact (hns k hk).2
    have hn1 : n < 100 := f_notfull hn hn2 h2
    have e1 : f_cc sz (nI k) v = k := by unfold f_cc; rw [if_neg (f_nn (by omega)), if_neg (f_ge4 (by omega)), nI_clamp (by omega), if_neg h1, if_pos h2]
    rw [show f_coM md sz (nI k) v = md by unfold f_coM; rw [e1, if_neg (by omega)]]
    rw [show f_coZ sz (nI k) v = upd sz k (nI n + 1) by unfold f_coZ; rw [e1, if_neg (by omega), hn], show f_coW sz va (nI k) v = vp_updL va (100 * k + n) v by unfold f_coW; rw [e1, if_neg (by omega), hn, nI_clamp (by omega)], show f_coR sz (nI k) v = nI n + 1 by unfold f_coR; rw [e1, if_neg (by omega), hn]]
    refine k_of (cc := cMO_collect) (maxL := 4) (ret := (some .int)) (by decide) rfl (Nat.le_of_ble_eq_true rfl) ?_
    intro p e s m below meth c A ls hx hb hr hlocks hml hown hts hA hP hD hK hF hl hS
    have hown : s.vm.findClass RMO = some m.cls := hown
    have hl : lv_has ls 4 [(0, .ref u0), (1, .int (nI k)), (2, .long v)] := hl
    refine lv_aload_n hx hb dMO_collect_0 rfl (lv_at hl 0 rfl) ?_
    refine lv_iconst (v := 0) hx hb dMO_collect_1 (by decide) ?_
    refine va_put (D := (dC, dI)) (ci := 7) (v := .int 0) (ty := .int) (C := RMO) (T := TMO) (N := 11) hx hb hts inMO tyMO tyMO_ok nmMO hown hK hP hD hS 0 rfl rfl 0 (by decide) (hts _ m_f_MO_44) (fun _ h9 => h9) rfl (by decide +kernel) rfl rfl (Nat.le_of_ble_eq_true rfl) dMO_collect_2 (fun H locs hP hD hS => ?_)
    have hP : va_P (dC, dI) vwCl [(u0, .inr (7, [.int 0, .ref u1, .ref u2, .ref u3, .ref u4, .ref u5, .ref u6, .ref u7, .ref u8, .ref u9, .ref u10])), (u1, .inl (cI, 8, .inl md)), (u9, .inl (cI, 4, .inl sz)), (u10, .inl (cJ, 400, .inr (.inl va)))] H := hP
    have hD : va_D A [(u0, .inr (7, [.int 0, .ref u1, .ref u2, .ref u3, .ref u4, .ref u5, .ref u6, .ref u7, .ref u8, .ref u9, .ref u10])), (u1, .inl (cI, 8, .inl md)), (u9, .inl (cI, 4, .inl sz)), (u10, .inl (cJ, 400, .inr (.inl va)))] := hD
    refine lv_iload_n hx hb dMO_collect_5 rfl (lv_at hl 1 rfl) ?_
    refine lv_i2l hx hb dMO_collect_6 rfl ?_
    refine lv_lconst (v := 0) hx hb dMO_collect_7 (by decide) ?_
    refine lv_ldc2 (v := 3) hx hb hown (hts _ m_k_MO_60) dMO_collect_8 ?_
    refine k_S (wr := [(u0, .inr (7, [.int 0, .ref u1, .ref u2, .ref u3, .ref u4, .ref u5, .ref u6, .ref u7, .ref u8, .ref u9, .ref u10])), (u1, .inl (cI, 8, .inl md)), (u9, .inl (cI, 4, .inl sz)), (u10, .inl (cJ, 400, .inr (.inl va)))]) (W1 := [(u0, .inr (7, [.int 0, .ref u1, .ref u2, .ref u3, .ref u4, .ref u5, .ref u6, .ref u7, .ref u8, .ref u9, .ref u10])), (u1, .inl (cI, 8, .inl md)), (u9, .inl (cI, 4, .inl sz)), (u10, .inl (cJ, 400, .inr (.inl va)))]) (st1 := [.int (f_in ((nI k).toInt64) 0 3)]) ⟨hx, hb, hml, hown, hts⟩ (k_MO_in l dC dI cI cJ cG cZ ((nI k).toInt64) 0 3) (va_cwS 3 hts (k_gS m_l_MO_52 m_st_MO_in m_in_MO m_c_MO_in) rfl rfl rfl (by decide +kernel) ⟨Nat.le_of_ble_eq_true rfl, Nat.le_of_ble_eq_true rfl⟩) hK hF hP hD hS hA [] [0, 1, 2, 3] [0, 1, 2, 3] rfl rfl (by decide) (by decide) (by decide) rfl (by decide) rfl hl.1 rfl (Nat.le_of_ble_eq_true rfl) dMO_collect_11 ⟨Nat.le_of_ble_eq_true rfl, Nat.le_of_ble_eq_true rfl⟩ rfl (fun H locs hP hD hS => ?_)
    refine lv_if_eq (tgt := 36) hx hb dMO_collect_14 (by decide) (fun c_1 => ?_) (fun c_1 => ?_)
    · exact absurd c_1 (by rw [f_in3y hk]; decide)
    · refine lv_iload_n hx hb dMO_collect_17 rfl (lv_at hl 1 rfl) ?_
      refine lv_lload_n hx hb dMO_collect_18 rfl (lv_at hl 2 rfl) ?_
      refine k_S (wr := [(u0, .inr (7, [.int 0, .ref u1, .ref u2, .ref u3, .ref u4, .ref u5, .ref u6, .ref u7, .ref u8, .ref u9, .ref u10])), (u1, .inl (cI, 8, .inl md)), (u9, .inl (cI, 4, .inl sz)), (u10, .inl (cJ, 400, .inr (.inl va)))]) (W1 := [(u0, .inr (7, [.int 0, .ref u1, .ref u2, .ref u3, .ref u4, .ref u5, .ref u6, .ref u7, .ref u8, .ref u9, .ref u10])), (u1, .inl (cI, 8, .inl md)), (u9, .inl (cI, 4, .inl sz)), (u10, .inl (cJ, 400, .inr (.inl va)))]) (st1 := [.int (f_can k v)]) ⟨hx, hb, hml, hown, hts⟩ (k_MO_fits l dC dI cI cJ cG cZ k v hk) (va_cwS 2 hts (k_gS m_l_MO_62 m_st_MO_fits m_in_MO m_c_MO_fits) rfl rfl rfl (by decide +kernel) ⟨Nat.le_of_ble_eq_true rfl, Nat.le_of_ble_eq_true rfl⟩) hK hF hP hD hS hA [] [0, 1, 2, 3] [0, 1, 2, 3] rfl rfl (by decide) (by decide) (by decide) rfl (by decide) rfl hl.1 rfl (Nat.le_of_ble_eq_true rfl) dMO_collect_19 ⟨Nat.le_of_ble_eq_true rfl, Nat.le_of_ble_eq_true rfl⟩ rfl (fun H locs hP hD hS => ?_)
      refine lv_if_eq (tgt := 36) hx hb dMO_collect_22 (by decide) (fun c_2 => ?_) (fun c_2 => ?_)
      · exact absurd c_2 h1
      · refine lv_aload_n hx hb dMO_collect_25 rfl (lv_at hl 0 rfl) ?_
        refine va_get (D := (dC, dI)) (ci := 7) (v := .ref u9) (C := RMO) (T := TMO) (N := 11) hx hb hts inMO hown hK hP 0 rfl rfl 9 (by decide) (hts _ m_f_MO_36) (fun _ h9 => h9) rfl dMO_collect_26 ?_
        refine lv_iload_n hx hb dMO_collect_29 rfl (lv_at hl 1 rfl) ?_
        refine k_ild (v := sz k) hx hb hK hP 2 0 rfl rfl (j := k) rfl (by omega) (by decide) rfl dMO_collect_30 ?_
        refine k_topi (y := nI n) hn ?_
        refine lv_bipush (v := 100) hx hb dMO_collect_31 (by decide) ?_
        refine lv_icmp_ne (tgt := 38) hx hb dMO_collect_33 (by decide) (fun c_3 => ?_) (fun c_3 => ?_)
        · refine lv_aload_n hx hb dMO_collect_38 rfl (lv_at hl 0 rfl) ?_
          refine va_get (D := (dC, dI)) (ci := 7) (v := .ref u10) (C := RMO) (T := TMO) (N := 11) hx hb hts inMO hown hK hP 0 rfl rfl 10 (by decide) (hts _ m_f_MO_39) (fun _ h9 => h9) rfl dMO_collect_39 ?_
          refine lv_bipush (v := 100) hx hb dMO_collect_42 (by decide) ?_
          refine lv_iload_n hx hb dMO_collect_44 rfl (lv_at hl 1 rfl) ?_
          refine lv_imul hx hb dMO_collect_45 ?_
          refine lv_aload_n hx hb dMO_collect_46 rfl (lv_at hl 0 rfl) ?_
          refine va_get (D := (dC, dI)) (ci := 7) (v := .ref u9) (C := RMO) (T := TMO) (N := 11) hx hb hts inMO hown hK hP 0 rfl rfl 9 (by decide) (hts _ m_f_MO_36) (fun _ h9 => h9) rfl dMO_collect_47 ?_
          refine lv_iload_n hx hb dMO_collect_50 rfl (lv_at hl 1 rfl) ?_
          refine k_ild (v := sz k) hx hb hK hP 2 0 rfl rfl (j := k) rfl (by omega) (by decide) rfl dMO_collect_51 ?_
          refine k_topi (y := nI n) hn ?_
          refine lv_iadd hx hb dMO_collect_52 ?_
          refine lv_lload_n hx hb dMO_collect_53 rfl (lv_at hl 2 rfl) ?_
          refine k_lst (W1 := [(u0, .inr (7, [.int 0, .ref u1, .ref u2, .ref u3, .ref u4, .ref u5, .ref u6, .ref u7, .ref u8, .ref u9, .ref u10])), (u1, .inl (cI, 8, .inl md)), (u9, .inl (cI, 4, .inl sz)), (u10, .inl (cJ, 400, .inr (.inl (vp_updL va (100 * k + n) v))))]) hx hb hK hP hD hS 3 1 rfl rfl (j := (100 * k + n)) (f_ixv k n) (by omega) (by decide) rfl dMO_collect_54 (fun H locs hP hD hS => ?_)
          refine lv_aload_n hx hb dMO_collect_55 rfl (lv_at hl 0 rfl) ?_
          refine va_get (D := (dC, dI)) (ci := 7) (v := .ref u9) (C := RMO) (T := TMO) (N := 11) hx hb hts inMO hown hK hP 0 rfl rfl 9 (by decide) (hts _ m_f_MO_36) (fun _ h9 => h9) rfl dMO_collect_56 ?_
          refine lv_iload_n hx hb dMO_collect_59 rfl (lv_at hl 1 rfl) ?_
          refine lv_dup2_11 hx hb dMO_collect_60 rfl rfl ?_
          refine k_ild (v := sz k) hx hb hK hP 2 0 rfl rfl (j := k) rfl (by omega) (by decide) rfl dMO_collect_61 ?_
          refine k_topi (y := nI n) hn ?_
          refine lv_iconst (v := 1) hx hb dMO_collect_62 (by decide) ?_
          refine lv_iadd hx hb dMO_collect_63 ?_
          refine k_ist (W1 := [(u0, .inr (7, [.int 0, .ref u1, .ref u2, .ref u3, .ref u4, .ref u5, .ref u6, .ref u7, .ref u8, .ref u9, .ref u10])), (u1, .inl (cI, 8, .inl md)), (u9, .inl (cI, 4, .inl (upd sz k ((nI n) + 1)))), (u10, .inl (cJ, 400, .inr (.inl (vp_updL va (100 * k + n) v))))]) hx hb hK hP hD hS 2 0 rfl rfl (j := k) rfl (by omega) (by decide) rfl dMO_collect_64 (fun H locs hP hD hS => ?_)
          refine lv_iload_n hx hb dMO_collect_65 rfl (lv_at hl 1 rfl) ?_
          refine lv_iconst (v := 3) hx hb dMO_collect_66 (by decide) ?_
          refine lv_icmp_ne (tgt := 97) hx hb dMO_collect_67 (by decide) (fun c_4 => ?_) (fun c_4 => ?_)
          · refine lv_aload_n hx hb dMO_collect_97 rfl (lv_at hl 0 rfl) ?_
            refine va_get (D := (dC, dI)) (ci := 7) (v := .ref u9) (C := RMO) (T := TMO) (N := 11) hx hb hts inMO hown hK hP 0 rfl rfl 9 (by decide) (hts _ m_f_MO_36) (fun _ h9 => h9) rfl dMO_collect_98 ?_
            refine lv_iload_n hx hb dMO_collect_101 rfl (lv_at hl 1 rfl) ?_
            refine k_ild (v := ((nI n) + 1)) hx hb hK hP 2 0 rfl rfl (j := k) rfl (by omega) (by decide) pk_us dMO_collect_102 ?_
            exact k_iret hx hb hr hlocks hP hK hD hS rfl dMO_collect_103 ⟨Nat.le_of_ble_eq_true rfl, Nat.le_of_ble_eq_true rfl⟩
          · exact absurd ((nI_eq (b := 3) (by omega) (by decide)).mp c_4) (by omega)
        · exact absurd ((nI_eq (b := 100) (by omega) (by decide)).mp c_3) (by omega)
  · obtain ⟨n, hn0⟩ : ∃ n, n = ns 3 := ⟨_, rfl⟩
    have hn : sz 3 = nI n := by rw [hn0]; exact (hns 3 (by decide)).1
    have hn2 : n ≤ 100 := by rw [hn0]; exact (hns 3 (by decide)).2
    have hn1 : n < 100 := f_notfull hn hn2 h2
    have hk : 3 < 4 := by decide
    obtain ⟨j, hj, hv⟩ := f_can3_j (v := v) (fun h9 => h1 (by rw [show f_can 3 v = f_can3 v from rfl]; exact h9))
    have e1 : f_cc sz (nI 3) v = 3 := by unfold f_cc; rw [if_neg (f_nn (by omega)), if_neg (f_ge4 (by omega)), nI_clamp (by omega), if_neg h1, if_pos h2]
    have h3 : md j < 40 := by have h9 := h3; rw [hv, nI_clamp (by omega)] at h9; exact h9
    rw [show f_coM md sz (nI 3) v = upd md j (md j + 1) by unfold f_coM f_tM; rw [if_pos e1, hv, nI_clamp (by omega), if_pos h3]]
    rw [show f_coZ sz (nI 3) v = upd sz 3 (nI n + 1) by unfold f_coZ; rw [e1, if_neg (by omega), hn], show f_coW sz va (nI 3) v = vp_updL va (100 * 3 + n) v by unfold f_coW; rw [e1, if_neg (by omega), hn, nI_clamp (by omega)], show f_coR sz (nI 3) v = nI n + 1 by unfold f_coR; rw [e1, if_neg (by omega), hn]]
    refine k_of (cc := cMO_collect) (maxL := 4) (ret := (some .int)) (by decide) rfl (Nat.le_of_ble_eq_true rfl) ?_
    intro p e s m below meth c A ls hx hb hr hlocks hml hown hts hA hP hD hK hF hl hS
    have hown : s.vm.findClass RMO = some m.cls := hown
    have hl : lv_has ls 4 [(0, .ref u0), (1, .int (nI 3)), (2, .long v)] := hl
    refine lv_aload_n hx hb dMO_collect_0 rfl (lv_at hl 0 rfl) ?_
    refine lv_iconst (v := 0) hx hb dMO_collect_1 (by decide) ?_
    refine va_put (D := (dC, dI)) (ci := 7) (v := .int 0) (ty := .int) (C := RMO) (T := TMO) (N := 11) hx hb hts inMO tyMO tyMO_ok nmMO hown hK hP hD hS 0 rfl rfl 0 (by decide) (hts _ m_f_MO_44) (fun _ h9 => h9) rfl (by decide +kernel) rfl rfl (Nat.le_of_ble_eq_true rfl) dMO_collect_2 (fun H locs hP hD hS => ?_)
    have hP : va_P (dC, dI) vwCl [(u0, .inr (7, [.int 0, .ref u1, .ref u2, .ref u3, .ref u4, .ref u5, .ref u6, .ref u7, .ref u8, .ref u9, .ref u10])), (u1, .inl (cI, 8, .inl md)), (u9, .inl (cI, 4, .inl sz)), (u10, .inl (cJ, 400, .inr (.inl va)))] H := hP
    have hD : va_D A [(u0, .inr (7, [.int 0, .ref u1, .ref u2, .ref u3, .ref u4, .ref u5, .ref u6, .ref u7, .ref u8, .ref u9, .ref u10])), (u1, .inl (cI, 8, .inl md)), (u9, .inl (cI, 4, .inl sz)), (u10, .inl (cJ, 400, .inr (.inl va)))] := hD
    refine lv_iload_n hx hb dMO_collect_5 rfl (lv_at hl 1 rfl) ?_
    refine lv_i2l hx hb dMO_collect_6 rfl ?_
    refine lv_lconst (v := 0) hx hb dMO_collect_7 (by decide) ?_
    refine lv_ldc2 (v := 3) hx hb hown (hts _ m_k_MO_60) dMO_collect_8 ?_
    refine k_S (wr := [(u0, .inr (7, [.int 0, .ref u1, .ref u2, .ref u3, .ref u4, .ref u5, .ref u6, .ref u7, .ref u8, .ref u9, .ref u10])), (u1, .inl (cI, 8, .inl md)), (u9, .inl (cI, 4, .inl sz)), (u10, .inl (cJ, 400, .inr (.inl va)))]) (W1 := [(u0, .inr (7, [.int 0, .ref u1, .ref u2, .ref u3, .ref u4, .ref u5, .ref u6, .ref u7, .ref u8, .ref u9, .ref u10])), (u1, .inl (cI, 8, .inl md)), (u9, .inl (cI, 4, .inl sz)), (u10, .inl (cJ, 400, .inr (.inl va)))]) (st1 := [.int (f_in ((nI 3).toInt64) 0 3)]) ⟨hx, hb, hml, hown, hts⟩ (k_MO_in l dC dI cI cJ cG cZ ((nI 3).toInt64) 0 3) (va_cwS 3 hts (k_gS m_l_MO_52 m_st_MO_in m_in_MO m_c_MO_in) rfl rfl rfl (by decide +kernel) ⟨Nat.le_of_ble_eq_true rfl, Nat.le_of_ble_eq_true rfl⟩) hK hF hP hD hS hA [] [0, 1, 2, 3] [0, 1, 2, 3] rfl rfl (by decide) (by decide) (by decide) rfl (by decide) rfl hl.1 rfl (Nat.le_of_ble_eq_true rfl) dMO_collect_11 ⟨Nat.le_of_ble_eq_true rfl, Nat.le_of_ble_eq_true rfl⟩ rfl (fun H locs hP hD hS => ?_)
    refine lv_if_eq (tgt := 36) hx hb dMO_collect_14 (by decide) (fun c_1 => ?_) (fun c_1 => ?_)
    · exact absurd c_1 (by rw [f_in3y (k := 3) (by decide)]; decide)
    · refine lv_iload_n hx hb dMO_collect_17 rfl (lv_at hl 1 rfl) ?_
      refine lv_lload_n hx hb dMO_collect_18 rfl (lv_at hl 2 rfl) ?_
      refine k_S (wr := [(u0, .inr (7, [.int 0, .ref u1, .ref u2, .ref u3, .ref u4, .ref u5, .ref u6, .ref u7, .ref u8, .ref u9, .ref u10])), (u1, .inl (cI, 8, .inl md)), (u9, .inl (cI, 4, .inl sz)), (u10, .inl (cJ, 400, .inr (.inl va)))]) (W1 := [(u0, .inr (7, [.int 0, .ref u1, .ref u2, .ref u3, .ref u4, .ref u5, .ref u6, .ref u7, .ref u8, .ref u9, .ref u10])), (u1, .inl (cI, 8, .inl md)), (u9, .inl (cI, 4, .inl sz)), (u10, .inl (cJ, 400, .inr (.inl va)))]) (st1 := [.int (f_can 3 v)]) ⟨hx, hb, hml, hown, hts⟩ (k_MO_fits l dC dI cI cJ cG cZ 3 v (by decide)) (va_cwS 2 hts (k_gS m_l_MO_62 m_st_MO_fits m_in_MO m_c_MO_fits) rfl rfl rfl (by decide +kernel) ⟨Nat.le_of_ble_eq_true rfl, Nat.le_of_ble_eq_true rfl⟩) hK hF hP hD hS hA [] [0, 1, 2, 3] [0, 1, 2, 3] rfl rfl (by decide) (by decide) (by decide) rfl (by decide) rfl hl.1 rfl (Nat.le_of_ble_eq_true rfl) dMO_collect_19 ⟨Nat.le_of_ble_eq_true rfl, Nat.le_of_ble_eq_true rfl⟩ rfl (fun H locs hP hD hS => ?_)
      refine lv_if_eq (tgt := 36) hx hb dMO_collect_22 (by decide) (fun c_2 => ?_) (fun c_2 => ?_)
      · exact absurd c_2 h1
      · refine lv_aload_n hx hb dMO_collect_25 rfl (lv_at hl 0 rfl) ?_
        refine va_get (D := (dC, dI)) (ci := 7) (v := .ref u9) (C := RMO) (T := TMO) (N := 11) hx hb hts inMO hown hK hP 0 rfl rfl 9 (by decide) (hts _ m_f_MO_36) (fun _ h9 => h9) rfl dMO_collect_26 ?_
        refine lv_iload_n hx hb dMO_collect_29 rfl (lv_at hl 1 rfl) ?_
        refine k_ild (v := sz 3) hx hb hK hP 2 0 rfl rfl (j := 3) rfl (by decide) (by decide) rfl dMO_collect_30 ?_
        refine k_topi (y := nI n) hn ?_
        refine lv_bipush (v := 100) hx hb dMO_collect_31 (by decide) ?_
        refine lv_icmp_ne (tgt := 38) hx hb dMO_collect_33 (by decide) (fun c_3 => ?_) (fun c_3 => ?_)
        · refine lv_aload_n hx hb dMO_collect_38 rfl (lv_at hl 0 rfl) ?_
          refine va_get (D := (dC, dI)) (ci := 7) (v := .ref u10) (C := RMO) (T := TMO) (N := 11) hx hb hts inMO hown hK hP 0 rfl rfl 10 (by decide) (hts _ m_f_MO_39) (fun _ h9 => h9) rfl dMO_collect_39 ?_
          refine lv_bipush (v := 100) hx hb dMO_collect_42 (by decide) ?_
          refine lv_iload_n hx hb dMO_collect_44 rfl (lv_at hl 1 rfl) ?_
          refine lv_imul hx hb dMO_collect_45 ?_
          refine lv_aload_n hx hb dMO_collect_46 rfl (lv_at hl 0 rfl) ?_
          refine va_get (D := (dC, dI)) (ci := 7) (v := .ref u9) (C := RMO) (T := TMO) (N := 11) hx hb hts inMO hown hK hP 0 rfl rfl 9 (by decide) (hts _ m_f_MO_36) (fun _ h9 => h9) rfl dMO_collect_47 ?_
          refine lv_iload_n hx hb dMO_collect_50 rfl (lv_at hl 1 rfl) ?_
          refine k_ild (v := sz 3) hx hb hK hP 2 0 rfl rfl (j := 3) rfl (by decide) (by decide) rfl dMO_collect_51 ?_
          refine k_topi (y := nI n) hn ?_
          refine lv_iadd hx hb dMO_collect_52 ?_
          refine lv_lload_n hx hb dMO_collect_53 rfl (lv_at hl 2 rfl) ?_
          refine k_lst (W1 := [(u0, .inr (7, [.int 0, .ref u1, .ref u2, .ref u3, .ref u4, .ref u5, .ref u6, .ref u7, .ref u8, .ref u9, .ref u10])), (u1, .inl (cI, 8, .inl md)), (u9, .inl (cI, 4, .inl sz)), (u10, .inl (cJ, 400, .inr (.inl (vp_updL va (100 * 3 + n) v))))]) hx hb hK hP hD hS 3 1 rfl rfl (j := (100 * 3 + n)) (f_ixv 3 n) (by omega) (by decide) rfl dMO_collect_54 (fun H locs hP hD hS => ?_)
          refine lv_aload_n hx hb dMO_collect_55 rfl (lv_at hl 0 rfl) ?_
          refine va_get (D := (dC, dI)) (ci := 7) (v := .ref u9) (C := RMO) (T := TMO) (N := 11) hx hb hts inMO hown hK hP 0 rfl rfl 9 (by decide) (hts _ m_f_MO_36) (fun _ h9 => h9) rfl dMO_collect_56 ?_
          refine lv_iload_n hx hb dMO_collect_59 rfl (lv_at hl 1 rfl) ?_
          refine lv_dup2_11 hx hb dMO_collect_60 rfl rfl ?_
          refine k_ild (v := sz 3) hx hb hK hP 2 0 rfl rfl (j := 3) rfl (by decide) (by decide) rfl dMO_collect_61 ?_
          refine k_topi (y := nI n) hn ?_
          refine lv_iconst (v := 1) hx hb dMO_collect_62 (by decide) ?_
          refine lv_iadd hx hb dMO_collect_63 ?_
          refine k_ist (W1 := [(u0, .inr (7, [.int 0, .ref u1, .ref u2, .ref u3, .ref u4, .ref u5, .ref u6, .ref u7, .ref u8, .ref u9, .ref u10])), (u1, .inl (cI, 8, .inl md)), (u9, .inl (cI, 4, .inl (upd sz 3 ((nI n) + 1)))), (u10, .inl (cJ, 400, .inr (.inl (vp_updL va (100 * 3 + n) v))))]) hx hb hK hP hD hS 2 0 rfl rfl (j := 3) rfl (by decide) (by decide) rfl dMO_collect_64 (fun H locs hP hD hS => ?_)
          refine lv_iload_n hx hb dMO_collect_65 rfl (lv_at hl 1 rfl) ?_
          refine lv_iconst (v := 3) hx hb dMO_collect_66 (by decide) ?_
          refine lv_icmp_ne (tgt := 97) hx hb dMO_collect_67 (by decide) (fun c_4 => ?_) (fun c_4 => ?_)
          · exact absurd (show nI 3 = 3 by decide) c_4
          · refine lv_aload_n hx hb dMO_collect_70 rfl (lv_at hl 0 rfl) ?_
            refine va_get (D := (dC, dI)) (ci := 7) (v := .ref u1) (C := RMO) (T := TMO) (N := 11) hx hb hts inMO hown hK hP 0 rfl rfl 1 (by decide) (hts _ m_f_MO_7) (fun _ h9 => h9) rfl dMO_collect_71 ?_
            refine lv_lload_n hx hb dMO_collect_74 rfl (lv_at hl 2 rfl) ?_
            refine lv_l2i hx hb dMO_collect_75 rfl ?_
            refine lv_dup2_11 hx hb dMO_collect_76 rfl rfl ?_
            refine k_ild (v := md j) hx hb hK hP 1 0 rfl rfl (j := j) hv hj (by decide) rfl dMO_collect_77 ?_
            refine lv_aload_n hx hb dMO_collect_78 rfl (lv_at hl 0 rfl) ?_
            refine va_get (D := (dC, dI)) (ci := 7) (v := .ref u1) (C := RMO) (T := TMO) (N := 11) hx hb hts inMO hown hK hP 0 rfl rfl 1 (by decide) (hts _ m_f_MO_7) (fun _ h9 => h9) rfl dMO_collect_79 ?_
            refine lv_lload_n hx hb dMO_collect_82 rfl (lv_at hl 2 rfl) ?_
            refine lv_l2i hx hb dMO_collect_83 rfl ?_
            refine k_ild (v := md j) hx hb hK hP 1 0 rfl rfl (j := j) hv hj (by decide) rfl dMO_collect_84 ?_
            refine lv_bipush (v := 40) hx hb dMO_collect_85 (by decide) ?_
            refine lv_icmp_ge (tgt := 94) hx hb dMO_collect_87 (by decide) (fun c_5 => ?_) (fun c_5 => ?_)
            · exact absurd h3 (Int32.not_lt.mpr c_5)
            · refine lv_iconst (v := 1) hx hb dMO_collect_90 (by decide) ?_
              refine lv_goto (tgt := 95) hx hb dMO_collect_91 (by decide) ?_
              refine lv_iadd hx hb dMO_collect_95 ?_
              refine k_ist (W1 := [(u0, .inr (7, [.int 0, .ref u1, .ref u2, .ref u3, .ref u4, .ref u5, .ref u6, .ref u7, .ref u8, .ref u9, .ref u10])), (u1, .inl (cI, 8, .inl (upd md j ((md j) + 1)))), (u9, .inl (cI, 4, .inl (upd sz 3 ((nI n) + 1)))), (u10, .inl (cJ, 400, .inr (.inl (vp_updL va (100 * 3 + n) v))))]) hx hb hK hP hD hS 1 0 rfl rfl (j := j) hv hj (by decide) rfl dMO_collect_96 (fun H locs hP hD hS => ?_)
              refine lv_aload_n hx hb dMO_collect_97 rfl (lv_at hl 0 rfl) ?_
              refine va_get (D := (dC, dI)) (ci := 7) (v := .ref u9) (C := RMO) (T := TMO) (N := 11) hx hb hts inMO hown hK hP 0 rfl rfl 9 (by decide) (hts _ m_f_MO_36) (fun _ h9 => h9) rfl dMO_collect_98 ?_
              refine lv_iload_n hx hb dMO_collect_101 rfl (lv_at hl 1 rfl) ?_
              refine k_ild (v := ((nI n) + 1)) hx hb hK hP 2 0 rfl rfl (j := 3) rfl (by decide) (by decide) pk_us dMO_collect_102 ?_
              exact k_iret hx hb hr hlocks hP hK hD hS rfl dMO_collect_103 ⟨Nat.le_of_ble_eq_true rfl, Nat.le_of_ble_eq_true rfl⟩
        · exact absurd ((nI_eq (b := 100) (by omega) (by decide)).mp c_3) (by omega)
  · obtain ⟨n, hn0⟩ : ∃ n, n = ns 3 := ⟨_, rfl⟩
    have hn : sz 3 = nI n := by rw [hn0]; exact (hns 3 (by decide)).1
    have hn2 : n ≤ 100 := by rw [hn0]; exact (hns 3 (by decide)).2
    have hn1 : n < 100 := f_notfull hn hn2 h2
    have hk : 3 < 4 := by decide
    obtain ⟨j, hj, hv⟩ := f_can3_j (v := v) (fun h9 => h1 (by rw [show f_can 3 v = f_can3 v from rfl]; exact h9))
    have e1 : f_cc sz (nI 3) v = 3 := by unfold f_cc; rw [if_neg (f_nn (by omega)), if_neg (f_ge4 (by omega)), nI_clamp (by omega), if_neg h1, if_pos h2]
    have h3 : ¬ md j < 40 := by have h9 := h3; rw [hv, nI_clamp (by omega)] at h9; exact h9
    rw [show f_coM md sz (nI 3) v = upd md j (md j + 0) by unfold f_coM f_tM; rw [if_pos e1, hv, nI_clamp (by omega), if_neg h3]; exact f_upd0]
    rw [show f_coZ sz (nI 3) v = upd sz 3 (nI n + 1) by unfold f_coZ; rw [e1, if_neg (by omega), hn], show f_coW sz va (nI 3) v = vp_updL va (100 * 3 + n) v by unfold f_coW; rw [e1, if_neg (by omega), hn, nI_clamp (by omega)], show f_coR sz (nI 3) v = nI n + 1 by unfold f_coR; rw [e1, if_neg (by omega), hn]]
    refine k_of (cc := cMO_collect) (maxL := 4) (ret := (some .int)) (by decide) rfl (Nat.le_of_ble_eq_true rfl) ?_
    intro p e s m below meth c A ls hx hb hr hlocks hml hown hts hA hP hD hK hF hl hS
    have hown : s.vm.findClass RMO = some m.cls := hown
    have hl : lv_has ls 4 [(0, .ref u0), (1, .int (nI 3)), (2, .long v)] := hl
    refine lv_aload_n hx hb dMO_collect_0 rfl (lv_at hl 0 rfl) ?_
    refine lv_iconst (v := 0) hx hb dMO_collect_1 (by decide) ?_
    refine va_put (D := (dC, dI)) (ci := 7) (v := .int 0) (ty := .int) (C := RMO) (T := TMO) (N := 11) hx hb hts inMO tyMO tyMO_ok nmMO hown hK hP hD hS 0 rfl rfl 0 (by decide) (hts _ m_f_MO_44) (fun _ h9 => h9) rfl (by decide +kernel) rfl rfl (Nat.le_of_ble_eq_true rfl) dMO_collect_2 (fun H locs hP hD hS => ?_)
    have hP : va_P (dC, dI) vwCl [(u0, .inr (7, [.int 0, .ref u1, .ref u2, .ref u3, .ref u4, .ref u5, .ref u6, .ref u7, .ref u8, .ref u9, .ref u10])), (u1, .inl (cI, 8, .inl md)), (u9, .inl (cI, 4, .inl sz)), (u10, .inl (cJ, 400, .inr (.inl va)))] H := hP
    have hD : va_D A [(u0, .inr (7, [.int 0, .ref u1, .ref u2, .ref u3, .ref u4, .ref u5, .ref u6, .ref u7, .ref u8, .ref u9, .ref u10])), (u1, .inl (cI, 8, .inl md)), (u9, .inl (cI, 4, .inl sz)), (u10, .inl (cJ, 400, .inr (.inl va)))] := hD
    refine lv_iload_n hx hb dMO_collect_5 rfl (lv_at hl 1 rfl) ?_
    refine lv_i2l hx hb dMO_collect_6 rfl ?_
    refine lv_lconst (v := 0) hx hb dMO_collect_7 (by decide) ?_
    refine lv_ldc2 (v := 3) hx hb hown (hts _ m_k_MO_60) dMO_collect_8 ?_
    refine k_S (wr := [(u0, .inr (7, [.int 0, .ref u1, .ref u2, .ref u3, .ref u4, .ref u5, .ref u6, .ref u7, .ref u8, .ref u9, .ref u10])), (u1, .inl (cI, 8, .inl md)), (u9, .inl (cI, 4, .inl sz)), (u10, .inl (cJ, 400, .inr (.inl va)))]) (W1 := [(u0, .inr (7, [.int 0, .ref u1, .ref u2, .ref u3, .ref u4, .ref u5, .ref u6, .ref u7, .ref u8, .ref u9, .ref u10])), (u1, .inl (cI, 8, .inl md)), (u9, .inl (cI, 4, .inl sz)), (u10, .inl (cJ, 400, .inr (.inl va)))]) (st1 := [.int (f_in ((nI 3).toInt64) 0 3)]) ⟨hx, hb, hml, hown, hts⟩ (k_MO_in l dC dI cI cJ cG cZ ((nI 3).toInt64) 0 3) (va_cwS 3 hts (k_gS m_l_MO_52 m_st_MO_in m_in_MO m_c_MO_in) rfl rfl rfl (by decide +kernel) ⟨Nat.le_of_ble_eq_true rfl, Nat.le_of_ble_eq_true rfl⟩) hK hF hP hD hS hA [] [0, 1, 2, 3] [0, 1, 2, 3] rfl rfl (by decide) (by decide) (by decide) rfl (by decide) rfl hl.1 rfl (Nat.le_of_ble_eq_true rfl) dMO_collect_11 ⟨Nat.le_of_ble_eq_true rfl, Nat.le_of_ble_eq_true rfl⟩ rfl (fun H locs hP hD hS => ?_)
    refine lv_if_eq (tgt := 36) hx hb dMO_collect_14 (by decide) (fun c_1 => ?_) (fun c_1 => ?_)
    · exact absurd c_1 (by rw [f_in3y (k := 3) (by decide)]; decide)
    · refine lv_iload_n hx hb dMO_collect_17 rfl (lv_at hl 1 rfl) ?_
      refine lv_lload_n hx hb dMO_collect_18 rfl (lv_at hl 2 rfl) ?_
      refine k_S (wr := [(u0, .inr (7, [.int 0, .ref u1, .ref u2, .ref u3, .ref u4, .ref u5, .ref u6, .ref u7, .ref u8, .ref u9, .ref u10])), (u1, .inl (cI, 8, .inl md)), (u9, .inl (cI, 4, .inl sz)), (u10, .inl (cJ, 400, .inr (.inl va)))]) (W1 := [(u0, .inr (7, [.int 0, .ref u1, .ref u2, .ref u3, .ref u4, .ref u5, .ref u6, .ref u7, .ref u8, .ref u9, .ref u10])), (u1, .inl (cI, 8, .inl md)), (u9, .inl (cI, 4, .inl sz)), (u10, .inl (cJ, 400, .inr (.inl va)))]) (st1 := [.int (f_can 3 v)]) ⟨hx, hb, hml, hown, hts⟩ (k_MO_fits l dC dI cI cJ cG cZ 3 v (by decide)) (va_cwS 2 hts (k_gS m_l_MO_62 m_st_MO_fits m_in_MO m_c_MO_fits) rfl rfl rfl (by decide +kernel) ⟨Nat.le_of_ble_eq_true rfl, Nat.le_of_ble_eq_true rfl⟩) hK hF hP hD hS hA [] [0, 1, 2, 3] [0, 1, 2, 3] rfl rfl (by decide) (by decide) (by decide) rfl (by decide) rfl hl.1 rfl (Nat.le_of_ble_eq_true rfl) dMO_collect_19 ⟨Nat.le_of_ble_eq_true rfl, Nat.le_of_ble_eq_true rfl⟩ rfl (fun H locs hP hD hS => ?_)
      refine lv_if_eq (tgt := 36) hx hb dMO_collect_22 (by decide) (fun c_2 => ?_) (fun c_2 => ?_)
      · exact absurd c_2 h1
      · refine lv_aload_n hx hb dMO_collect_25 rfl (lv_at hl 0 rfl) ?_
        refine va_get (D := (dC, dI)) (ci := 7) (v := .ref u9) (C := RMO) (T := TMO) (N := 11) hx hb hts inMO hown hK hP 0 rfl rfl 9 (by decide) (hts _ m_f_MO_36) (fun _ h9 => h9) rfl dMO_collect_26 ?_
        refine lv_iload_n hx hb dMO_collect_29 rfl (lv_at hl 1 rfl) ?_
        refine k_ild (v := sz 3) hx hb hK hP 2 0 rfl rfl (j := 3) rfl (by decide) (by decide) rfl dMO_collect_30 ?_
        refine k_topi (y := nI n) hn ?_
        refine lv_bipush (v := 100) hx hb dMO_collect_31 (by decide) ?_
        refine lv_icmp_ne (tgt := 38) hx hb dMO_collect_33 (by decide) (fun c_3 => ?_) (fun c_3 => ?_)
        · refine lv_aload_n hx hb dMO_collect_38 rfl (lv_at hl 0 rfl) ?_
          refine va_get (D := (dC, dI)) (ci := 7) (v := .ref u10) (C := RMO) (T := TMO) (N := 11) hx hb hts inMO hown hK hP 0 rfl rfl 10 (by decide) (hts _ m_f_MO_39) (fun _ h9 => h9) rfl dMO_collect_39 ?_
          refine lv_bipush (v := 100) hx hb dMO_collect_42 (by decide) ?_
          refine lv_iload_n hx hb dMO_collect_44 rfl (lv_at hl 1 rfl) ?_
          refine lv_imul hx hb dMO_collect_45 ?_
          refine lv_aload_n hx hb dMO_collect_46 rfl (lv_at hl 0 rfl) ?_
          refine va_get (D := (dC, dI)) (ci := 7) (v := .ref u9) (C := RMO) (T := TMO) (N := 11) hx hb hts inMO hown hK hP 0 rfl rfl 9 (by decide) (hts _ m_f_MO_36) (fun _ h9 => h9) rfl dMO_collect_47 ?_
          refine lv_iload_n hx hb dMO_collect_50 rfl (lv_at hl 1 rfl) ?_
          refine k_ild (v := sz 3) hx hb hK hP 2 0 rfl rfl (j := 3) rfl (by decide) (by decide) rfl dMO_collect_51 ?_
          refine k_topi (y := nI n) hn ?_
          refine lv_iadd hx hb dMO_collect_52 ?_
          refine lv_lload_n hx hb dMO_collect_53 rfl (lv_at hl 2 rfl) ?_
          refine k_lst (W1 := [(u0, .inr (7, [.int 0, .ref u1, .ref u2, .ref u3, .ref u4, .ref u5, .ref u6, .ref u7, .ref u8, .ref u9, .ref u10])), (u1, .inl (cI, 8, .inl md)), (u9, .inl (cI, 4, .inl sz)), (u10, .inl (cJ, 400, .inr (.inl (vp_updL va (100 * 3 + n) v))))]) hx hb hK hP hD hS 3 1 rfl rfl (j := (100 * 3 + n)) (f_ixv 3 n) (by omega) (by decide) rfl dMO_collect_54 (fun H locs hP hD hS => ?_)
          refine lv_aload_n hx hb dMO_collect_55 rfl (lv_at hl 0 rfl) ?_
          refine va_get (D := (dC, dI)) (ci := 7) (v := .ref u9) (C := RMO) (T := TMO) (N := 11) hx hb hts inMO hown hK hP 0 rfl rfl 9 (by decide) (hts _ m_f_MO_36) (fun _ h9 => h9) rfl dMO_collect_56 ?_
          refine lv_iload_n hx hb dMO_collect_59 rfl (lv_at hl 1 rfl) ?_
          refine lv_dup2_11 hx hb dMO_collect_60 rfl rfl ?_
          refine k_ild (v := sz 3) hx hb hK hP 2 0 rfl rfl (j := 3) rfl (by decide) (by decide) rfl dMO_collect_61 ?_
          refine k_topi (y := nI n) hn ?_
          refine lv_iconst (v := 1) hx hb dMO_collect_62 (by decide) ?_
          refine lv_iadd hx hb dMO_collect_63 ?_
          refine k_ist (W1 := [(u0, .inr (7, [.int 0, .ref u1, .ref u2, .ref u3, .ref u4, .ref u5, .ref u6, .ref u7, .ref u8, .ref u9, .ref u10])), (u1, .inl (cI, 8, .inl md)), (u9, .inl (cI, 4, .inl (upd sz 3 ((nI n) + 1)))), (u10, .inl (cJ, 400, .inr (.inl (vp_updL va (100 * 3 + n) v))))]) hx hb hK hP hD hS 2 0 rfl rfl (j := 3) rfl (by decide) (by decide) rfl dMO_collect_64 (fun H locs hP hD hS => ?_)
          refine lv_iload_n hx hb dMO_collect_65 rfl (lv_at hl 1 rfl) ?_
          refine lv_iconst (v := 3) hx hb dMO_collect_66 (by decide) ?_
          refine lv_icmp_ne (tgt := 97) hx hb dMO_collect_67 (by decide) (fun c_4 => ?_) (fun c_4 => ?_)
          · exact absurd (show nI 3 = 3 by decide) c_4
          · refine lv_aload_n hx hb dMO_collect_70 rfl (lv_at hl 0 rfl) ?_
            refine va_get (D := (dC, dI)) (ci := 7) (v := .ref u1) (C := RMO) (T := TMO) (N := 11) hx hb hts inMO hown hK hP 0 rfl rfl 1 (by decide) (hts _ m_f_MO_7) (fun _ h9 => h9) rfl dMO_collect_71 ?_
            refine lv_lload_n hx hb dMO_collect_74 rfl (lv_at hl 2 rfl) ?_
            refine lv_l2i hx hb dMO_collect_75 rfl ?_
            refine lv_dup2_11 hx hb dMO_collect_76 rfl rfl ?_
            refine k_ild (v := md j) hx hb hK hP 1 0 rfl rfl (j := j) hv hj (by decide) rfl dMO_collect_77 ?_
            refine lv_aload_n hx hb dMO_collect_78 rfl (lv_at hl 0 rfl) ?_
            refine va_get (D := (dC, dI)) (ci := 7) (v := .ref u1) (C := RMO) (T := TMO) (N := 11) hx hb hts inMO hown hK hP 0 rfl rfl 1 (by decide) (hts _ m_f_MO_7) (fun _ h9 => h9) rfl dMO_collect_79 ?_
            refine lv_lload_n hx hb dMO_collect_82 rfl (lv_at hl 2 rfl) ?_
            refine lv_l2i hx hb dMO_collect_83 rfl ?_
            refine k_ild (v := md j) hx hb hK hP 1 0 rfl rfl (j := j) hv hj (by decide) rfl dMO_collect_84 ?_
            refine lv_bipush (v := 40) hx hb dMO_collect_85 (by decide) ?_
            refine lv_icmp_ge (tgt := 94) hx hb dMO_collect_87 (by decide) (fun c_5 => ?_) (fun c_5 => ?_)
            · refine lv_iconst (v := 0) hx hb dMO_collect_94 (by decide) ?_
              refine lv_iadd hx hb dMO_collect_95 ?_
              refine k_ist (W1 := [(u0, .inr (7, [.int 0, .ref u1, .ref u2, .ref u3, .ref u4, .ref u5, .ref u6, .ref u7, .ref u8, .ref u9, .ref u10])), (u1, .inl (cI, 8, .inl (upd md j ((md j) + 0)))), (u9, .inl (cI, 4, .inl (upd sz 3 ((nI n) + 1)))), (u10, .inl (cJ, 400, .inr (.inl (vp_updL va (100 * 3 + n) v))))]) hx hb hK hP hD hS 1 0 rfl rfl (j := j) hv hj (by decide) rfl dMO_collect_96 (fun H locs hP hD hS => ?_)
              refine lv_aload_n hx hb dMO_collect_97 rfl (lv_at hl 0 rfl) ?_
              refine va_get (D := (dC, dI)) (ci := 7) (v := .ref u9) (C := RMO) (T := TMO) (N := 11) hx hb hts inMO hown hK hP 0 rfl rfl 9 (by decide) (hts _ m_f_MO_36) (fun _ h9 => h9) rfl dMO_collect_98 ?_
              refine lv_iload_n hx hb dMO_collect_101 rfl (lv_at hl 1 rfl) ?_
              refine k_ild (v := ((nI n) + 1)) hx hb hK hP 2 0 rfl rfl (j := 3) rfl (by decide) (by decide) pk_us dMO_collect_102 ?_
              exact k_iret hx hb hr hlocks hP hK hD hS rfl dMO_collect_103 ⟨Nat.le_of_ble_eq_true rfl, Nat.le_of_ble_eq_true rfl⟩
            · exact absurd (Int32.not_le.mp c_5) h3
        · exact absurd ((nI_eq (b := 100) (by omega) (by decide)).mp c_3) (by omega)
