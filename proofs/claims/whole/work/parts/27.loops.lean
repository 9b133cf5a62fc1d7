theorem f_sub0 {i b : Int32} : i - b = 0 ↔ b = i := by
  constructor
  · intro h
    have h1 := Int32.sub_add_cancel i b
    rw [h, Int32.zero_add] at h1
    exact h1
  · intro h; rw [h, Int32.sub_self]
theorem f_kbn (x : Int64) (j : Nat) : f_kb x j = decide (f_nat x / 2 ^ j % 2 = 1) := by
  unfold f_kb f_nat
  rw [BitVec.getLsbD, Nat.testBit_eq_decide_div_mod_eq]
theorem f_knI {md : Nat → Int32} {kn : Nat → Int64} {k M i : Nat} (hM : md k = nI M) (hM4 : M ≤ 40) (h1 : 1 ≤ i) (h2 : i ≤ M) : f_isKnown md kn k (nI i) = 0 ↔ f_nat (kn k) / 2 ^ (i - 1) % 2 = 0 := by
  obtain ⟨j, rfl⟩ : ∃ j, i = j + 1 := ⟨i - 1, by omega⟩
  rw [f_isKnown_j hM hM4 (by omega), f_kbn, Nat.add_sub_cancel]
  have h3 := Nat.mod_lt (f_nat (kn k) / 2 ^ j) (show 0 < 2 by decide)
  generalize f_nat (kn k) / 2 ^ j % 2 = y at h3 ⊢
  rcases (show y = 0 ∨ y = 1 by omega) with rfl | rfl
  · simp
  · simp
theorem f_bcS {X i : Nat} (h : 1 ≤ i) : bc X (i + 1 - 1) = bc X (i - 1) + X / 2 ^ (i - 1) % 2 := by
  obtain ⟨j, rfl⟩ : ∃ j, i = j + 1 := ⟨i - 1, by omega⟩
  rfl
theorem f_bc64 {x : Int64} {M : Nat} (hM : M ≤ 64) (h : ∀ j : Nat, M ≤ j → f_kb x j = false) : bc (f_nat x) 64 = bc (f_nat x) M := by
  have key : ∀ n, bc (f_nat x) (M + n) = bc (f_nat x) M := by
    intro n
    induction n with
    | zero => rfl
    | succ n ih =>
      show bc (f_nat x) (M + n) + f_nat x / 2 ^ (M + n) % 2 = _
      have h1 := h (M + n) (by omega)
      rw [f_kbn] at h1
      have h2 := of_decide_eq_false h1
      have h3 := Nat.mod_lt (f_nat x / 2 ^ (M + n)) (show 0 < 2 by decide)
      rw [ih]
      omega
  have h1 := key (64 - M)
  rw [show M + (64 - M) = 64 by omega] at h1
  exact h1
def f_nkW (md : Nat → Int32) (kn : Nat → Int64) (x i : Int32) : Int32 := if f_nk x = 0 then f_nkV md kn x i else 0
theorem f_Pk {md : Nat → Int32} {kn : Nat → Int64} {k a : Nat} (h : ¬ f_isKnown md kn k (nI a) = 0) : f_P md kn k a = true := by unfold f_P; simp [h]
theorem f_Pn {md : Nat → Int32} {kn : Nat → Int64} {k a : Nat} (h : f_isKnown md kn k (nI a) = 0) : ¬ f_P md kn k a = true := by unfold f_P; simp [h]
theorem f_and {P Q : Prop} [Decidable P] [Decidable Q] [Decidable (P ∧ Q)] {y : Int32} (hy : y = if P then 1 else 0) (hn : ¬ y = 0) (hq : Q) : (1 : Int32) = if P ∧ Q then 1 else 0 := by
  rw [if_pos ⟨ite_1 (by rw [← hy]; exact hn), hq⟩]
theorem f_and0 {P Q : Prop} [Decidable P] [Decidable (P ∧ Q)] {y : Int32} (hy : y = if P then 1 else 0) (hn : y = 0) : (0 : Int32) = if P ∧ Q then 1 else 0 := by
  rw [if_neg (fun h9 => ite_0.mp (by rw [← hy]; exact hn) h9.1)]
theorem f_andn {P Q : Prop} [Decidable (P ∧ Q)] (hq : ¬ Q) : (0 : Int32) = if P ∧ Q then 1 else 0 := by rw [if_neg (fun h9 => hq h9.2)]
theorem f_iff {P Q : Prop} [Decidable P] [Decidable Q] (h : P ↔ Q) : (if P then (1 : Int32) else 0) = if Q then 1 else 0 := by
  by_cases hp : P
  · rw [if_pos hp, if_pos (h.mp hp)]
  · rw [if_neg hp, if_neg (fun h9 => hp (h.mpr h9))]
theorem f_step {Q : Prop} {R : Nat → Prop} {i : Nat} [Decidable (Q ∧ ∀ j : Nat, j < i → R j)] [Decidable (Q ∧ ∀ j : Nat, j < i + 1 → R j)] {y y' : Int32} (hy : y = if Q ∧ ∀ j : Nat, j < i → R j then 1 else 0)
    (h0 : y = 0 → y' = 0) (h1 : ¬ y = 0 → R i → y' = 1) (h2 : ¬ y = 0 → ¬ R i → y' = 0) : y' = if Q ∧ ∀ j : Nat, j < i + 1 → R j then 1 else 0 := by
  by_cases h : y = 0
  · rw [h0 h, if_neg]
    intro h9
    refine ite_0.mp (hy.symm.trans h) ⟨h9.1, fun j hj => h9.2 j (by omega)⟩
  · have hp := ite_1 (fun h9 => h (hy.trans h9))
    by_cases hr : R i
    · rw [h1 h hr, if_pos]
      exact ⟨hp.1, lt_s hp.2 hr⟩
    · rw [h2 h hr, if_neg]
      intro h9
      exact hr (h9.2 i (by omega))
theorem f_nend {md : Nat → Int32} {kn : Nat → Int64} {k M a b : Nat} (hM : md k = nI M) (hM4 : M ≤ 40) (hb : b = bc (f_nat (kn k)) (a - 1)) (ha : a ≤ M + 1) (h : md k < nI a) (hkb : ∀ j : Nat, M ≤ j → f_kb (kn k) j = false) : nI b = nI (bc (f_nat (kn k)) 64) := by
  rw [hM] at h
  have h9 : M < a := (nI_ltI (by omega) (by omega)).mp h
  rw [f_bc64 (by omega) hkb, hb, show a - 1 = M by omega]
theorem f_bit1 {y : Nat} (h : ¬ y % 2 = 0) : y % 2 = 1 := by omega
theorem f_first {z xz : Nat} {R : Nat → Prop} [Decidable (z = xz ∧ ∀ j : Nat, j < 0 → R j)] (h : z = xz) : (1 : Int32) = if z = xz ∧ ∀ j : Nat, j < 0 → R j then 1 else 0 := by rw [if_pos ⟨h, lt_0⟩]
theorem f_first0 {z xz : Nat} {R : Nat → Prop} [Decidable (z = xz ∧ ∀ j : Nat, j < 0 → R j)] (h : ¬ z = xz) : (0 : Int32) = if z = xz ∧ ∀ j : Nat, j < 0 → R j then 1 else 0 := by rw [if_neg (fun h9 => h h9.1)]
theorem f_sameI {sm xsm tf xtf lg rg xrg : Nat → Int64} {z q xz xq : Nat} (hz : z ≤ 64) (hxz : xz ≤ 64) (hlg : ∀ j : Nat, j < z → lg j = rg (f_ix q z j)) (hlx : ∀ j : Nat, j < xz → lg (64 + j) = xrg (f_ix xq xz j)) :
    (((z = xz ∧ ∀ j : Nat, j < 64 → (z ≤ j ∨ lg j = lg (64 + j))) ∧ ∀ j : Nat, j < 12 → sm j = xsm j) ∧ ∀ j : Nat, j < 8 → tf j = xtf j) ↔ ((∀ j : Nat, j < 12 → sm j = xsm j) ∧ (z = xz ∧ ∀ j : Nat, j < z → rg (f_ix q z j) = xrg (f_ix xq xz j)) ∧ (∀ j : Nat, j < 8 → tf j = xtf j)) := by
  constructor
  · rintro ⟨⟨⟨h1, h2⟩, h3⟩, h4⟩
    refine ⟨h3, ⟨h1, fun j hj => ?_⟩, h4⟩
    rcases h2 j (by omega) with h5 | h5
    · omega
    · rw [← hlg j hj, ← hlx j (by omega)]; exact h5
  · rintro ⟨h3, ⟨h1, h2⟩, h4⟩
    refine ⟨⟨⟨h1, fun j hj => ?_⟩, h3⟩, h4⟩
    rcases Nat.lt_or_ge j z with h5 | h5
    · right; rw [hlg j h5, hlx j (by omega)]; exact h2 j h5
    · exact Or.inl h5
abbrev rm_MO_numbers : Room := { frames := 1, cells := 0, slots := 0, locals := 22 }
set_option maxHeartbeats 4000000 in
set_option maxRecDepth 100000 in
theorem k_MO_numbers (l : Launch) (dC : Nat → ClassId) (dI : Nat → Nat → Nat) (cI cJ cG cZ : ClassId) (u0 : Nat) (u1 : Nat) (u2 : Nat) (u3 : Nat) (u4 : Nat) (u5 : Nat) (u6 : Nat) (u7 : Nat) (u8 : Nat) (u9 : Nat) (u10 : Nat) (th : Int32) (md : Nat → Int32) (dr : Nat → Int32) (kn : Nat → Int64) (mn : Nat → Nat) (x : Int32) (hmn : ∀ k : Nat, k < 8 → md k = nI (mn k) ∧ mn k ≤ 40) (hkd : ∀ k : Nat, k < 8 → ∀ j : Nat, j < mn k → (dr (40 * k + j) = 0 ↔ f_kb (kn k) j = true)) (hkb : ∀ k : Nat, k < 8 → ∀ j : Nat, mn k ≤ j → f_kb (kn k) j = false) : k_M l yMO_numbers wsMO_numbers rm_MO_numbers (dC, dI) vwCl [(cI, .int), (cJ, .long), (cG, .array .long), (cZ, .boolean)] [.ref u0, .int x] [(u0, .inr (7, [.int th, .ref u1, .ref u2, .ref u3, .ref u4, .ref u5, .ref u6, .ref u7, .ref u8, .ref u9, .ref u10])), (u1, .inl (cI, 8, .inl md)), (u2, .inl (cZ, 320, .inl dr))] (some (.int (f_nb kn x))) [(u0, .inr (7, [.int 0, .ref u1, .ref u2, .ref u3, .ref u4, .ref u5, .ref u6, .ref u7, .ref u8, .ref u9, .ref u10])), (u1, .inl (cI, 8, .inl md)), (u2, .inl (cZ, 320, .inl dr))] := by
  rcases f_isKind_or x with h0 | ⟨k, hk, rfl⟩
  · rw [show f_nb kn x = -1 from if_pos h0]
    refine k_of (cc := cMO_numbers) (maxL := 4) (ret := (some .int)) (by decide) rfl (Nat.le_of_ble_eq_true rfl) ?_
    intro p e s m below meth c A ls hx hb hr hlocks hml hown hts hA hP hD hK hF hl hS
    have hown : s.vm.findClass RMO = some m.cls := hown
    have hl : lv_has ls 4 [(0, .ref u0), (1, .int x)] := hl
    refine lv_aload_n hx hb dMO_numbers_0 rfl (lv_at hl 0 rfl) ?_
    refine lv_iconst (v := 0) hx hb dMO_numbers_1 (by decide) ?_
    refine va_put (D := (dC, dI)) (ci := 7) (v := .int 0) (ty := .int) (C := RMO) (T := TMO) (N := 11) hx hb hts inMO tyMO tyMO_ok nmMO hown hK hP hD hS 0 rfl rfl 0 (by decide) (hts _ m_f_MO_44) (fun _ h9 => h9) rfl (by decide +kernel) rfl rfl (Nat.le_of_ble_eq_true rfl) dMO_numbers_2 (fun H locs hP hD hS => ?_)
    have hP : va_P (dC, dI) vwCl [(u0, .inr (7, [.int 0, .ref u1, .ref u2, .ref u3, .ref u4, .ref u5, .ref u6, .ref u7, .ref u8, .ref u9, .ref u10])), (u1, .inl (cI, 8, .inl md)), (u2, .inl (cZ, 320, .inl dr))] H := hP
    have hD : va_D A [(u0, .inr (7, [.int 0, .ref u1, .ref u2, .ref u3, .ref u4, .ref u5, .ref u6, .ref u7, .ref u8, .ref u9, .ref u10])), (u1, .inl (cI, 8, .inl md)), (u2, .inl (cZ, 320, .inl dr))] := hD
    refine lv_iconst (v := 0) hx hb dMO_numbers_5 (by decide) ?_
    refine lv_istore_n (lv' := [(2, .int 0), (0, .ref u0), (1, .int x)]) hx hb dMO_numbers_6 rfl hl (by decide) rfl (fun ls hl => ?_)
    refine lv_iconst (v := 1) hx hb dMO_numbers_7 (by decide) ?_
    refine lv_istore_n (lv' := [(3, .int 1), (2, .int 0), (0, .ref u0), (1, .int x)]) hx hb dMO_numbers_8 rfl hl (by decide) rfl (fun ls hl => ?_)
    refine lv_iload_n hx hb dMO_numbers_9 rfl (lv_at hl 3 rfl) ?_
    refine k_S (wr := [(u0, .inr (7, [.int 0, .ref u1, .ref u2, .ref u3, .ref u4, .ref u5, .ref u6, .ref u7, .ref u8, .ref u9, .ref u10])), (u1, .inl (cI, 8, .inl md)), (u2, .inl (cZ, 320, .inl dr))]) (W1 := [(u0, .inr (7, [.int 0, .ref u1, .ref u2, .ref u3, .ref u4, .ref u5, .ref u6, .ref u7, .ref u8, .ref u9, .ref u10])), (u1, .inl (cI, 8, .inl md)), (u2, .inl (cZ, 320, .inl dr))]) (st1 := [.int (f_isKind x)]) ⟨hx, hb, hml, hown, hts⟩ (k_MO_isKind l dC dI cI cJ cG cZ x) (va_cwS 1 hts (k_gS m_l_MO_72 m_st_MO_isKind m_in_MO m_c_MO_isKind) rfl rfl rfl (by decide +kernel) ⟨Nat.le_of_ble_eq_true rfl, Nat.le_of_ble_eq_true rfl⟩) hK hF hP hD hS hA [] [0, 1, 2] [0, 1, 2] rfl rfl (by decide) (by decide) (by decide) rfl (by decide) rfl hl.1 rfl (Nat.le_of_ble_eq_true rfl) dMO_numbers_10 ⟨Nat.le_of_ble_eq_true rfl, Nat.le_of_ble_eq_true rfl⟩ rfl (fun H locs hP hD hS => ?_)
    refine lv_if_eq (tgt := 49) hx hb dMO_numbers_13 (by decide) (fun c_1 => ?_) (fun c_1 => ?_)
    · refine lv_iload_n hx hb dMO_numbers_49 rfl (lv_at hl 3 rfl) ?_
      refine k_S (wr := [(u0, .inr (7, [.int 0, .ref u1, .ref u2, .ref u3, .ref u4, .ref u5, .ref u6, .ref u7, .ref u8, .ref u9, .ref u10])), (u1, .inl (cI, 8, .inl md)), (u2, .inl (cZ, 320, .inl dr))]) (W1 := [(u0, .inr (7, [.int 0, .ref u1, .ref u2, .ref u3, .ref u4, .ref u5, .ref u6, .ref u7, .ref u8, .ref u9, .ref u10])), (u1, .inl (cI, 8, .inl md)), (u2, .inl (cZ, 320, .inl dr))]) (st1 := [.int (f_isKind x)]) ⟨hx, hb, hml, hown, hts⟩ (k_MO_isKind l dC dI cI cJ cG cZ x) (va_cwS 1 hts (k_gS m_l_MO_72 m_st_MO_isKind m_in_MO m_c_MO_isKind) rfl rfl rfl (by decide +kernel) ⟨Nat.le_of_ble_eq_true rfl, Nat.le_of_ble_eq_true rfl⟩) hK hF hP hD hS hA [] [0, 1, 2] [0, 1, 2] rfl rfl (by decide) (by decide) (by decide) rfl (by decide) rfl hl.1 rfl (Nat.le_of_ble_eq_true rfl) dMO_numbers_50 ⟨Nat.le_of_ble_eq_true rfl, Nat.le_of_ble_eq_true rfl⟩ rfl (fun H locs hP hD hS => ?_)
      refine lv_if_eq (tgt := 60) hx hb dMO_numbers_53 (by decide) (fun c_2 => ?_) (fun c_2 => ?_)
      · refine lv_iconst (v := (-1)) hx hb dMO_numbers_60 (by decide) ?_
        exact k_iret hx hb hr hlocks hP hK hD hS rfl dMO_numbers_61 ⟨Nat.le_of_ble_eq_true rfl, Nat.le_of_ble_eq_true rfl⟩
      · exact absurd h0 c_2
    · exact absurd h0 c_1
  · rw [show f_nb kn (nI k) = nI (bc (f_nat (kn k)) 64) by unfold f_nb; rw [if_neg (by rw [f_isKind_nI hk]; decide), nI_clamp (by omega)]]
    refine k_of (cc := cMO_numbers) (maxL := 4) (ret := (some .int)) (by decide) rfl (Nat.le_of_ble_eq_true rfl) ?_
    intro p e s m below meth c A ls hx hb hr hlocks hml hown hts hA hP hD hK hF hl hS
    have hown : s.vm.findClass RMO = some m.cls := hown
    have hl : lv_has ls 4 [(0, .ref u0), (1, .int (nI k))] := hl
    refine lv_aload_n hx hb dMO_numbers_0 rfl (lv_at hl 0 rfl) ?_
    refine lv_iconst (v := 0) hx hb dMO_numbers_1 (by decide) ?_
    refine va_put (D := (dC, dI)) (ci := 7) (v := .int 0) (ty := .int) (C := RMO) (T := TMO) (N := 11) hx hb hts inMO tyMO tyMO_ok nmMO hown hK hP hD hS 0 rfl rfl 0 (by decide) (hts _ m_f_MO_44) (fun _ h9 => h9) rfl (by decide +kernel) rfl rfl (Nat.le_of_ble_eq_true rfl) dMO_numbers_2 (fun H locs hP hD hS => ?_)
    have hP : va_P (dC, dI) vwCl [(u0, .inr (7, [.int 0, .ref u1, .ref u2, .ref u3, .ref u4, .ref u5, .ref u6, .ref u7, .ref u8, .ref u9, .ref u10])), (u1, .inl (cI, 8, .inl md)), (u2, .inl (cZ, 320, .inl dr))] H := hP
    have hD : va_D A [(u0, .inr (7, [.int 0, .ref u1, .ref u2, .ref u3, .ref u4, .ref u5, .ref u6, .ref u7, .ref u8, .ref u9, .ref u10])), (u1, .inl (cI, 8, .inl md)), (u2, .inl (cZ, 320, .inl dr))] := hD
    refine lv_iconst (v := 0) hx hb dMO_numbers_5 (by decide) ?_
    refine lv_istore_n (lv' := [(2, .int 0), (0, .ref u0), (1, .int (nI k))]) hx hb dMO_numbers_6 rfl hl (by decide) rfl (fun ls hl => ?_)
    refine lv_iconst (v := 1) hx hb dMO_numbers_7 (by decide) ?_
    refine lv_istore_n (lv' := [(3, .int 1), (2, .int 0), (0, .ref u0), (1, .int (nI k))]) hx hb dMO_numbers_8 rfl hl (by decide) rfl (fun ls hl => ?_)
    have hl : lv_has ls 4 [(3, .int (nI 1)), (2, .int (nI 0)), (0, .ref u0), (1, .int (nI k))] := hl
    have hM := (hmn k hk).1
    have hM4 := (hmn k hk).2
    have lp : ∀ (n a b : Nat), mn k + 1 < a + n → a ≤ mn k + 1 → (b = bc (f_nat (kn k)) (a - 1) ∧ 1 ≤ a) → ∀ (H : Heap) (locs : List Loc), va_P (dC, dI) vwCl [(u0, .inr (7, [.int 0, .ref u1, .ref u2, .ref u3, .ref u4, .ref u5, .ref u6, .ref u7, .ref u8, .ref u9, .ref u10])), (u1, .inl (cI, 8, .inl md)), (u2, .inl (cZ, 320, .inl dr))] H → va_D A [(u0, .inr (7, [.int 0, .ref u1, .ref u2, .ref u3, .ref u4, .ref u5, .ref u6, .ref u7, .ref u8, .ref u9, .ref u10])), (u1, .inl (cI, 8, .inl md)), (u2, .inl (cZ, 320, .inl dr))] → va_S A s.heap H locs → ∀ (ls : Array Slot), lv_has ls 4 [(3, .int (nI a)), (2, .int (nI b)), (0, .ref u0), (1, .int (nI k))] → W p l e rm_MO_numbers s m ([.ref u0, .int (nI k)] : List Value).toArray below meth c H locs 0 0 (MQ below (k_Q (dC, dI) vwCl [(cI, .int), (cJ, .long), (cG, .array .long), (cZ, .boolean)] (some (.int (nI (bc (f_nat (kn k)) 64)))) [(u0, .inr (7, [.int 0, .ref u1, .ref u2, .ref u3, .ref u4, .ref u5, .ref u6, .ref u7, .ref u8, .ref u9, .ref u10])), (u1, .inl (cI, 8, .inl md)), (u2, .inl (cZ, 320, .inl dr))] A) ([.ref u0, .int (nI k)] : List Value).toArray s rm_MO_numbers.cells rm_MO_numbers.slots A) (F0 m 9 ls []) := by
      intro n
      induction n with
      | zero => intro a b h8 h9; exact absurd h8 (by omega)
      | succ n ih =>
        intro a b hn hle hinv H locs hP hD hS ls hl
        refine lv_iload_n hx hb dMO_numbers_9 rfl (lv_at hl 3 rfl) ?_
        refine k_S (wr := [(u0, .inr (7, [.int 0, .ref u1, .ref u2, .ref u3, .ref u4, .ref u5, .ref u6, .ref u7, .ref u8, .ref u9, .ref u10])), (u1, .inl (cI, 8, .inl md)), (u2, .inl (cZ, 320, .inl dr))]) (W1 := [(u0, .inr (7, [.int 0, .ref u1, .ref u2, .ref u3, .ref u4, .ref u5, .ref u6, .ref u7, .ref u8, .ref u9, .ref u10])), (u1, .inl (cI, 8, .inl md)), (u2, .inl (cZ, 320, .inl dr))]) (st1 := [.int (f_isKind (nI k))]) ⟨hx, hb, hml, hown, hts⟩ (k_MO_isKind l dC dI cI cJ cG cZ (nI k)) (va_cwS 1 hts (k_gS m_l_MO_72 m_st_MO_isKind m_in_MO m_c_MO_isKind) rfl rfl rfl (by decide +kernel) ⟨Nat.le_of_ble_eq_true rfl, Nat.le_of_ble_eq_true rfl⟩) hK hF hP hD hS hA [] [0, 1, 2] [0, 1, 2] rfl rfl (by decide) (by decide) (by decide) rfl (by decide) rfl hl.1 rfl (Nat.le_of_ble_eq_true rfl) dMO_numbers_10 ⟨Nat.le_of_ble_eq_true rfl, Nat.le_of_ble_eq_true rfl⟩ rfl (fun H locs hP hD hS => ?_)
        refine lv_if_eq (tgt := 49) hx hb dMO_numbers_13 (by decide) (fun c_1 => ?_) (fun c_1 => ?_)
        · exact absurd c_1 (by rw [f_isKind_nI hk]; decide)
        · refine lv_iload_n hx hb dMO_numbers_16 rfl (lv_at hl 0 rfl) ?_
          refine lv_aload_n hx hb dMO_numbers_17 rfl (lv_at hl 2 rfl) ?_
          refine va_get (D := (dC, dI)) (ci := 7) (v := .ref u1) (C := RMO) (T := TMO) (N := 11) hx hb hts inMO hown hK hP 0 rfl rfl 1 (by decide) (hts _ m_f_MO_7) (fun _ h9 => h9) rfl dMO_numbers_18 ?_
          refine lv_iload_n hx hb dMO_numbers_21 rfl (lv_at hl 3 rfl) ?_
          refine k_ild (v := md k) hx hb hK hP 1 0 rfl rfl (j := k) rfl hk (by decide) rfl dMO_numbers_22 ?_
          refine lv_icmp_gt (tgt := 49) hx hb dMO_numbers_23 (by decide) (fun c_2 => ?_) (fun c_2 => ?_)
          · refine lv_iload_n hx hb dMO_numbers_49 rfl (lv_at hl 3 rfl) ?_
            refine k_S (wr := [(u0, .inr (7, [.int 0, .ref u1, .ref u2, .ref u3, .ref u4, .ref u5, .ref u6, .ref u7, .ref u8, .ref u9, .ref u10])), (u1, .inl (cI, 8, .inl md)), (u2, .inl (cZ, 320, .inl dr))]) (W1 := [(u0, .inr (7, [.int 0, .ref u1, .ref u2, .ref u3, .ref u4, .ref u5, .ref u6, .ref u7, .ref u8, .ref u9, .ref u10])), (u1, .inl (cI, 8, .inl md)), (u2, .inl (cZ, 320, .inl dr))]) (st1 := [.int (f_isKind (nI k))]) ⟨hx, hb, hml, hown, hts⟩ (k_MO_isKind l dC dI cI cJ cG cZ (nI k)) (va_cwS 1 hts (k_gS m_l_MO_72 m_st_MO_isKind m_in_MO m_c_MO_isKind) rfl rfl rfl (by decide +kernel) ⟨Nat.le_of_ble_eq_true rfl, Nat.le_of_ble_eq_true rfl⟩) hK hF hP hD hS hA [] [0, 1, 2] [0, 1, 2] rfl rfl (by decide) (by decide) (by decide) rfl (by decide) rfl hl.1 rfl (Nat.le_of_ble_eq_true rfl) dMO_numbers_50 ⟨Nat.le_of_ble_eq_true rfl, Nat.le_of_ble_eq_true rfl⟩ rfl (fun H locs hP hD hS => ?_)
            refine lv_if_eq (tgt := 60) hx hb dMO_numbers_53 (by decide) (fun c_3 => ?_) (fun c_3 => ?_)
            · exact absurd c_3 (by rw [f_isKind_nI hk]; decide)
            · refine lv_iload_n hx hb dMO_numbers_56 rfl (lv_at hl 1 rfl) ?_
              refine lv_goto (tgt := 61) hx hb dMO_numbers_57 (by decide) ?_
              exact k_iret hx hb hr hlocks hP hK hD hS (f_nend hM hM4 hinv.1 hle c_2 (hkb k hk)) dMO_numbers_61 ⟨Nat.le_of_ble_eq_true rfl, Nat.le_of_ble_eq_true rfl⟩
          · have hlt : a ≤ mn k := by rcases Nat.lt_or_ge (mn k) a with q9 | q9; exact absurd (by rw [hM]; exact nI_lt q9 (by omega)) c_2; exact q9
            refine lv_iload_n hx hb dMO_numbers_26 rfl (lv_at hl 1 rfl) ?_
            refine lv_aload_n hx hb dMO_numbers_27 rfl (lv_at hl 2 rfl) ?_
            refine lv_iload_n hx hb dMO_numbers_28 rfl (lv_at hl 3 rfl) ?_
            refine lv_iload_n hx hb dMO_numbers_29 rfl (lv_at hl 0 rfl) ?_
            refine k_V (wr := []) (W1 := [(u0, .inr (7, [.int 0, .ref u1, .ref u2, .ref u3, .ref u4, .ref u5, .ref u6, .ref u7, .ref u8, .ref u9, .ref u10])), (u1, .inl (cI, 8, .inl md)), (u2, .inl (cZ, 320, .inl dr))]) (st1 := [.int (f_isKnown md kn k (nI a)), .int (nI b)]) ⟨hx, hb, hml, hown, hts⟩ (k_MO_isKnown l dC dI cI cJ cG cZ u0 u1 u2 u3 u4 u5 u6 u7 u8 u9 u10 0 md dr kn mn k (nI a) hmn hkd hk) (cwV 2 hts (k_gV m_l_MO_79 m_i_MO_isKnown m_s_MO_isKnown m_in_MO m_c_MO_isKnown) rfl rfl rfl (by decide +kernel) ⟨Nat.le_of_ble_eq_true rfl, Nat.le_of_ble_eq_true rfl⟩) hK hF hP hD hS hA [0, 1, 2] [] [0, 1, 2] rfl rfl (by decide) (by decide) (by decide) rfl (by decide) rfl rfl rfl rfl hl.1 rfl (Nat.le_of_ble_eq_true rfl) dMO_numbers_30 ⟨Nat.le_of_ble_eq_true rfl, Nat.le_of_ble_eq_true rfl⟩ rfl (fun H locs hP hD hS => ?_)
            refine lv_if_eq (tgt := 40) hx hb dMO_numbers_33 (by decide) (fun c_4 => ?_) (fun c_4 => ?_)
            · refine lv_iconst (v := 0) hx hb dMO_numbers_40 (by decide) ?_
              refine lv_iadd hx hb dMO_numbers_41 ?_
              refine k_topi (y := nI b) (Int32.add_zero _) ?_
              refine lv_istore_n (lv' := [(2, .int (nI b)), (3, .int (nI a)), (0, .ref u0), (1, .int (nI k))]) hx hb dMO_numbers_42 rfl hl (by decide) rfl (fun ls hl => ?_)
              refine lv_iinc (v := nI (a + 1)) (lv' := [(3, .int (nI (a + 1))), (2, .int (nI b)), (0, .ref u0), (1, .int (nI k))]) hx hb dMO_numbers_43 hl (k := 1) rfl (nI_1 _) (by decide) rfl (fun ls hl => ?_)
              refine lv_goto (tgt := 9) hx hb dMO_numbers_46 (by decide) ?_
              exact ih (a + 1) b (by omega) (by omega) ⟨by rw [f_bcS hinv.2, ← hinv.1, (f_knI hM hM4 hinv.2 hlt).mp c_4, Nat.add_zero], by omega⟩ _ _ hP hD hS ls (lv_sub hl [0, 1, 2, 3] rfl)
            · refine lv_iconst (v := 1) hx hb dMO_numbers_36 (by decide) ?_
              refine lv_goto (tgt := 41) hx hb dMO_numbers_37 (by decide) ?_
              refine lv_iadd hx hb dMO_numbers_41 ?_
              refine k_topi (y := nI (b + 1)) (nI_1 b) ?_
              refine lv_istore_n (lv' := [(2, .int (nI (b + 1))), (3, .int (nI a)), (0, .ref u0), (1, .int (nI k))]) hx hb dMO_numbers_42 rfl hl (by decide) rfl (fun ls hl => ?_)
              refine lv_iinc (v := nI (a + 1)) (lv' := [(3, .int (nI (a + 1))), (2, .int (nI (b + 1))), (0, .ref u0), (1, .int (nI k))]) hx hb dMO_numbers_43 hl (k := 1) rfl (nI_1 _) (by decide) rfl (fun ls hl => ?_)
              refine lv_goto (tgt := 9) hx hb dMO_numbers_46 (by decide) ?_
              exact ih (a + 1) (b + 1) (by omega) (by omega) ⟨by rw [f_bcS hinv.2, ← hinv.1, f_bit1 (fun h9 => c_4 ((f_knI hM hM4 hinv.2 hlt).mpr h9))], by omega⟩ _ _ hP hD hS ls (lv_sub hl [0, 1, 2, 3] rfl)
    exact lp (mn k + 1 + 1) 1 0 (by omega) (by omega) ⟨rfl, by decide⟩ _ _ hP hD hS ls hl

abbrev rm_MO_number : Room := { frames := 1, cells := 0, slots := 0, locals := 22 }
set_option maxHeartbeats 4000000 in
set_option maxRecDepth 100000 in
theorem k_MO_number (l : Launch) (dC : Nat → ClassId) (dI : Nat → Nat → Nat) (cI cJ cG cZ : ClassId) (u0 : Nat) (u1 : Nat) (u2 : Nat) (u3 : Nat) (u4 : Nat) (u5 : Nat) (u6 : Nat) (u7 : Nat) (u8 : Nat) (u9 : Nat) (u10 : Nat) (th : Int32) (md : Nat → Int32) (dr : Nat → Int32) (kn : Nat → Int64) (mn : Nat → Nat) (x : Int32) (i : Int32) (hmn : ∀ k : Nat, k < 8 → md k = nI (mn k) ∧ mn k ≤ 40) (hkd : ∀ k : Nat, k < 8 → ∀ j : Nat, j < mn k → (dr (40 * k + j) = 0 ↔ f_kb (kn k) j = true)) : k_M l yMO_number wsMO_number rm_MO_number (dC, dI) vwCl [(cI, .int), (cJ, .long), (cG, .array .long), (cZ, .boolean)] [.ref u0, .int x, .int i] [(u0, .inr (7, [.int th, .ref u1, .ref u2, .ref u3, .ref u4, .ref u5, .ref u6, .ref u7, .ref u8, .ref u9, .ref u10])), (u1, .inl (cI, 8, .inl md)), (u2, .inl (cZ, 320, .inl dr))] (some (.int (f_nkW md kn x i))) [(u0, .inr (7, [.int (f_nk x), .ref u1, .ref u2, .ref u3, .ref u4, .ref u5, .ref u6, .ref u7, .ref u8, .ref u9, .ref u10])), (u1, .inl (cI, 8, .inl md)), (u2, .inl (cZ, 320, .inl dr))] := by
  rcases f_isKind_or x with h0 | ⟨k, hk, rfl⟩
  · have e1 : f_nk x = 1 := if_pos h0
    have e2 : ¬ f_nk x = 0 := by rw [e1]; decide
    rw [show f_nkW md kn x i = 0 from if_neg e2, e1]
    refine k_of (cc := cMO_number) (maxL := 6) (ret := (some .int)) (by decide) rfl (Nat.le_of_ble_eq_true rfl) ?_
    intro p e s m below meth c A ls hx hb hr hlocks hml hown hts hA hP hD hK hF hl hS
    have hown : s.vm.findClass RMO = some m.cls := hown
    have hl : lv_has ls 6 [(0, .ref u0), (1, .int x), (2, .int i)] := hl
    refine lv_iload_n hx hb dMO_number_0 rfl (lv_at hl 1 rfl) ?_
    refine k_S (wr := [(u0, .inr (7, [.int th, .ref u1, .ref u2, .ref u3, .ref u4, .ref u5, .ref u6, .ref u7, .ref u8, .ref u9, .ref u10])), (u1, .inl (cI, 8, .inl md)), (u2, .inl (cZ, 320, .inl dr))]) (W1 := [(u0, .inr (7, [.int th, .ref u1, .ref u2, .ref u3, .ref u4, .ref u5, .ref u6, .ref u7, .ref u8, .ref u9, .ref u10])), (u1, .inl (cI, 8, .inl md)), (u2, .inl (cZ, 320, .inl dr))]) (st1 := [.int (f_isKind x)]) ⟨hx, hb, hml, hown, hts⟩ (k_MO_isKind l dC dI cI cJ cG cZ x) (va_cwS 1 hts (k_gS m_l_MO_72 m_st_MO_isKind m_in_MO m_c_MO_isKind) rfl rfl rfl (by decide +kernel) ⟨Nat.le_of_ble_eq_true rfl, Nat.le_of_ble_eq_true rfl⟩) hK hF hP hD hS hA [] [0, 1, 2] [0, 1, 2] rfl rfl (by decide) (by decide) (by decide) rfl (by decide) rfl hl.1 rfl (Nat.le_of_ble_eq_true rfl) dMO_number_1 ⟨Nat.le_of_ble_eq_true rfl, Nat.le_of_ble_eq_true rfl⟩ rfl (fun H locs hP hD hS => ?_)
    refine lv_if_ne (tgt := 13) hx hb dMO_number_4 (by decide) (fun c_1 => ?_) (fun c_1 => ?_)
    · exact absurd h0 c_1
    · refine lv_aload_n hx hb dMO_number_7 rfl (lv_at hl 0 rfl) ?_
      refine lv_iconst (v := 1) hx hb dMO_number_8 (by decide) ?_
      refine k_V (wr := [(u1, .inl (cI, 8, .inl md)), (u2, .inl (cZ, 320, .inl dr))]) (W1 := [(u0, .inr (7, [.int 1, .ref u1, .ref u2, .ref u3, .ref u4, .ref u5, .ref u6, .ref u7, .ref u8, .ref u9, .ref u10])), (u1, .inl (cI, 8, .inl md)), (u2, .inl (cZ, 320, .inl dr))]) (st1 := [.int 0]) ⟨hx, hb, hml, hown, hts⟩ (k_MO_refuse l dC dI cI cJ cG cZ u0 u1 u2 u3 u4 u5 u6 u7 u8 u9 u10 th 1) (cwV 1 hts (k_gV m_l_MO_75 m_i_MO_refuse m_s_MO_refuse m_in_MO m_c_MO_refuse) rfl rfl rfl (by decide +kernel) ⟨Nat.le_of_ble_eq_true rfl, Nat.le_of_ble_eq_true rfl⟩) hK hF hP hD hS hA [0] [1, 2] [2, 0, 1] rfl rfl (by decide) (by decide) (by decide) rfl (by decide) rfl rfl rfl rfl hl.1 rfl (Nat.le_of_ble_eq_true rfl) dMO_number_9 ⟨Nat.le_of_ble_eq_true rfl, Nat.le_of_ble_eq_true rfl⟩ rfl (fun H locs hP hD hS => ?_)
      exact k_iret hx hb hr hlocks hP hK hD hS rfl dMO_number_12 ⟨Nat.le_of_ble_eq_true rfl, Nat.le_of_ble_eq_true rfl⟩
  · rw [show f_nkW md kn (nI k) i = f_find (f_P md kn k) i (mn k) 1 0 by unfold f_nkW f_nkV; rw [if_pos (f_nk0 hk), nI_clamp (n := k) (by omega), (hmn k hk).1, nI_clamp (by have := (hmn k hk).2; omega)], f_nk0 hk]
    refine k_of (cc := cMO_number) (maxL := 6) (ret := (some .int)) (by decide) rfl (Nat.le_of_ble_eq_true rfl) ?_
    intro p e s m below meth c A ls hx hb hr hlocks hml hown hts hA hP hD hK hF hl hS
    have hown : s.vm.findClass RMO = some m.cls := hown
    have hl : lv_has ls 6 [(0, .ref u0), (1, .int (nI k)), (2, .int i)] := hl
    refine lv_iload_n hx hb dMO_number_0 rfl (lv_at hl 1 rfl) ?_
    refine k_S (wr := [(u0, .inr (7, [.int th, .ref u1, .ref u2, .ref u3, .ref u4, .ref u5, .ref u6, .ref u7, .ref u8, .ref u9, .ref u10])), (u1, .inl (cI, 8, .inl md)), (u2, .inl (cZ, 320, .inl dr))]) (W1 := [(u0, .inr (7, [.int th, .ref u1, .ref u2, .ref u3, .ref u4, .ref u5, .ref u6, .ref u7, .ref u8, .ref u9, .ref u10])), (u1, .inl (cI, 8, .inl md)), (u2, .inl (cZ, 320, .inl dr))]) (st1 := [.int (f_isKind (nI k))]) ⟨hx, hb, hml, hown, hts⟩ (k_MO_isKind l dC dI cI cJ cG cZ (nI k)) (va_cwS 1 hts (k_gS m_l_MO_72 m_st_MO_isKind m_in_MO m_c_MO_isKind) rfl rfl rfl (by decide +kernel) ⟨Nat.le_of_ble_eq_true rfl, Nat.le_of_ble_eq_true rfl⟩) hK hF hP hD hS hA [] [0, 1, 2] [0, 1, 2] rfl rfl (by decide) (by decide) (by decide) rfl (by decide) rfl hl.1 rfl (Nat.le_of_ble_eq_true rfl) dMO_number_1 ⟨Nat.le_of_ble_eq_true rfl, Nat.le_of_ble_eq_true rfl⟩ rfl (fun H locs hP hD hS => ?_)
    refine lv_if_ne (tgt := 13) hx hb dMO_number_4 (by decide) (fun c_1 => ?_) (fun c_1 => ?_)
    · refine lv_aload_n hx hb dMO_number_13 rfl (lv_at hl 0 rfl) ?_
      refine lv_iconst (v := 0) hx hb dMO_number_14 (by decide) ?_
      refine va_put (D := (dC, dI)) (ci := 7) (v := .int 0) (ty := .int) (C := RMO) (T := TMO) (N := 11) hx hb hts inMO tyMO tyMO_ok nmMO hown hK hP hD hS 0 rfl rfl 0 (by decide) (hts _ m_f_MO_44) (fun _ h9 => h9) rfl (by decide +kernel) rfl rfl (Nat.le_of_ble_eq_true rfl) dMO_number_15 (fun H locs hP hD hS => ?_)
      have hP : va_P (dC, dI) vwCl [(u0, .inr (7, [.int 0, .ref u1, .ref u2, .ref u3, .ref u4, .ref u5, .ref u6, .ref u7, .ref u8, .ref u9, .ref u10])), (u1, .inl (cI, 8, .inl md)), (u2, .inl (cZ, 320, .inl dr))] H := hP
      have hD : va_D A [(u0, .inr (7, [.int 0, .ref u1, .ref u2, .ref u3, .ref u4, .ref u5, .ref u6, .ref u7, .ref u8, .ref u9, .ref u10])), (u1, .inl (cI, 8, .inl md)), (u2, .inl (cZ, 320, .inl dr))] := hD
      refine lv_iload_n hx hb dMO_number_18 rfl (lv_at hl 2 rfl) ?_
      refine lv_istore_n (lv' := [(3, .int i), (0, .ref u0), (1, .int (nI k)), (2, .int i)]) hx hb dMO_number_19 rfl hl (by decide) rfl (fun ls hl => ?_)
      refine lv_iconst (v := 1) hx hb dMO_number_20 (by decide) ?_
      refine lv_istore (lv' := [(4, .int 1), (3, .int i), (0, .ref u0), (1, .int (nI k)), (2, .int i)]) hx hb dMO_number_21 hl (by decide) rfl (fun ls hl => ?_)
      have hl : lv_has ls 6 [(4, .int (nI 1)), (3, .int i), (0, .ref u0), (1, .int (nI k)), (2, .int i)] := hl
      have hM := (hmn k hk).1
      have hM4 := (hmn k hk).2
      have lp : ∀ (n a : Nat) (y : Int32), mn k + 1 < a + n → a ≤ mn k + 1 → (∃ b : Nat, y = i - nI b ∧ f_find (f_P md kn k) i (mn k) 1 0 = f_find (f_P md kn k) i (mn k + 1 - a) a b) → ∀ (H : Heap) (locs : List Loc), va_P (dC, dI) vwCl [(u0, .inr (7, [.int 0, .ref u1, .ref u2, .ref u3, .ref u4, .ref u5, .ref u6, .ref u7, .ref u8, .ref u9, .ref u10])), (u1, .inl (cI, 8, .inl md)), (u2, .inl (cZ, 320, .inl dr))] H → va_D A [(u0, .inr (7, [.int 0, .ref u1, .ref u2, .ref u3, .ref u4, .ref u5, .ref u6, .ref u7, .ref u8, .ref u9, .ref u10])), (u1, .inl (cI, 8, .inl md)), (u2, .inl (cZ, 320, .inl dr))] → va_S A s.heap H locs → ∀ (ls : Array Slot), lv_has ls 6 [(4, .int (nI a)), (3, .int y), (0, .ref u0), (1, .int (nI k)), (2, .int i)] → W p l e rm_MO_number s m ([.ref u0, .int (nI k), .int i] : List Value).toArray below meth c H locs 0 0 (MQ below (k_Q (dC, dI) vwCl [(cI, .int), (cJ, .long), (cG, .array .long), (cZ, .boolean)] (some (.int (f_find (f_P md kn k) i (mn k) 1 0))) [(u0, .inr (7, [.int 0, .ref u1, .ref u2, .ref u3, .ref u4, .ref u5, .ref u6, .ref u7, .ref u8, .ref u9, .ref u10])), (u1, .inl (cI, 8, .inl md)), (u2, .inl (cZ, 320, .inl dr))] A) ([.ref u0, .int (nI k), .int i] : List Value).toArray s rm_MO_number.cells rm_MO_number.slots A) (F0 m 23 ls []) := by
        intro n
        induction n with
        | zero => intro a y h8 h9; exact absurd h8 (by omega)
        | succ n ih =>
          intro a y hn hle hinv H locs hP hD hS ls hl
          obtain ⟨b, hy, hG⟩ := hinv
          refine lv_iload hx hb dMO_number_23 (lv_at hl 0 rfl) ?_
          refine lv_aload_n hx hb dMO_number_25 rfl (lv_at hl 2 rfl) ?_
          refine va_get (D := (dC, dI)) (ci := 7) (v := .ref u1) (C := RMO) (T := TMO) (N := 11) hx hb hts inMO hown hK hP 0 rfl rfl 1 (by decide) (hts _ m_f_MO_7) (fun _ h9 => h9) rfl dMO_number_26 ?_
          refine lv_iload_n hx hb dMO_number_29 rfl (lv_at hl 3 rfl) ?_
          refine k_ild (v := md k) hx hb hK hP 1 0 rfl rfl (j := k) rfl hk (by decide) rfl dMO_number_30 ?_
          refine lv_icmp_gt (tgt := 74) hx hb dMO_number_31 (by decide) (fun c_2 => ?_) (fun c_2 => ?_)
          · refine lv_iconst (v := (-1)) hx hb dMO_number_74 (by decide) ?_
            exact k_iret hx hb hr hlocks hP hK hD hS (hG.trans (f_find0 (by have h9 : mn k < a := (nI_ltI (by omega) (by omega)).mp (by rw [← hM]; exact c_2); omega))).symm dMO_number_75 ⟨Nat.le_of_ble_eq_true rfl, Nat.le_of_ble_eq_true rfl⟩
          · have hlt : a ≤ mn k := by rcases Nat.lt_or_ge (mn k) a with q9 | q9; exact absurd (by rw [hM]; exact nI_lt q9 (by omega)) c_2; exact q9
            refine lv_aload_n hx hb dMO_number_34 rfl (lv_at hl 2 rfl) ?_
            refine lv_iload_n hx hb dMO_number_35 rfl (lv_at hl 3 rfl) ?_
            refine lv_iload hx hb dMO_number_36 (lv_at hl 0 rfl) ?_
            refine k_V (wr := []) (W1 := [(u0, .inr (7, [.int 0, .ref u1, .ref u2, .ref u3, .ref u4, .ref u5, .ref u6, .ref u7, .ref u8, .ref u9, .ref u10])), (u1, .inl (cI, 8, .inl md)), (u2, .inl (cZ, 320, .inl dr))]) (st1 := [.int (f_isKnown md kn k (nI a))]) ⟨hx, hb, hml, hown, hts⟩ (k_MO_isKnown l dC dI cI cJ cG cZ u0 u1 u2 u3 u4 u5 u6 u7 u8 u9 u10 0 md dr kn mn k (nI a) hmn hkd hk) (cwV 2 hts (k_gV m_l_MO_79 m_i_MO_isKnown m_s_MO_isKnown m_in_MO m_c_MO_isKnown) rfl rfl rfl (by decide +kernel) ⟨Nat.le_of_ble_eq_true rfl, Nat.le_of_ble_eq_true rfl⟩) hK hF hP hD hS hA [0, 1, 2] [] [0, 1, 2] rfl rfl (by decide) (by decide) (by decide) rfl (by decide) rfl rfl rfl rfl hl.1 rfl (Nat.le_of_ble_eq_true rfl) dMO_number_38 ⟨Nat.le_of_ble_eq_true rfl, Nat.le_of_ble_eq_true rfl⟩ rfl (fun H locs hP hD hS => ?_)
            refine lv_istore (lv' := [(5, .int (f_isKnown md kn k (nI a))), (4, .int (nI a)), (3, .int y), (0, .ref u0), (1, .int (nI k)), (2, .int i)]) hx hb dMO_number_41 hl (by decide) rfl (fun ls hl => ?_)
            refine lv_iload hx hb dMO_number_43 (lv_at hl 0 rfl) ?_
            refine lv_if_eq (tgt := 55) hx hb dMO_number_45 (by decide) (fun c_3 => ?_) (fun c_3 => ?_)
            · refine lv_iload_n hx hb dMO_number_55 rfl (lv_at hl 2 rfl) ?_
              refine lv_iload hx hb dMO_number_56 (lv_at hl 0 rfl) ?_
              refine lv_if_eq (tgt := 65) hx hb dMO_number_58 (by decide) (fun c_4 => ?_) (fun c_4 => ?_)
              · refine lv_iconst (v := 0) hx hb dMO_number_65 (by decide) ?_
                refine lv_isub hx hb dMO_number_66 ?_
                refine lv_istore_n (lv' := [(3, .int (y - 0)), (5, .int (f_isKnown md kn k (nI a))), (4, .int (nI a)), (0, .ref u0), (1, .int (nI k)), (2, .int i)]) hx hb dMO_number_67 rfl hl (by decide) rfl (fun ls hl => ?_)
                refine lv_iinc (v := nI (a + 1)) (lv' := [(4, .int (nI (a + 1))), (3, .int (y - 0)), (5, .int (f_isKnown md kn k (nI a))), (0, .ref u0), (1, .int (nI k)), (2, .int i)]) hx hb dMO_number_68 hl (k := 2) rfl (nI_1 _) (by decide) rfl (fun ls hl => ?_)
                refine lv_goto (tgt := 23) hx hb dMO_number_71 (by decide) ?_
                exact ih (a + 1) (y - 0) (by omega) (by omega) ⟨b, by rw [hy, Int32.sub_zero], hG.trans (f_findN (g := mn k + 1 - (a + 1)) (by omega) (f_Pn c_3))⟩ _ _ hP hD hS ls (lv_sub hl [0, 1, 3, 4, 5] rfl)
              · exact absurd c_3 c_4
            · refine lv_iload_n hx hb dMO_number_48 rfl (lv_at hl 2 rfl) ?_
              refine lv_if_ne (tgt := 55) hx hb dMO_number_49 (by decide) (fun c_5 => ?_) (fun c_5 => ?_)
              · refine lv_iload_n hx hb dMO_number_55 rfl (lv_at hl 2 rfl) ?_
                refine lv_iload hx hb dMO_number_56 (lv_at hl 0 rfl) ?_
                refine lv_if_eq (tgt := 65) hx hb dMO_number_58 (by decide) (fun c_6 => ?_) (fun c_6 => ?_)
                · exact absurd c_6 c_3
                · refine lv_iconst (v := 1) hx hb dMO_number_61 (by decide) ?_
                  refine lv_goto (tgt := 66) hx hb dMO_number_62 (by decide) ?_
                  refine lv_isub hx hb dMO_number_66 ?_
                  refine lv_istore_n (lv' := [(3, .int (y - 1)), (5, .int (f_isKnown md kn k (nI a))), (4, .int (nI a)), (0, .ref u0), (1, .int (nI k)), (2, .int i)]) hx hb dMO_number_67 rfl hl (by decide) rfl (fun ls hl => ?_)
                  refine lv_iinc (v := nI (a + 1)) (lv' := [(4, .int (nI (a + 1))), (3, .int (y - 1)), (5, .int (f_isKnown md kn k (nI a))), (0, .ref u0), (1, .int (nI k)), (2, .int i)]) hx hb dMO_number_68 hl (k := 2) rfl (nI_1 _) (by decide) rfl (fun ls hl => ?_)
                  refine lv_goto (tgt := 23) hx hb dMO_number_71 (by decide) ?_
                  exact ih (a + 1) (y - 1) (by omega) (by omega) ⟨b + 1, by rw [hy, Int32.sub_sub, nI_1], hG.trans (f_findG (g := mn k + 1 - (a + 1)) (by omega) (f_Pk c_3) (fun h9 => c_5 (by rw [hy]; exact f_sub0.mpr h9)))⟩ _ _ hP hD hS ls (lv_sub hl [0, 1, 3, 4, 5] rfl)
              · refine lv_iload hx hb dMO_number_52 (lv_at hl 1 rfl) ?_
                exact k_iret hx hb hr hlocks hP hK hD hS (hG.trans (f_findY (g := mn k + 1 - (a + 1)) (by omega) (f_Pk c_3) (f_sub0.mp (by rw [← hy]; exact c_5)))).symm dMO_number_54 ⟨Nat.le_of_ble_eq_true rfl, Nat.le_of_ble_eq_true rfl⟩
      exact lp (mn k + 1 + 1) 1 i (by omega) (by omega) ⟨0, (Int32.sub_zero i).symm, rfl⟩ _ _ hP hD hS ls hl
    · exact absurd c_1 (by rw [f_isKind_nI hk]; decide)

abbrev rm_MO_same : Room := { frames := 0, cells := 0, slots := 0, locals := 0 }
set_option maxHeartbeats 4000000 in
set_option maxRecDepth 100000 in
theorem k_MO_same (l : Launch) (dC : Nat → ClassId) (dI : Nat → Nat → Nat) (cI cJ cG cZ : ClassId) (u0 : Nat) (u1 : Nat) (u2 : Nat) (u3 : Nat) (u4 : Nat) (u5 : Nat) (u6 : Nat) (u7 : Nat) (u8 : Nat) (u9 : Nat) (u10 : Nat) (th : Int32) (sm : Nat → Int64) (xsm : Nat → Int64) (tf : Nat → Int64) (xtf : Nat → Int64) (lg : Nat → Int64) (rg : Nat → Int64) (xrg : Nat → Int64) (z : Nat) (q : Nat) (xz : Nat) (xq : Nat) (hz : z ≤ 64) (hxz : xz ≤ 64) (hlg : ∀ j : Nat, j < z → lg j = rg (f_ix q z j)) (hlx : ∀ j : Nat, j < xz → lg (64 + j) = xrg (f_ix xq xz j)) : k_M l yMO_same wsMO_same rm_MO_same (dC, dI) vwCl [(cI, .int), (cJ, .long), (cG, .array .long), (cZ, .boolean)] [.ref u0] [(u0, .inr (7, [.int th, .ref u1, .ref u2, .ref u3, .ref u4, .ref u5, .ref u6, .ref u7, .ref u8, .ref u9, .ref u10])), (u5, .inl (cJ, 24, .inr (.inl (f_twoL 12 sm xsm)))), (u6, .inl (cI, 2, .inl (f_lo z xz))), (u7, .inl (cJ, 128, .inr (.inl lg))), (u8, .inl (cJ, 16, .inr (.inl (f_twoL 8 tf xtf))))] (some (.int (if (∀ j : Nat, j < 12 → sm j = xsm j) ∧ (z = xz ∧ ∀ j : Nat, j < z → rg (f_ix q z j) = xrg (f_ix xq xz j)) ∧ (∀ j : Nat, j < 8 → tf j = xtf j) then 1 else 0))) [(u0, .inr (7, [.int 0, .ref u1, .ref u2, .ref u3, .ref u4, .ref u5, .ref u6, .ref u7, .ref u8, .ref u9, .ref u10])), (u5, .inl (cJ, 24, .inr (.inl (f_twoL 12 sm xsm)))), (u6, .inl (cI, 2, .inl (f_lo z xz))), (u7, .inl (cJ, 128, .inr (.inl lg))), (u8, .inl (cJ, 16, .inr (.inl (f_twoL 8 tf xtf))))] := by
  refine k_of (cc := cMO_same) (maxL := 3) (ret := (some .boolean)) (by decide) rfl (Nat.le_of_ble_eq_true rfl) ?_
  intro p e s m below meth c A ls hx hb hr hlocks hml hown hts hA hP hD hK hF hl hS
  have hown : s.vm.findClass RMO = some m.cls := hown
  have hl : lv_has ls 3 [(0, .ref u0)] := hl
  refine lv_aload_n hx hb dMO_same_0 rfl (lv_at hl 0 rfl) ?_
  refine lv_iconst (v := 0) hx hb dMO_same_1 (by decide) ?_
  refine va_put (D := (dC, dI)) (ci := 7) (v := .int 0) (ty := .int) (C := RMO) (T := TMO) (N := 11) hx hb hts inMO tyMO tyMO_ok nmMO hown hK hP hD hS 0 rfl rfl 0 (by decide) (hts _ m_f_MO_44) (fun _ h9 => h9) rfl (by decide +kernel) rfl rfl (Nat.le_of_ble_eq_true rfl) dMO_same_2 (fun H locs hP hD hS => ?_)
  have hP : va_P (dC, dI) vwCl [(u0, .inr (7, [.int 0, .ref u1, .ref u2, .ref u3, .ref u4, .ref u5, .ref u6, .ref u7, .ref u8, .ref u9, .ref u10])), (u5, .inl (cJ, 24, .inr (.inl (f_twoL 12 sm xsm)))), (u6, .inl (cI, 2, .inl (f_lo z xz))), (u7, .inl (cJ, 128, .inr (.inl lg))), (u8, .inl (cJ, 16, .inr (.inl (f_twoL 8 tf xtf))))] H := hP
  have hD : va_D A [(u0, .inr (7, [.int 0, .ref u1, .ref u2, .ref u3, .ref u4, .ref u5, .ref u6, .ref u7, .ref u8, .ref u9, .ref u10])), (u5, .inl (cJ, 24, .inr (.inl (f_twoL 12 sm xsm)))), (u6, .inl (cI, 2, .inl (f_lo z xz))), (u7, .inl (cJ, 128, .inr (.inl lg))), (u8, .inl (cJ, 16, .inr (.inl (f_twoL 8 tf xtf))))] := hD
  refine lv_aload_n hx hb dMO_same_5 rfl (lv_at hl 0 rfl) ?_
  refine va_get (D := (dC, dI)) (ci := 7) (v := .ref u6) (C := RMO) (T := TMO) (N := 11) hx hb hts inMO hown hK hP 0 rfl rfl 6 (by decide) (hts _ m_f_MO_27) (fun _ h9 => h9) rfl dMO_same_6 ?_
  refine lv_iconst (v := 0) hx hb dMO_same_9 (by decide) ?_
  refine k_ild (v := (f_lo z xz) 0) hx hb hK hP 2 0 rfl rfl (j := 0) (by decide) (by decide) (by decide) rfl dMO_same_10 ?_
  refine k_topi (y := nI z) rfl ?_
  refine lv_aload_n hx hb dMO_same_11 rfl (lv_at hl 0 rfl) ?_
  refine va_get (D := (dC, dI)) (ci := 7) (v := .ref u6) (C := RMO) (T := TMO) (N := 11) hx hb hts inMO hown hK hP 0 rfl rfl 6 (by decide) (hts _ m_f_MO_27) (fun _ h9 => h9) rfl dMO_same_12 ?_
  refine lv_iconst (v := 1) hx hb dMO_same_15 (by decide) ?_
  refine k_ild (v := (f_lo z xz) 1) hx hb hK hP 2 0 rfl rfl (j := 1) (by decide) (by decide) (by decide) rfl dMO_same_16 ?_
  refine k_topi (y := nI xz) rfl ?_
  refine lv_icmp_ne (tgt := 24) hx hb dMO_same_17 (by decide) (fun c_1 => ?_) (fun c_1 => ?_)
  · refine lv_iconst (v := 0) hx hb dMO_same_24 (by decide) ?_
    refine lv_istore_n (lv' := [(1, .int 0), (0, .ref u0)]) hx hb dMO_same_25 rfl hl (by decide) rfl (fun ls hl => ?_)
    refine lv_iconst (v := 0) hx hb dMO_same_26 (by decide) ?_
    refine lv_istore_n (lv' := [(2, .int 0), (1, .int 0), (0, .ref u0)]) hx hb dMO_same_27 rfl hl (by decide) rfl (fun ls hl => ?_)
    have hl : lv_has ls 3 [(2, .int (nI 0)), (1, .int 0), (0, .ref u0)] := hl
    have lp : ∀ (n ia : Nat) (ya : Int32), 64 < ia + n → ia ≤ 64 → (ya = if z = xz ∧ ∀ j : Nat, j < ia → (z ≤ j ∨ lg j = lg (64 + j)) then 1 else 0) → ∀ (H : Heap) (locs : List Loc), va_P (dC, dI) vwCl [(u0, .inr (7, [.int 0, .ref u1, .ref u2, .ref u3, .ref u4, .ref u5, .ref u6, .ref u7, .ref u8, .ref u9, .ref u10])), (u5, .inl (cJ, 24, .inr (.inl (f_twoL 12 sm xsm)))), (u6, .inl (cI, 2, .inl (f_lo z xz))), (u7, .inl (cJ, 128, .inr (.inl lg))), (u8, .inl (cJ, 16, .inr (.inl (f_twoL 8 tf xtf))))] H → va_D A [(u0, .inr (7, [.int 0, .ref u1, .ref u2, .ref u3, .ref u4, .ref u5, .ref u6, .ref u7, .ref u8, .ref u9, .ref u10])), (u5, .inl (cJ, 24, .inr (.inl (f_twoL 12 sm xsm)))), (u6, .inl (cI, 2, .inl (f_lo z xz))), (u7, .inl (cJ, 128, .inr (.inl lg))), (u8, .inl (cJ, 16, .inr (.inl (f_twoL 8 tf xtf))))] → va_S A s.heap H locs → ∀ (ls : Array Slot), lv_has ls 3 [(2, .int (nI ia)), (1, .int ya), (0, .ref u0)] → W p l e rm_MO_same s m ([.ref u0] : List Value).toArray below meth c H locs 0 0 (MQ below (k_Q (dC, dI) vwCl [(cI, .int), (cJ, .long), (cG, .array .long), (cZ, .boolean)] (some (.int (if (∀ j : Nat, j < 12 → sm j = xsm j) ∧ (z = xz ∧ ∀ j : Nat, j < z → rg (f_ix q z j) = xrg (f_ix xq xz j)) ∧ (∀ j : Nat, j < 8 → tf j = xtf j) then 1 else 0))) [(u0, .inr (7, [.int 0, .ref u1, .ref u2, .ref u3, .ref u4, .ref u5, .ref u6, .ref u7, .ref u8, .ref u9, .ref u10])), (u5, .inl (cJ, 24, .inr (.inl (f_twoL 12 sm xsm)))), (u6, .inl (cI, 2, .inl (f_lo z xz))), (u7, .inl (cJ, 128, .inr (.inl lg))), (u8, .inl (cJ, 16, .inr (.inl (f_twoL 8 tf xtf))))] A) ([.ref u0] : List Value).toArray s rm_MO_same.cells rm_MO_same.slots A) (F0 m 28 ls []) := by
      intro n
      induction n with
      | zero => intro ia ya h8 h9; exact absurd h8 (by omega)
      | succ n ih =>
        intro ia ya hn hle hinv H locs hP hD hS ls hl
        refine lv_iload_n hx hb dMO_same_28 rfl (lv_at hl 0 rfl) ?_
        refine lv_bipush (v := 64) hx hb dMO_same_29 (by decide) ?_
        refine lv_icmp_ge (tgt := 79) hx hb dMO_same_31 (by decide) (fun c_2 => ?_) (fun c_2 => ?_)
        · have hfin : ia = 64 := by have h9 := (nI_leI (a := 64) (b := ia) (by decide) (by omega)).mp c_2; omega
          have hy1 := hinv
          rw [hfin] at hy1
          refine lv_iconst (v := 0) hx hb dMO_same_79 (by decide) ?_
          refine lv_istore_n (lv' := [(2, .int 0), (1, .int ya), (0, .ref u0)]) hx hb dMO_same_80 rfl hl (by decide) rfl (fun ls hl => ?_)
          have hl : lv_has ls 3 [(2, .int (nI 0)), (1, .int ya), (0, .ref u0)] := hl
          have lp : ∀ (n ib : Nat) (yb : Int32), 12 < ib + n → ib ≤ 12 → (yb = if (z = xz ∧ ∀ j : Nat, j < 64 → (z ≤ j ∨ lg j = lg (64 + j))) ∧ ∀ j : Nat, j < ib → sm j = xsm j then 1 else 0) → ∀ (H : Heap) (locs : List Loc), va_P (dC, dI) vwCl [(u0, .inr (7, [.int 0, .ref u1, .ref u2, .ref u3, .ref u4, .ref u5, .ref u6, .ref u7, .ref u8, .ref u9, .ref u10])), (u5, .inl (cJ, 24, .inr (.inl (f_twoL 12 sm xsm)))), (u6, .inl (cI, 2, .inl (f_lo z xz))), (u7, .inl (cJ, 128, .inr (.inl lg))), (u8, .inl (cJ, 16, .inr (.inl (f_twoL 8 tf xtf))))] H → va_D A [(u0, .inr (7, [.int 0, .ref u1, .ref u2, .ref u3, .ref u4, .ref u5, .ref u6, .ref u7, .ref u8, .ref u9, .ref u10])), (u5, .inl (cJ, 24, .inr (.inl (f_twoL 12 sm xsm)))), (u6, .inl (cI, 2, .inl (f_lo z xz))), (u7, .inl (cJ, 128, .inr (.inl lg))), (u8, .inl (cJ, 16, .inr (.inl (f_twoL 8 tf xtf))))] → va_S A s.heap H locs → ∀ (ls : Array Slot), lv_has ls 3 [(2, .int (nI ib)), (1, .int yb), (0, .ref u0)] → W p l e rm_MO_same s m ([.ref u0] : List Value).toArray below meth c H locs 0 0 (MQ below (k_Q (dC, dI) vwCl [(cI, .int), (cJ, .long), (cG, .array .long), (cZ, .boolean)] (some (.int (if (∀ j : Nat, j < 12 → sm j = xsm j) ∧ (z = xz ∧ ∀ j : Nat, j < z → rg (f_ix q z j) = xrg (f_ix xq xz j)) ∧ (∀ j : Nat, j < 8 → tf j = xtf j) then 1 else 0))) [(u0, .inr (7, [.int 0, .ref u1, .ref u2, .ref u3, .ref u4, .ref u5, .ref u6, .ref u7, .ref u8, .ref u9, .ref u10])), (u5, .inl (cJ, 24, .inr (.inl (f_twoL 12 sm xsm)))), (u6, .inl (cI, 2, .inl (f_lo z xz))), (u7, .inl (cJ, 128, .inr (.inl lg))), (u8, .inl (cJ, 16, .inr (.inl (f_twoL 8 tf xtf))))] A) ([.ref u0] : List Value).toArray s rm_MO_same.cells rm_MO_same.slots A) (F0 m 81 ls []) := by
            intro n
            induction n with
            | zero => intro ib yb h8 h9; exact absurd h8 (by omega)
            | succ n ih =>
              intro ib yb hn hle hinv H locs hP hD hS ls hl
              refine lv_iload_n hx hb dMO_same_81 rfl (lv_at hl 0 rfl) ?_
              refine lv_bipush (v := 12) hx hb dMO_same_82 (by decide) ?_
              refine lv_icmp_ge (tgt := 122) hx hb dMO_same_84 (by decide) (fun c_3 => ?_) (fun c_3 => ?_)
              · have hfinib : ib = 12 := by have h9 := (nI_leI (a := 12) (b := ib) (by decide) (by omega)).mp c_3; omega
                have hy2 := hinv
                rw [hfinib] at hy2
                refine lv_iconst (v := 0) hx hb dMO_same_122 (by decide) ?_
                refine lv_istore_n (lv' := [(2, .int 0), (1, .int yb), (0, .ref u0)]) hx hb dMO_same_123 rfl hl (by decide) rfl (fun ls hl => ?_)
                have hl : lv_has ls 3 [(2, .int (nI 0)), (1, .int yb), (0, .ref u0)] := hl
                have lp : ∀ (n ic : Nat) (yc : Int32), 8 < ic + n → ic ≤ 8 → (yc = if ((z = xz ∧ ∀ j : Nat, j < 64 → (z ≤ j ∨ lg j = lg (64 + j))) ∧ ∀ j : Nat, j < 12 → sm j = xsm j) ∧ ∀ j : Nat, j < ic → tf j = xtf j then 1 else 0) → ∀ (H : Heap) (locs : List Loc), va_P (dC, dI) vwCl [(u0, .inr (7, [.int 0, .ref u1, .ref u2, .ref u3, .ref u4, .ref u5, .ref u6, .ref u7, .ref u8, .ref u9, .ref u10])), (u5, .inl (cJ, 24, .inr (.inl (f_twoL 12 sm xsm)))), (u6, .inl (cI, 2, .inl (f_lo z xz))), (u7, .inl (cJ, 128, .inr (.inl lg))), (u8, .inl (cJ, 16, .inr (.inl (f_twoL 8 tf xtf))))] H → va_D A [(u0, .inr (7, [.int 0, .ref u1, .ref u2, .ref u3, .ref u4, .ref u5, .ref u6, .ref u7, .ref u8, .ref u9, .ref u10])), (u5, .inl (cJ, 24, .inr (.inl (f_twoL 12 sm xsm)))), (u6, .inl (cI, 2, .inl (f_lo z xz))), (u7, .inl (cJ, 128, .inr (.inl lg))), (u8, .inl (cJ, 16, .inr (.inl (f_twoL 8 tf xtf))))] → va_S A s.heap H locs → ∀ (ls : Array Slot), lv_has ls 3 [(2, .int (nI ic)), (1, .int yc), (0, .ref u0)] → W p l e rm_MO_same s m ([.ref u0] : List Value).toArray below meth c H locs 0 0 (MQ below (k_Q (dC, dI) vwCl [(cI, .int), (cJ, .long), (cG, .array .long), (cZ, .boolean)] (some (.int (if (∀ j : Nat, j < 12 → sm j = xsm j) ∧ (z = xz ∧ ∀ j : Nat, j < z → rg (f_ix q z j) = xrg (f_ix xq xz j)) ∧ (∀ j : Nat, j < 8 → tf j = xtf j) then 1 else 0))) [(u0, .inr (7, [.int 0, .ref u1, .ref u2, .ref u3, .ref u4, .ref u5, .ref u6, .ref u7, .ref u8, .ref u9, .ref u10])), (u5, .inl (cJ, 24, .inr (.inl (f_twoL 12 sm xsm)))), (u6, .inl (cI, 2, .inl (f_lo z xz))), (u7, .inl (cJ, 128, .inr (.inl lg))), (u8, .inl (cJ, 16, .inr (.inl (f_twoL 8 tf xtf))))] A) ([.ref u0] : List Value).toArray s rm_MO_same.cells rm_MO_same.slots A) (F0 m 124 ls []) := by
                  intro n
                  induction n with
                  | zero => intro ic yc h8 h9; exact absurd h8 (by omega)
                  | succ n ih =>
                    intro ic yc hn hle hinv H locs hP hD hS ls hl
                    refine lv_iload_n hx hb dMO_same_124 rfl (lv_at hl 0 rfl) ?_
                    refine lv_bipush (v := 8) hx hb dMO_same_125 (by decide) ?_
                    refine lv_icmp_ge (tgt := 165) hx hb dMO_same_127 (by decide) (fun c_4 => ?_) (fun c_4 => ?_)
                    · have hfinic : ic = 8 := by have h9 := (nI_leI (a := 8) (b := ic) (by decide) (by omega)).mp c_4; omega
                      have hy3 := hinv
                      rw [hfinic] at hy3
                      refine lv_iload_n hx hb dMO_same_165 rfl (lv_at hl 1 rfl) ?_
                      exact k_zret hx hb hr hlocks (by rw [hy3]; exact f_nar) hP hK hD hS (hy3.trans (f_iff (f_sameI hz hxz hlg hlx))) dMO_same_166 ⟨Nat.le_of_ble_eq_true rfl, Nat.le_of_ble_eq_true rfl⟩
                    · have hlt : ic < 8 := by rcases Nat.lt_or_ge ic 8 with q9 | q9; exact q9; exact absurd ((n_le (n := 8) rfl (by decide) (by omega)).mpr q9) c_4
                      refine lv_iload_n hx hb dMO_same_130 rfl (lv_at hl 1 rfl) ?_
                      refine lv_if_eq (tgt := 157) hx hb dMO_same_131 (by decide) (fun c_5 => ?_) (fun c_5 => ?_)
                      · refine lv_iconst (v := 0) hx hb dMO_same_157 (by decide) ?_
                        refine lv_istore_n (lv' := [(1, .int 0), (2, .int (nI ic)), (0, .ref u0)]) hx hb dMO_same_158 rfl hl (by decide) rfl (fun ls hl => ?_)
                        refine lv_iinc (v := nI (ic + 1)) (lv' := [(2, .int (nI (ic + 1))), (1, .int 0), (0, .ref u0)]) hx hb dMO_same_159 hl (k := 1) rfl (nI_1 _) (by decide) rfl (fun ls hl => ?_)
                        refine lv_goto (tgt := 124) hx hb dMO_same_162 (by decide) ?_
                        exact ih (ic + 1) 0 (by omega) (by omega) (f_step hinv (fun _ => rfl) (fun h9 => absurd c_5 h9) (fun h9 => absurd c_5 h9)) _ _ hP hD hS ls (lv_sub hl [0, 1, 2] rfl)
                      · refine lv_aload_n hx hb dMO_same_134 rfl (lv_at hl 2 rfl) ?_
                        refine va_get (D := (dC, dI)) (ci := 7) (v := .ref u8) (C := RMO) (T := TMO) (N := 11) hx hb hts inMO hown hK hP 0 rfl rfl 8 (by decide) (hts _ m_f_MO_33) (fun _ h9 => h9) rfl dMO_same_135 ?_
                        refine lv_iload_n hx hb dMO_same_138 rfl (lv_at hl 0 rfl) ?_
                        refine k_lld (v := (f_twoL 8 tf xtf) ic) hx hb hK hP 4 1 rfl rfl (j := ic) rfl (by omega) (by decide) rfl dMO_same_139 ?_
                        refine lv_aload_n hx hb dMO_same_140 rfl (lv_at hl 2 rfl) ?_
                        refine va_get (D := (dC, dI)) (ci := 7) (v := .ref u8) (C := RMO) (T := TMO) (N := 11) hx hb hts inMO hown hK hP 0 rfl rfl 8 (by decide) (hts _ m_f_MO_33) (fun _ h9 => h9) rfl dMO_same_141 ?_
                        refine lv_bipush (v := 8) hx hb dMO_same_144 (by decide) ?_
                        refine lv_iload_n hx hb dMO_same_146 rfl (lv_at hl 0 rfl) ?_
                        refine lv_iadd hx hb dMO_same_147 ?_
                        refine k_lld (v := (f_twoL 8 tf xtf) (8 + ic)) hx hb hK hP 4 1 rfl rfl (j := (8 + ic)) (nI_add 8 ic) (by omega) (by decide) rfl dMO_same_148 ?_
                        refine W.lcmp hx hb dMO_same_149 ?_
                        refine lv_if_ne (tgt := 157) hx hb dMO_same_150 (by decide) (fun c_6 => ?_) (fun c_6 => ?_)
                        · refine lv_iconst (v := 0) hx hb dMO_same_157 (by decide) ?_
                          refine lv_istore_n (lv' := [(1, .int 0), (2, .int (nI ic)), (0, .ref u0)]) hx hb dMO_same_158 rfl hl (by decide) rfl (fun ls hl => ?_)
                          refine lv_iinc (v := nI (ic + 1)) (lv' := [(2, .int (nI (ic + 1))), (1, .int 0), (0, .ref u0)]) hx hb dMO_same_159 hl (k := 1) rfl (nI_1 _) (by decide) rfl (fun ls hl => ?_)
                          refine lv_goto (tgt := 124) hx hb dMO_same_162 (by decide) ?_
                          exact ih (ic + 1) 0 (by omega) (by omega) (f_step hinv (fun h9 => absurd h9 c_5) (fun _ h9 => absurd (n_eq0.mpr (by rw [f_tL0 hlt, f_tL1]; exact h9)) c_6) (fun _ _ => rfl)) _ _ hP hD hS ls (lv_sub hl [0, 1, 2] rfl)
                        · refine lv_iconst (v := 1) hx hb dMO_same_153 (by decide) ?_
                          refine lv_goto (tgt := 158) hx hb dMO_same_154 (by decide) ?_
                          refine lv_istore_n (lv' := [(1, .int 1), (2, .int (nI ic)), (0, .ref u0)]) hx hb dMO_same_158 rfl hl (by decide) rfl (fun ls hl => ?_)
                          refine lv_iinc (v := nI (ic + 1)) (lv' := [(2, .int (nI (ic + 1))), (1, .int 1), (0, .ref u0)]) hx hb dMO_same_159 hl (k := 1) rfl (nI_1 _) (by decide) rfl (fun ls hl => ?_)
                          refine lv_goto (tgt := 124) hx hb dMO_same_162 (by decide) ?_
                          exact ih (ic + 1) 1 (by omega) (by omega) (f_step hinv (fun h9 => absurd h9 c_5) (fun _ _ => rfl) (fun _ h9 => absurd (by have h8 := n_eq0.mp c_6; rw [f_tL0 hlt, f_tL1] at h8; exact h8) h9)) _ _ hP hD hS ls (lv_sub hl [0, 1, 2] rfl)
                exact lp (8 + 1) 0 yb (by omega) (by omega) (hy2.trans (f_iff ⟨fun h9 => ⟨h9, lt_0⟩, And.left⟩)) _ _ hP hD hS ls hl
              · have hlt : ib < 12 := by rcases Nat.lt_or_ge ib 12 with q9 | q9; exact q9; exact absurd ((n_le (n := 12) rfl (by decide) (by omega)).mpr q9) c_3
                refine lv_iload_n hx hb dMO_same_87 rfl (lv_at hl 1 rfl) ?_
                refine lv_if_eq (tgt := 114) hx hb dMO_same_88 (by decide) (fun c_7 => ?_) (fun c_7 => ?_)
                · refine lv_iconst (v := 0) hx hb dMO_same_114 (by decide) ?_
                  refine lv_istore_n (lv' := [(1, .int 0), (2, .int (nI ib)), (0, .ref u0)]) hx hb dMO_same_115 rfl hl (by decide) rfl (fun ls hl => ?_)
                  refine lv_iinc (v := nI (ib + 1)) (lv' := [(2, .int (nI (ib + 1))), (1, .int 0), (0, .ref u0)]) hx hb dMO_same_116 hl (k := 1) rfl (nI_1 _) (by decide) rfl (fun ls hl => ?_)
                  refine lv_goto (tgt := 81) hx hb dMO_same_119 (by decide) ?_
                  exact ih (ib + 1) 0 (by omega) (by omega) (f_step hinv (fun _ => rfl) (fun h9 => absurd c_7 h9) (fun h9 => absurd c_7 h9)) _ _ hP hD hS ls (lv_sub hl [0, 1, 2] rfl)
                · refine lv_aload_n hx hb dMO_same_91 rfl (lv_at hl 2 rfl) ?_
                  refine va_get (D := (dC, dI)) (ci := 7) (v := .ref u5) (C := RMO) (T := TMO) (N := 11) hx hb hts inMO hown hK hP 0 rfl rfl 5 (by decide) (hts _ m_f_MO_24) (fun _ h9 => h9) rfl dMO_same_92 ?_
                  refine lv_iload_n hx hb dMO_same_95 rfl (lv_at hl 0 rfl) ?_
                  refine k_lld (v := (f_twoL 12 sm xsm) ib) hx hb hK hP 1 1 rfl rfl (j := ib) rfl (by omega) (by decide) rfl dMO_same_96 ?_
                  refine lv_aload_n hx hb dMO_same_97 rfl (lv_at hl 2 rfl) ?_
                  refine va_get (D := (dC, dI)) (ci := 7) (v := .ref u5) (C := RMO) (T := TMO) (N := 11) hx hb hts inMO hown hK hP 0 rfl rfl 5 (by decide) (hts _ m_f_MO_24) (fun _ h9 => h9) rfl dMO_same_98 ?_
                  refine lv_bipush (v := 12) hx hb dMO_same_101 (by decide) ?_
                  refine lv_iload_n hx hb dMO_same_103 rfl (lv_at hl 0 rfl) ?_
                  refine lv_iadd hx hb dMO_same_104 ?_
                  refine k_lld (v := (f_twoL 12 sm xsm) (12 + ib)) hx hb hK hP 1 1 rfl rfl (j := (12 + ib)) (nI_add 12 ib) (by omega) (by decide) rfl dMO_same_105 ?_
                  refine W.lcmp hx hb dMO_same_106 ?_
                  refine lv_if_ne (tgt := 114) hx hb dMO_same_107 (by decide) (fun c_8 => ?_) (fun c_8 => ?_)
                  · refine lv_iconst (v := 0) hx hb dMO_same_114 (by decide) ?_
                    refine lv_istore_n (lv' := [(1, .int 0), (2, .int (nI ib)), (0, .ref u0)]) hx hb dMO_same_115 rfl hl (by decide) rfl (fun ls hl => ?_)
                    refine lv_iinc (v := nI (ib + 1)) (lv' := [(2, .int (nI (ib + 1))), (1, .int 0), (0, .ref u0)]) hx hb dMO_same_116 hl (k := 1) rfl (nI_1 _) (by decide) rfl (fun ls hl => ?_)
                    refine lv_goto (tgt := 81) hx hb dMO_same_119 (by decide) ?_
                    exact ih (ib + 1) 0 (by omega) (by omega) (f_step hinv (fun h9 => absurd h9 c_7) (fun _ h9 => absurd (n_eq0.mpr (by rw [f_tL0 hlt, f_tL1]; exact h9)) c_8) (fun _ _ => rfl)) _ _ hP hD hS ls (lv_sub hl [0, 1, 2] rfl)
                  · refine lv_iconst (v := 1) hx hb dMO_same_110 (by decide) ?_
                    refine lv_goto (tgt := 115) hx hb dMO_same_111 (by decide) ?_
                    refine lv_istore_n (lv' := [(1, .int 1), (2, .int (nI ib)), (0, .ref u0)]) hx hb dMO_same_115 rfl hl (by decide) rfl (fun ls hl => ?_)
                    refine lv_iinc (v := nI (ib + 1)) (lv' := [(2, .int (nI (ib + 1))), (1, .int 1), (0, .ref u0)]) hx hb dMO_same_116 hl (k := 1) rfl (nI_1 _) (by decide) rfl (fun ls hl => ?_)
                    refine lv_goto (tgt := 81) hx hb dMO_same_119 (by decide) ?_
                    exact ih (ib + 1) 1 (by omega) (by omega) (f_step hinv (fun h9 => absurd h9 c_7) (fun _ _ => rfl) (fun _ h9 => absurd (by have h8 := n_eq0.mp c_8; rw [f_tL0 hlt, f_tL1] at h8; exact h8) h9)) _ _ hP hD hS ls (lv_sub hl [0, 1, 2] rfl)
          exact lp (12 + 1) 0 ya (by omega) (by omega) (hy1.trans (f_iff ⟨fun h9 => ⟨h9, lt_0⟩, And.left⟩)) _ _ hP hD hS ls hl
        · have hlt : ia < 64 := by rcases Nat.lt_or_ge ia 64 with q9 | q9; exact q9; exact absurd ((n_le (n := 64) rfl (by decide) (by omega)).mpr q9) c_2
          refine lv_iload_n hx hb dMO_same_34 rfl (lv_at hl 1 rfl) ?_
          refine lv_if_eq (tgt := 71) hx hb dMO_same_35 (by decide) (fun c_9 => ?_) (fun c_9 => ?_)
          · refine lv_iconst (v := 0) hx hb dMO_same_71 (by decide) ?_
            refine lv_istore_n (lv' := [(1, .int 0), (2, .int (nI ia)), (0, .ref u0)]) hx hb dMO_same_72 rfl hl (by decide) rfl (fun ls hl => ?_)
            refine lv_iinc (v := nI (ia + 1)) (lv' := [(2, .int (nI (ia + 1))), (1, .int 0), (0, .ref u0)]) hx hb dMO_same_73 hl (k := 1) rfl (nI_1 _) (by decide) rfl (fun ls hl => ?_)
            refine lv_goto (tgt := 28) hx hb dMO_same_76 (by decide) ?_
            exact ih (ia + 1) 0 (by omega) (by omega) (f_step hinv (fun _ => rfl) (fun h9 => absurd c_9 h9) (fun h9 => absurd c_9 h9)) _ _ hP hD hS ls (lv_sub hl [0, 1, 2] rfl)
          · refine lv_iload_n hx hb dMO_same_38 rfl (lv_at hl 0 rfl) ?_
            refine lv_aload_n hx hb dMO_same_39 rfl (lv_at hl 2 rfl) ?_
            refine va_get (D := (dC, dI)) (ci := 7) (v := .ref u6) (C := RMO) (T := TMO) (N := 11) hx hb hts inMO hown hK hP 0 rfl rfl 6 (by decide) (hts _ m_f_MO_27) (fun _ h9 => h9) rfl dMO_same_40 ?_
            refine lv_iconst (v := 0) hx hb dMO_same_43 (by decide) ?_
            refine k_ild (v := (f_lo z xz) 0) hx hb hK hP 2 0 rfl rfl (j := 0) (by decide) (by decide) (by decide) rfl dMO_same_44 ?_
            refine k_topi (y := nI z) rfl ?_
            refine lv_icmp_ge (tgt := 67) hx hb dMO_same_45 (by decide) (fun c_10 => ?_) (fun c_10 => ?_)
            · refine lv_iconst (v := 1) hx hb dMO_same_67 (by decide) ?_
              refine lv_goto (tgt := 72) hx hb dMO_same_68 (by decide) ?_
              refine lv_istore_n (lv' := [(1, .int 1), (2, .int (nI ia)), (0, .ref u0)]) hx hb dMO_same_72 rfl hl (by decide) rfl (fun ls hl => ?_)
              refine lv_iinc (v := nI (ia + 1)) (lv' := [(2, .int (nI (ia + 1))), (1, .int 1), (0, .ref u0)]) hx hb dMO_same_73 hl (k := 1) rfl (nI_1 _) (by decide) rfl (fun ls hl => ?_)
              refine lv_goto (tgt := 28) hx hb dMO_same_76 (by decide) ?_
              exact ih (ia + 1) 1 (by omega) (by omega) (f_step hinv (fun h9 => absurd h9 c_9) (fun _ _ => rfl) (fun _ h9 => absurd (Or.inl ((nI_leI (by omega) (by omega)).mp c_10)) h9)) _ _ hP hD hS ls (lv_sub hl [0, 1, 2] rfl)
            · refine lv_aload_n hx hb dMO_same_48 rfl (lv_at hl 2 rfl) ?_
              refine va_get (D := (dC, dI)) (ci := 7) (v := .ref u7) (C := RMO) (T := TMO) (N := 11) hx hb hts inMO hown hK hP 0 rfl rfl 7 (by decide) (hts _ m_f_MO_30) (fun _ h9 => h9) rfl dMO_same_49 ?_
              refine lv_iload_n hx hb dMO_same_52 rfl (lv_at hl 0 rfl) ?_
              refine k_lld (v := lg ia) hx hb hK hP 3 1 rfl rfl (j := ia) rfl (by omega) (by decide) rfl dMO_same_53 ?_
              refine lv_aload_n hx hb dMO_same_54 rfl (lv_at hl 2 rfl) ?_
              refine va_get (D := (dC, dI)) (ci := 7) (v := .ref u7) (C := RMO) (T := TMO) (N := 11) hx hb hts inMO hown hK hP 0 rfl rfl 7 (by decide) (hts _ m_f_MO_30) (fun _ h9 => h9) rfl dMO_same_55 ?_
              refine lv_bipush (v := 64) hx hb dMO_same_58 (by decide) ?_
              refine lv_iload_n hx hb dMO_same_60 rfl (lv_at hl 0 rfl) ?_
              refine lv_iadd hx hb dMO_same_61 ?_
              refine k_lld (v := lg (64 + ia)) hx hb hK hP 3 1 rfl rfl (j := (64 + ia)) (nI_add 64 ia) (by omega) (by decide) rfl dMO_same_62 ?_
              refine W.lcmp hx hb dMO_same_63 ?_
              refine lv_if_ne (tgt := 71) hx hb dMO_same_64 (by decide) (fun c_11 => ?_) (fun c_11 => ?_)
              · refine lv_iconst (v := 0) hx hb dMO_same_71 (by decide) ?_
                refine lv_istore_n (lv' := [(1, .int 0), (2, .int (nI ia)), (0, .ref u0)]) hx hb dMO_same_72 rfl hl (by decide) rfl (fun ls hl => ?_)
                refine lv_iinc (v := nI (ia + 1)) (lv' := [(2, .int (nI (ia + 1))), (1, .int 0), (0, .ref u0)]) hx hb dMO_same_73 hl (k := 1) rfl (nI_1 _) (by decide) rfl (fun ls hl => ?_)
                refine lv_goto (tgt := 28) hx hb dMO_same_76 (by decide) ?_
                exact ih (ia + 1) 0 (by omega) (by omega) (f_step hinv (fun h9 => absurd h9 c_9) (fun _ h9 => absurd (h9.elim (fun h8 => absurd (nI_le h8 (by omega)) c_10) (fun h8 => n_eq0.mpr h8)) c_11) (fun _ _ => rfl)) _ _ hP hD hS ls (lv_sub hl [0, 1, 2] rfl)
              · refine lv_iconst (v := 1) hx hb dMO_same_67 (by decide) ?_
                refine lv_goto (tgt := 72) hx hb dMO_same_68 (by decide) ?_
                refine lv_istore_n (lv' := [(1, .int 1), (2, .int (nI ia)), (0, .ref u0)]) hx hb dMO_same_72 rfl hl (by decide) rfl (fun ls hl => ?_)
                refine lv_iinc (v := nI (ia + 1)) (lv' := [(2, .int (nI (ia + 1))), (1, .int 1), (0, .ref u0)]) hx hb dMO_same_73 hl (k := 1) rfl (nI_1 _) (by decide) rfl (fun ls hl => ?_)
                refine lv_goto (tgt := 28) hx hb dMO_same_76 (by decide) ?_
                exact ih (ia + 1) 1 (by omega) (by omega) (f_step hinv (fun h9 => absurd h9 c_9) (fun _ _ => rfl) (fun _ h9 => absurd (Or.inr (n_eq0.mp c_11)) h9)) _ _ hP hD hS ls (lv_sub hl [0, 1, 2] rfl)
    exact lp (64 + 1) 0 0 (by omega) (by omega) (f_first0 (fun h9 => c_1 (by rw [h9]))) _ _ hP hD hS ls hl
  · refine lv_iconst (v := 1) hx hb dMO_same_20 (by decide) ?_
    refine lv_goto (tgt := 25) hx hb dMO_same_21 (by decide) ?_
    refine lv_istore_n (lv' := [(1, .int 1), (0, .ref u0)]) hx hb dMO_same_25 rfl hl (by decide) rfl (fun ls hl => ?_)
    refine lv_iconst (v := 0) hx hb dMO_same_26 (by decide) ?_
    refine lv_istore_n (lv' := [(2, .int 0), (1, .int 1), (0, .ref u0)]) hx hb dMO_same_27 rfl hl (by decide) rfl (fun ls hl => ?_)
    have hl : lv_has ls 3 [(2, .int (nI 0)), (1, .int 1), (0, .ref u0)] := hl
    have lp : ∀ (n ia : Nat) (ya : Int32), 64 < ia + n → ia ≤ 64 → (ya = if z = xz ∧ ∀ j : Nat, j < ia → (z ≤ j ∨ lg j = lg (64 + j)) then 1 else 0) → ∀ (H : Heap) (locs : List Loc), va_P (dC, dI) vwCl [(u0, .inr (7, [.int 0, .ref u1, .ref u2, .ref u3, .ref u4, .ref u5, .ref u6, .ref u7, .ref u8, .ref u9, .ref u10])), (u5, .inl (cJ, 24, .inr (.inl (f_twoL 12 sm xsm)))), (u6, .inl (cI, 2, .inl (f_lo z xz))), (u7, .inl (cJ, 128, .inr (.inl lg))), (u8, .inl (cJ, 16, .inr (.inl (f_twoL 8 tf xtf))))] H → va_D A [(u0, .inr (7, [.int 0, .ref u1, .ref u2, .ref u3, .ref u4, .ref u5, .ref u6, .ref u7, .ref u8, .ref u9, .ref u10])), (u5, .inl (cJ, 24, .inr (.inl (f_twoL 12 sm xsm)))), (u6, .inl (cI, 2, .inl (f_lo z xz))), (u7, .inl (cJ, 128, .inr (.inl lg))), (u8, .inl (cJ, 16, .inr (.inl (f_twoL 8 tf xtf))))] → va_S A s.heap H locs → ∀ (ls : Array Slot), lv_has ls 3 [(2, .int (nI ia)), (1, .int ya), (0, .ref u0)] → W p l e rm_MO_same s m ([.ref u0] : List Value).toArray below meth c H locs 0 0 (MQ below (k_Q (dC, dI) vwCl [(cI, .int), (cJ, .long), (cG, .array .long), (cZ, .boolean)] (some (.int (if (∀ j : Nat, j < 12 → sm j = xsm j) ∧ (z = xz ∧ ∀ j : Nat, j < z → rg (f_ix q z j) = xrg (f_ix xq xz j)) ∧ (∀ j : Nat, j < 8 → tf j = xtf j) then 1 else 0))) [(u0, .inr (7, [.int 0, .ref u1, .ref u2, .ref u3, .ref u4, .ref u5, .ref u6, .ref u7, .ref u8, .ref u9, .ref u10])), (u5, .inl (cJ, 24, .inr (.inl (f_twoL 12 sm xsm)))), (u6, .inl (cI, 2, .inl (f_lo z xz))), (u7, .inl (cJ, 128, .inr (.inl lg))), (u8, .inl (cJ, 16, .inr (.inl (f_twoL 8 tf xtf))))] A) ([.ref u0] : List Value).toArray s rm_MO_same.cells rm_MO_same.slots A) (F0 m 28 ls []) := by
      intro n
      induction n with
      | zero => intro ia ya h8 h9; exact absurd h8 (by omega)
      | succ n ih =>
        intro ia ya hn hle hinv H locs hP hD hS ls hl
        refine lv_iload_n hx hb dMO_same_28 rfl (lv_at hl 0 rfl) ?_
        refine lv_bipush (v := 64) hx hb dMO_same_29 (by decide) ?_
        refine lv_icmp_ge (tgt := 79) hx hb dMO_same_31 (by decide) (fun c_12 => ?_) (fun c_12 => ?_)
        · have hfin : ia = 64 := by have h9 := (nI_leI (a := 64) (b := ia) (by decide) (by omega)).mp c_12; omega
          have hy1 := hinv
          rw [hfin] at hy1
          refine lv_iconst (v := 0) hx hb dMO_same_79 (by decide) ?_
          refine lv_istore_n (lv' := [(2, .int 0), (1, .int ya), (0, .ref u0)]) hx hb dMO_same_80 rfl hl (by decide) rfl (fun ls hl => ?_)
          have hl : lv_has ls 3 [(2, .int (nI 0)), (1, .int ya), (0, .ref u0)] := hl
          have lp : ∀ (n ib : Nat) (yb : Int32), 12 < ib + n → ib ≤ 12 → (yb = if (z = xz ∧ ∀ j : Nat, j < 64 → (z ≤ j ∨ lg j = lg (64 + j))) ∧ ∀ j : Nat, j < ib → sm j = xsm j then 1 else 0) → ∀ (H : Heap) (locs : List Loc), va_P (dC, dI) vwCl [(u0, .inr (7, [.int 0, .ref u1, .ref u2, .ref u3, .ref u4, .ref u5, .ref u6, .ref u7, .ref u8, .ref u9, .ref u10])), (u5, .inl (cJ, 24, .inr (.inl (f_twoL 12 sm xsm)))), (u6, .inl (cI, 2, .inl (f_lo z xz))), (u7, .inl (cJ, 128, .inr (.inl lg))), (u8, .inl (cJ, 16, .inr (.inl (f_twoL 8 tf xtf))))] H → va_D A [(u0, .inr (7, [.int 0, .ref u1, .ref u2, .ref u3, .ref u4, .ref u5, .ref u6, .ref u7, .ref u8, .ref u9, .ref u10])), (u5, .inl (cJ, 24, .inr (.inl (f_twoL 12 sm xsm)))), (u6, .inl (cI, 2, .inl (f_lo z xz))), (u7, .inl (cJ, 128, .inr (.inl lg))), (u8, .inl (cJ, 16, .inr (.inl (f_twoL 8 tf xtf))))] → va_S A s.heap H locs → ∀ (ls : Array Slot), lv_has ls 3 [(2, .int (nI ib)), (1, .int yb), (0, .ref u0)] → W p l e rm_MO_same s m ([.ref u0] : List Value).toArray below meth c H locs 0 0 (MQ below (k_Q (dC, dI) vwCl [(cI, .int), (cJ, .long), (cG, .array .long), (cZ, .boolean)] (some (.int (if (∀ j : Nat, j < 12 → sm j = xsm j) ∧ (z = xz ∧ ∀ j : Nat, j < z → rg (f_ix q z j) = xrg (f_ix xq xz j)) ∧ (∀ j : Nat, j < 8 → tf j = xtf j) then 1 else 0))) [(u0, .inr (7, [.int 0, .ref u1, .ref u2, .ref u3, .ref u4, .ref u5, .ref u6, .ref u7, .ref u8, .ref u9, .ref u10])), (u5, .inl (cJ, 24, .inr (.inl (f_twoL 12 sm xsm)))), (u6, .inl (cI, 2, .inl (f_lo z xz))), (u7, .inl (cJ, 128, .inr (.inl lg))), (u8, .inl (cJ, 16, .inr (.inl (f_twoL 8 tf xtf))))] A) ([.ref u0] : List Value).toArray s rm_MO_same.cells rm_MO_same.slots A) (F0 m 81 ls []) := by
            intro n
            induction n with
            | zero => intro ib yb h8 h9; exact absurd h8 (by omega)
            | succ n ih =>
              intro ib yb hn hle hinv H locs hP hD hS ls hl
              refine lv_iload_n hx hb dMO_same_81 rfl (lv_at hl 0 rfl) ?_
              refine lv_bipush (v := 12) hx hb dMO_same_82 (by decide) ?_
              refine lv_icmp_ge (tgt := 122) hx hb dMO_same_84 (by decide) (fun c_13 => ?_) (fun c_13 => ?_)
              · have hfinib : ib = 12 := by have h9 := (nI_leI (a := 12) (b := ib) (by decide) (by omega)).mp c_13; omega
                have hy2 := hinv
                rw [hfinib] at hy2
                refine lv_iconst (v := 0) hx hb dMO_same_122 (by decide) ?_
                refine lv_istore_n (lv' := [(2, .int 0), (1, .int yb), (0, .ref u0)]) hx hb dMO_same_123 rfl hl (by decide) rfl (fun ls hl => ?_)
                have hl : lv_has ls 3 [(2, .int (nI 0)), (1, .int yb), (0, .ref u0)] := hl
                have lp : ∀ (n ic : Nat) (yc : Int32), 8 < ic + n → ic ≤ 8 → (yc = if ((z = xz ∧ ∀ j : Nat, j < 64 → (z ≤ j ∨ lg j = lg (64 + j))) ∧ ∀ j : Nat, j < 12 → sm j = xsm j) ∧ ∀ j : Nat, j < ic → tf j = xtf j then 1 else 0) → ∀ (H : Heap) (locs : List Loc), va_P (dC, dI) vwCl [(u0, .inr (7, [.int 0, .ref u1, .ref u2, .ref u3, .ref u4, .ref u5, .ref u6, .ref u7, .ref u8, .ref u9, .ref u10])), (u5, .inl (cJ, 24, .inr (.inl (f_twoL 12 sm xsm)))), (u6, .inl (cI, 2, .inl (f_lo z xz))), (u7, .inl (cJ, 128, .inr (.inl lg))), (u8, .inl (cJ, 16, .inr (.inl (f_twoL 8 tf xtf))))] H → va_D A [(u0, .inr (7, [.int 0, .ref u1, .ref u2, .ref u3, .ref u4, .ref u5, .ref u6, .ref u7, .ref u8, .ref u9, .ref u10])), (u5, .inl (cJ, 24, .inr (.inl (f_twoL 12 sm xsm)))), (u6, .inl (cI, 2, .inl (f_lo z xz))), (u7, .inl (cJ, 128, .inr (.inl lg))), (u8, .inl (cJ, 16, .inr (.inl (f_twoL 8 tf xtf))))] → va_S A s.heap H locs → ∀ (ls : Array Slot), lv_has ls 3 [(2, .int (nI ic)), (1, .int yc), (0, .ref u0)] → W p l e rm_MO_same s m ([.ref u0] : List Value).toArray below meth c H locs 0 0 (MQ below (k_Q (dC, dI) vwCl [(cI, .int), (cJ, .long), (cG, .array .long), (cZ, .boolean)] (some (.int (if (∀ j : Nat, j < 12 → sm j = xsm j) ∧ (z = xz ∧ ∀ j : Nat, j < z → rg (f_ix q z j) = xrg (f_ix xq xz j)) ∧ (∀ j : Nat, j < 8 → tf j = xtf j) then 1 else 0))) [(u0, .inr (7, [.int 0, .ref u1, .ref u2, .ref u3, .ref u4, .ref u5, .ref u6, .ref u7, .ref u8, .ref u9, .ref u10])), (u5, .inl (cJ, 24, .inr (.inl (f_twoL 12 sm xsm)))), (u6, .inl (cI, 2, .inl (f_lo z xz))), (u7, .inl (cJ, 128, .inr (.inl lg))), (u8, .inl (cJ, 16, .inr (.inl (f_twoL 8 tf xtf))))] A) ([.ref u0] : List Value).toArray s rm_MO_same.cells rm_MO_same.slots A) (F0 m 124 ls []) := by
                  intro n
                  induction n with
                  | zero => intro ic yc h8 h9; exact absurd h8 (by omega)
                  | succ n ih =>
                    intro ic yc hn hle hinv H locs hP hD hS ls hl
                    refine lv_iload_n hx hb dMO_same_124 rfl (lv_at hl 0 rfl) ?_
                    refine lv_bipush (v := 8) hx hb dMO_same_125 (by decide) ?_
                    refine lv_icmp_ge (tgt := 165) hx hb dMO_same_127 (by decide) (fun c_14 => ?_) (fun c_14 => ?_)
                    · have hfinic : ic = 8 := by have h9 := (nI_leI (a := 8) (b := ic) (by decide) (by omega)).mp c_14; omega
                      have hy3 := hinv
                      rw [hfinic] at hy3
                      refine lv_iload_n hx hb dMO_same_165 rfl (lv_at hl 1 rfl) ?_
                      exact k_zret hx hb hr hlocks (by rw [hy3]; exact f_nar) hP hK hD hS (hy3.trans (f_iff (f_sameI hz hxz hlg hlx))) dMO_same_166 ⟨Nat.le_of_ble_eq_true rfl, Nat.le_of_ble_eq_true rfl⟩
                    · have hlt : ic < 8 := by rcases Nat.lt_or_ge ic 8 with q9 | q9; exact q9; exact absurd ((n_le (n := 8) rfl (by decide) (by omega)).mpr q9) c_14
                      refine lv_iload_n hx hb dMO_same_130 rfl (lv_at hl 1 rfl) ?_
                      refine lv_if_eq (tgt := 157) hx hb dMO_same_131 (by decide) (fun c_15 => ?_) (fun c_15 => ?_)
                      · refine lv_iconst (v := 0) hx hb dMO_same_157 (by decide) ?_
                        refine lv_istore_n (lv' := [(1, .int 0), (2, .int (nI ic)), (0, .ref u0)]) hx hb dMO_same_158 rfl hl (by decide) rfl (fun ls hl => ?_)
                        refine lv_iinc (v := nI (ic + 1)) (lv' := [(2, .int (nI (ic + 1))), (1, .int 0), (0, .ref u0)]) hx hb dMO_same_159 hl (k := 1) rfl (nI_1 _) (by decide) rfl (fun ls hl => ?_)
                        refine lv_goto (tgt := 124) hx hb dMO_same_162 (by decide) ?_
                        exact ih (ic + 1) 0 (by omega) (by omega) (f_step hinv (fun _ => rfl) (fun h9 => absurd c_15 h9) (fun h9 => absurd c_15 h9)) _ _ hP hD hS ls (lv_sub hl [0, 1, 2] rfl)
                      · refine lv_aload_n hx hb dMO_same_134 rfl (lv_at hl 2 rfl) ?_
                        refine va_get (D := (dC, dI)) (ci := 7) (v := .ref u8) (C := RMO) (T := TMO) (N := 11) hx hb hts inMO hown hK hP 0 rfl rfl 8 (by decide) (hts _ m_f_MO_33) (fun _ h9 => h9) rfl dMO_same_135 ?_
                        refine lv_iload_n hx hb dMO_same_138 rfl (lv_at hl 0 rfl) ?_
                        refine k_lld (v := (f_twoL 8 tf xtf) ic) hx hb hK hP 4 1 rfl rfl (j := ic) rfl (by omega) (by decide) rfl dMO_same_139 ?_
                        refine lv_aload_n hx hb dMO_same_140 rfl (lv_at hl 2 rfl) ?_
                        refine va_get (D := (dC, dI)) (ci := 7) (v := .ref u8) (C := RMO) (T := TMO) (N := 11) hx hb hts inMO hown hK hP 0 rfl rfl 8 (by decide) (hts _ m_f_MO_33) (fun _ h9 => h9) rfl dMO_same_141 ?_
                        refine lv_bipush (v := 8) hx hb dMO_same_144 (by decide) ?_
                        refine lv_iload_n hx hb dMO_same_146 rfl (lv_at hl 0 rfl) ?_
                        refine lv_iadd hx hb dMO_same_147 ?_
                        refine k_lld (v := (f_twoL 8 tf xtf) (8 + ic)) hx hb hK hP 4 1 rfl rfl (j := (8 + ic)) (nI_add 8 ic) (by omega) (by decide) rfl dMO_same_148 ?_
                        refine W.lcmp hx hb dMO_same_149 ?_
                        refine lv_if_ne (tgt := 157) hx hb dMO_same_150 (by decide) (fun c_16 => ?_) (fun c_16 => ?_)
                        · refine lv_iconst (v := 0) hx hb dMO_same_157 (by decide) ?_
                          refine lv_istore_n (lv' := [(1, .int 0), (2, .int (nI ic)), (0, .ref u0)]) hx hb dMO_same_158 rfl hl (by decide) rfl (fun ls hl => ?_)
                          refine lv_iinc (v := nI (ic + 1)) (lv' := [(2, .int (nI (ic + 1))), (1, .int 0), (0, .ref u0)]) hx hb dMO_same_159 hl (k := 1) rfl (nI_1 _) (by decide) rfl (fun ls hl => ?_)
                          refine lv_goto (tgt := 124) hx hb dMO_same_162 (by decide) ?_
                          exact ih (ic + 1) 0 (by omega) (by omega) (f_step hinv (fun h9 => absurd h9 c_15) (fun _ h9 => absurd (n_eq0.mpr (by rw [f_tL0 hlt, f_tL1]; exact h9)) c_16) (fun _ _ => rfl)) _ _ hP hD hS ls (lv_sub hl [0, 1, 2] rfl)
                        · refine lv_iconst (v := 1) hx hb dMO_same_153 (by decide) ?_
                          refine lv_goto (tgt := 158) hx hb dMO_same_154 (by decide) ?_
                          refine lv_istore_n (lv' := [(1, .int 1), (2, .int (nI ic)), (0, .ref u0)]) hx hb dMO_same_158 rfl hl (by decide) rfl (fun ls hl => ?_)
                          refine lv_iinc (v := nI (ic + 1)) (lv' := [(2, .int (nI (ic + 1))), (1, .int 1), (0, .ref u0)]) hx hb dMO_same_159 hl (k := 1) rfl (nI_1 _) (by decide) rfl (fun ls hl => ?_)
                          refine lv_goto (tgt := 124) hx hb dMO_same_162 (by decide) ?_
                          exact ih (ic + 1) 1 (by omega) (by omega) (f_step hinv (fun h9 => absurd h9 c_15) (fun _ _ => rfl) (fun _ h9 => absurd (by have h8 := n_eq0.mp c_16; rw [f_tL0 hlt, f_tL1] at h8; exact h8) h9)) _ _ hP hD hS ls (lv_sub hl [0, 1, 2] rfl)
                exact lp (8 + 1) 0 yb (by omega) (by omega) (hy2.trans (f_iff ⟨fun h9 => ⟨h9, lt_0⟩, And.left⟩)) _ _ hP hD hS ls hl
              · have hlt : ib < 12 := by rcases Nat.lt_or_ge ib 12 with q9 | q9; exact q9; exact absurd ((n_le (n := 12) rfl (by decide) (by omega)).mpr q9) c_13
                refine lv_iload_n hx hb dMO_same_87 rfl (lv_at hl 1 rfl) ?_
                refine lv_if_eq (tgt := 114) hx hb dMO_same_88 (by decide) (fun c_17 => ?_) (fun c_17 => ?_)
                · refine lv_iconst (v := 0) hx hb dMO_same_114 (by decide) ?_
                  refine lv_istore_n (lv' := [(1, .int 0), (2, .int (nI ib)), (0, .ref u0)]) hx hb dMO_same_115 rfl hl (by decide) rfl (fun ls hl => ?_)
                  refine lv_iinc (v := nI (ib + 1)) (lv' := [(2, .int (nI (ib + 1))), (1, .int 0), (0, .ref u0)]) hx hb dMO_same_116 hl (k := 1) rfl (nI_1 _) (by decide) rfl (fun ls hl => ?_)
                  refine lv_goto (tgt := 81) hx hb dMO_same_119 (by decide) ?_
                  exact ih (ib + 1) 0 (by omega) (by omega) (f_step hinv (fun _ => rfl) (fun h9 => absurd c_17 h9) (fun h9 => absurd c_17 h9)) _ _ hP hD hS ls (lv_sub hl [0, 1, 2] rfl)
                · refine lv_aload_n hx hb dMO_same_91 rfl (lv_at hl 2 rfl) ?_
                  refine va_get (D := (dC, dI)) (ci := 7) (v := .ref u5) (C := RMO) (T := TMO) (N := 11) hx hb hts inMO hown hK hP 0 rfl rfl 5 (by decide) (hts _ m_f_MO_24) (fun _ h9 => h9) rfl dMO_same_92 ?_
                  refine lv_iload_n hx hb dMO_same_95 rfl (lv_at hl 0 rfl) ?_
                  refine k_lld (v := (f_twoL 12 sm xsm) ib) hx hb hK hP 1 1 rfl rfl (j := ib) rfl (by omega) (by decide) rfl dMO_same_96 ?_
                  refine lv_aload_n hx hb dMO_same_97 rfl (lv_at hl 2 rfl) ?_
                  refine va_get (D := (dC, dI)) (ci := 7) (v := .ref u5) (C := RMO) (T := TMO) (N := 11) hx hb hts inMO hown hK hP 0 rfl rfl 5 (by decide) (hts _ m_f_MO_24) (fun _ h9 => h9) rfl dMO_same_98 ?_
                  refine lv_bipush (v := 12) hx hb dMO_same_101 (by decide) ?_
                  refine lv_iload_n hx hb dMO_same_103 rfl (lv_at hl 0 rfl) ?_
                  refine lv_iadd hx hb dMO_same_104 ?_
                  refine k_lld (v := (f_twoL 12 sm xsm) (12 + ib)) hx hb hK hP 1 1 rfl rfl (j := (12 + ib)) (nI_add 12 ib) (by omega) (by decide) rfl dMO_same_105 ?_
                  refine W.lcmp hx hb dMO_same_106 ?_
                  refine lv_if_ne (tgt := 114) hx hb dMO_same_107 (by decide) (fun c_18 => ?_) (fun c_18 => ?_)
                  · refine lv_iconst (v := 0) hx hb dMO_same_114 (by decide) ?_
                    refine lv_istore_n (lv' := [(1, .int 0), (2, .int (nI ib)), (0, .ref u0)]) hx hb dMO_same_115 rfl hl (by decide) rfl (fun ls hl => ?_)
                    refine lv_iinc (v := nI (ib + 1)) (lv' := [(2, .int (nI (ib + 1))), (1, .int 0), (0, .ref u0)]) hx hb dMO_same_116 hl (k := 1) rfl (nI_1 _) (by decide) rfl (fun ls hl => ?_)
                    refine lv_goto (tgt := 81) hx hb dMO_same_119 (by decide) ?_
                    exact ih (ib + 1) 0 (by omega) (by omega) (f_step hinv (fun h9 => absurd h9 c_17) (fun _ h9 => absurd (n_eq0.mpr (by rw [f_tL0 hlt, f_tL1]; exact h9)) c_18) (fun _ _ => rfl)) _ _ hP hD hS ls (lv_sub hl [0, 1, 2] rfl)
                  · refine lv_iconst (v := 1) hx hb dMO_same_110 (by decide) ?_
                    refine lv_goto (tgt := 115) hx hb dMO_same_111 (by decide) ?_
                    refine lv_istore_n (lv' := [(1, .int 1), (2, .int (nI ib)), (0, .ref u0)]) hx hb dMO_same_115 rfl hl (by decide) rfl (fun ls hl => ?_)
                    refine lv_iinc (v := nI (ib + 1)) (lv' := [(2, .int (nI (ib + 1))), (1, .int 1), (0, .ref u0)]) hx hb dMO_same_116 hl (k := 1) rfl (nI_1 _) (by decide) rfl (fun ls hl => ?_)
                    refine lv_goto (tgt := 81) hx hb dMO_same_119 (by decide) ?_
                    exact ih (ib + 1) 1 (by omega) (by omega) (f_step hinv (fun h9 => absurd h9 c_17) (fun _ _ => rfl) (fun _ h9 => absurd (by have h8 := n_eq0.mp c_18; rw [f_tL0 hlt, f_tL1] at h8; exact h8) h9)) _ _ hP hD hS ls (lv_sub hl [0, 1, 2] rfl)
          exact lp (12 + 1) 0 ya (by omega) (by omega) (hy1.trans (f_iff ⟨fun h9 => ⟨h9, lt_0⟩, And.left⟩)) _ _ hP hD hS ls hl
        · have hlt : ia < 64 := by rcases Nat.lt_or_ge ia 64 with q9 | q9; exact q9; exact absurd ((n_le (n := 64) rfl (by decide) (by omega)).mpr q9) c_12
          refine lv_iload_n hx hb dMO_same_34 rfl (lv_at hl 1 rfl) ?_
          refine lv_if_eq (tgt := 71) hx hb dMO_same_35 (by decide) (fun c_19 => ?_) (fun c_19 => ?_)
          · refine lv_iconst (v := 0) hx hb dMO_same_71 (by decide) ?_
            refine lv_istore_n (lv' := [(1, .int 0), (2, .int (nI ia)), (0, .ref u0)]) hx hb dMO_same_72 rfl hl (by decide) rfl (fun ls hl => ?_)
            refine lv_iinc (v := nI (ia + 1)) (lv' := [(2, .int (nI (ia + 1))), (1, .int 0), (0, .ref u0)]) hx hb dMO_same_73 hl (k := 1) rfl (nI_1 _) (by decide) rfl (fun ls hl => ?_)
            refine lv_goto (tgt := 28) hx hb dMO_same_76 (by decide) ?_
            exact ih (ia + 1) 0 (by omega) (by omega) (f_step hinv (fun _ => rfl) (fun h9 => absurd c_19 h9) (fun h9 => absurd c_19 h9)) _ _ hP hD hS ls (lv_sub hl [0, 1, 2] rfl)
          · refine lv_iload_n hx hb dMO_same_38 rfl (lv_at hl 0 rfl) ?_
            refine lv_aload_n hx hb dMO_same_39 rfl (lv_at hl 2 rfl) ?_
            refine va_get (D := (dC, dI)) (ci := 7) (v := .ref u6) (C := RMO) (T := TMO) (N := 11) hx hb hts inMO hown hK hP 0 rfl rfl 6 (by decide) (hts _ m_f_MO_27) (fun _ h9 => h9) rfl dMO_same_40 ?_
            refine lv_iconst (v := 0) hx hb dMO_same_43 (by decide) ?_
            refine k_ild (v := (f_lo z xz) 0) hx hb hK hP 2 0 rfl rfl (j := 0) (by decide) (by decide) (by decide) rfl dMO_same_44 ?_
            refine k_topi (y := nI z) rfl ?_
            refine lv_icmp_ge (tgt := 67) hx hb dMO_same_45 (by decide) (fun c_20 => ?_) (fun c_20 => ?_)
            · refine lv_iconst (v := 1) hx hb dMO_same_67 (by decide) ?_
              refine lv_goto (tgt := 72) hx hb dMO_same_68 (by decide) ?_
              refine lv_istore_n (lv' := [(1, .int 1), (2, .int (nI ia)), (0, .ref u0)]) hx hb dMO_same_72 rfl hl (by decide) rfl (fun ls hl => ?_)
              refine lv_iinc (v := nI (ia + 1)) (lv' := [(2, .int (nI (ia + 1))), (1, .int 1), (0, .ref u0)]) hx hb dMO_same_73 hl (k := 1) rfl (nI_1 _) (by decide) rfl (fun ls hl => ?_)
              refine lv_goto (tgt := 28) hx hb dMO_same_76 (by decide) ?_
              exact ih (ia + 1) 1 (by omega) (by omega) (f_step hinv (fun h9 => absurd h9 c_19) (fun _ _ => rfl) (fun _ h9 => absurd (Or.inl ((nI_leI (by omega) (by omega)).mp c_20)) h9)) _ _ hP hD hS ls (lv_sub hl [0, 1, 2] rfl)
            · refine lv_aload_n hx hb dMO_same_48 rfl (lv_at hl 2 rfl) ?_
              refine va_get (D := (dC, dI)) (ci := 7) (v := .ref u7) (C := RMO) (T := TMO) (N := 11) hx hb hts inMO hown hK hP 0 rfl rfl 7 (by decide) (hts _ m_f_MO_30) (fun _ h9 => h9) rfl dMO_same_49 ?_
              refine lv_iload_n hx hb dMO_same_52 rfl (lv_at hl 0 rfl) ?_
              refine k_lld (v := lg ia) hx hb hK hP 3 1 rfl rfl (j := ia) rfl (by omega) (by decide) rfl dMO_same_53 ?_
              refine lv_aload_n hx hb dMO_same_54 rfl (lv_at hl 2 rfl) ?_
              refine va_get (D := (dC, dI)) (ci := 7) (v := .ref u7) (C := RMO) (T := TMO) (N := 11) hx hb hts inMO hown hK hP 0 rfl rfl 7 (by decide) (hts _ m_f_MO_30) (fun _ h9 => h9) rfl dMO_same_55 ?_
              refine lv_bipush (v := 64) hx hb dMO_same_58 (by decide) ?_
              refine lv_iload_n hx hb dMO_same_60 rfl (lv_at hl 0 rfl) ?_
              refine lv_iadd hx hb dMO_same_61 ?_
              refine k_lld (v := lg (64 + ia)) hx hb hK hP 3 1 rfl rfl (j := (64 + ia)) (nI_add 64 ia) (by omega) (by decide) rfl dMO_same_62 ?_
              refine W.lcmp hx hb dMO_same_63 ?_
              refine lv_if_ne (tgt := 71) hx hb dMO_same_64 (by decide) (fun c_21 => ?_) (fun c_21 => ?_)
              · refine lv_iconst (v := 0) hx hb dMO_same_71 (by decide) ?_
                refine lv_istore_n (lv' := [(1, .int 0), (2, .int (nI ia)), (0, .ref u0)]) hx hb dMO_same_72 rfl hl (by decide) rfl (fun ls hl => ?_)
                refine lv_iinc (v := nI (ia + 1)) (lv' := [(2, .int (nI (ia + 1))), (1, .int 0), (0, .ref u0)]) hx hb dMO_same_73 hl (k := 1) rfl (nI_1 _) (by decide) rfl (fun ls hl => ?_)
                refine lv_goto (tgt := 28) hx hb dMO_same_76 (by decide) ?_
                exact ih (ia + 1) 0 (by omega) (by omega) (f_step hinv (fun h9 => absurd h9 c_19) (fun _ h9 => absurd (h9.elim (fun h8 => absurd (nI_le h8 (by omega)) c_20) (fun h8 => n_eq0.mpr h8)) c_21) (fun _ _ => rfl)) _ _ hP hD hS ls (lv_sub hl [0, 1, 2] rfl)
              · refine lv_iconst (v := 1) hx hb dMO_same_67 (by decide) ?_
                refine lv_goto (tgt := 72) hx hb dMO_same_68 (by decide) ?_
                refine lv_istore_n (lv' := [(1, .int 1), (2, .int (nI ia)), (0, .ref u0)]) hx hb dMO_same_72 rfl hl (by decide) rfl (fun ls hl => ?_)
                refine lv_iinc (v := nI (ia + 1)) (lv' := [(2, .int (nI (ia + 1))), (1, .int 1), (0, .ref u0)]) hx hb dMO_same_73 hl (k := 1) rfl (nI_1 _) (by decide) rfl (fun ls hl => ?_)
                refine lv_goto (tgt := 28) hx hb dMO_same_76 (by decide) ?_
                exact ih (ia + 1) 1 (by omega) (by omega) (f_step hinv (fun h9 => absurd h9 c_19) (fun _ _ => rfl) (fun _ h9 => absurd (Or.inr (n_eq0.mp c_21)) h9)) _ _ hP hD hS ls (lv_sub hl [0, 1, 2] rfl)
    exact lp (64 + 1) 0 1 (by omega) (by omega) (f_first ((nI_eq (by omega) (by omega)).mp c_1)) _ _ hP hD hS ls hl
