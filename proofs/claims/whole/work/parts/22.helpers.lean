/-! ===== the law's helpers ===== -/
def f_mk (md : Nat → Int32) (x : Int32) : Int32 := if f_isKind x = 0 then 1 else if md x.toNatClampNeg < 40 then 0 else 2
def f_mkM (md : Nat → Int32) (x : Int32) : Nat → Int32 := if f_mk md x = 0 then upd md x.toNatClampNeg (md x.toNatClampNeg + 1) else md
def f_mkK (md : Nat → Int32) (kn : Nat → Int64) (x : Int32) : Nat → Int64 := if f_mk md x = 0 then vp_updL kn x.toNatClampNeg (kn x.toNatClampNeg ||| f_bit (md x.toNatClampNeg + 1)) else kn
def f_mkO (md : Nat → Int32) (ou : Nat → Int64) (x : Int32) : Nat → Int64 := if f_mk md x = 0 then vp_updL ou 0 ((md x.toNatClampNeg + 1).toInt64) else ou
theorem f_mks (md : Nat → Int32) (x : Int32) : f_isKind x = 0 ∨ (∃ k : Nat, k < 8 ∧ x = nI k ∧ md k < 40) ∨ (∃ k : Nat, k < 8 ∧ x = nI k ∧ ¬ md k < 40) := by
  rcases f_isKind_or x with h | ⟨k, hk, h⟩
  · exact Or.inl h
  · by_cases h1 : md k < 40
    · exact Or.inr (Or.inl ⟨k, hk, h, h1⟩)
    · exact Or.inr (Or.inr ⟨k, hk, h, h1⟩)
theorem f_mk0 {md : Nat → Int32} {k : Nat} (hk : k < 8) (h : md k < 40) : f_mk md (nI k) = 0 := by
  unfold f_mk
  rw [if_neg (by rw [f_isKind_nI hk]; decide), nI_clamp (by omega), if_pos h]
theorem f_mk2 {md : Nat → Int32} {k : Nat} (hk : k < 8) (h : ¬ md k < 40) : f_mk md (nI k) = 2 := by
  unfold f_mk
  rw [if_neg (by rw [f_isKind_nI hk]; decide), nI_clamp (by omega), if_neg h]
def f_td (x : Int32) : Int32 := if x < 0 then 1 else if x < 8 then 0 else 1
def f_tdO (tf ou : Nat → Int64) (x : Int32) : Nat → Int64 := if f_td x = 0 then vp_updL ou 0 (tf x.toNatClampNeg) else ou
theorem f_tds (x : Int32) : (f_td x = 1 ∧ (x < 0 ∨ ¬ x < 8)) ∨ ∃ k : Nat, k < 8 ∧ x = nI k := by
  unfold f_td
  by_cases h : x < 0
  · left; rw [if_pos h]; exact ⟨rfl, Or.inl h⟩
  · rw [if_neg h]
    by_cases h1 : x < 8
    · right
      exact f_range (n := 8) (by decide) h (fun h9 => absurd h1 (Int32.not_lt.mpr h9))
    · left; rw [if_neg h1]; exact ⟨rfl, Or.inr h1⟩
theorem f_td0 {k : Nat} (hk : k < 8) : f_td (nI k) = 0 := by
  unfold f_td
  rw [if_neg (f_nn (by omega)), if_pos (show nI k < 8 from (n_lt (n := 8) rfl (by decide) (by omega)).mpr hk)]
def f_nk (x : Int32) : Int32 := if f_isKind x = 0 then 1 else 0
def f_nkV (md : Nat → Int32) (kn : Nat → Int64) (x i : Int32) : Int32 := f_find (f_P md kn x.toNatClampNeg) i (md x.toNatClampNeg).toNatClampNeg 1 0
def f_nkO (md : Nat → Int32) (kn ou : Nat → Int64) (x i : Int32) : Nat → Int64 := if f_nk x = 0 then vp_updL ou 0 ((f_nkV md kn x i).toInt64) else ou
theorem f_nk0 {k : Nat} (hk : k < 8) : f_nk (nI k) = 0 := by unfold f_nk; rw [if_neg (by rw [f_isKind_nI hk]; decide)]
def f_clR (sz : Nat → Int32) (x i : Int32) : Int32 := if x < 0 then 1 else if 4 ≤ x then 1 else if i < 0 then 1 else if i < sz x.toNatClampNeg then 0 else 1
def f_clO (sz : Nat → Int32) (vs : Nat → Nat → Int64) (ou : Nat → Int64) (x i : Int32) : Nat → Int64 := if f_clR sz x i = 0 then vp_updL ou 0 (vs x.toNatClampNeg i.toNatClampNeg) else ou
theorem f_below {i : Int32} {n : Nat} (hn : n < 2 ^ 31) (h : ¬ i < 0) (h1 : i < nI n) : ∃ j : Nat, j < n ∧ i = nI j := f_range hn h (fun h9 => absurd h1 (Int32.not_lt.mpr h9))
theorem f_cls {sz : Nat → Int32} {ns : Nat → Nat} (hns : ∀ k : Nat, k < 4 → sz k = nI (ns k) ∧ ns k ≤ 100) (x i : Int32) : (f_clR sz x i = 1 ∧ (x < 0 ∨ 4 ≤ x)) ∨ (∃ k : Nat, k < 4 ∧ x = nI k ∧ f_clR sz (nI k) i = 1 ∧ (i < 0 ∨ ¬ i < sz k)) ∨ (∃ k j : Nat, k < 4 ∧ j < 100 ∧ x = nI k ∧ i = nI j ∧ nI j < sz k ∧ f_clR sz (nI k) (nI j) = 0) := by
  by_cases h : x < 0
  · exact Or.inl ⟨by unfold f_clR; rw [if_pos h], Or.inl h⟩
  · by_cases h1 : 4 ≤ x
    · exact Or.inl ⟨by unfold f_clR; rw [if_neg h, if_pos h1], Or.inr h1⟩
    · obtain ⟨k, hk, rfl⟩ := f_range (n := 4) (by decide) h h1
      right
      by_cases h2 : i < 0
      · exact Or.inl ⟨k, hk, rfl, by unfold f_clR; rw [if_neg h, if_neg h1, if_pos h2], Or.inl h2⟩
      · by_cases h3 : i < sz k
        · obtain ⟨e1, e2⟩ := hns k hk
          rw [e1] at h3
          obtain ⟨j, hj, rfl⟩ := f_below (by omega) h2 h3
          exact Or.inr ⟨k, j, hk, by omega, rfl, rfl, by rw [e1]; exact h3, by unfold f_clR; rw [if_neg h, if_neg h1, if_neg h2, nI_clamp (by omega), e1, if_pos h3]⟩
        · exact Or.inl ⟨k, hk, rfl, by unfold f_clR; rw [if_neg h, if_neg h1, if_neg h2, nI_clamp (by omega), if_neg h3], Or.inr h3⟩
def f_lg1 (z : Nat) (i : Int32) : Int32 := if i < 0 then 1 else if i < nI z then 0 else 1
def f_lgR (z xz : Nat) (x i : Int32) : Int32 := if x = 0 then f_lg1 z i else if x = 1 then f_lg1 xz i else 1
def f_lgV (rg xrg : Nat → Int64) (z q xz xq : Nat) (x i : Int32) : Int64 := if x = 0 then rg (f_ix q z i.toNatClampNeg) else xrg (f_ix xq xz i.toNatClampNeg)
def f_lgO (rg xrg : Nat → Int64) (z q xz xq : Nat) (ou : Nat → Int64) (x i : Int32) : Nat → Int64 := if f_lgR z xz x i = 0 then vp_updL ou 0 (f_lgV rg xrg z q xz xq x i) else ou
theorem f_lgs {z : Nat} (hz : z ≤ 64) (i : Int32) : (f_lg1 z i = 1 ∧ (i < 0 ∨ ¬ i < nI z)) ∨ ∃ j : Nat, j < z ∧ i = nI j ∧ f_lg1 z (nI j) = 0 := by
  unfold f_lg1
  by_cases h : i < 0
  · left; rw [if_pos h]; exact ⟨rfl, Or.inl h⟩
  · by_cases h1 : i < nI z
    · right
      obtain ⟨j, hj, rfl⟩ := f_below (by omega) h h1
      exact ⟨j, hj, rfl, by rw [if_neg h, if_pos h1]⟩
    · left; rw [if_neg h, if_neg h1]; exact ⟨rfl, Or.inr h1⟩
theorem f_lga {z xz : Nat} (hz : z ≤ 64) (hxz : xz ≤ 64) (x i : Int32) : (f_lgR z xz x i = 1 ∧ f_isDesk x = 0) ∨ (x = 0 ∧ f_lgR z xz 0 i = 1 ∧ (i < 0 ∨ ¬ i < nI z)) ∨ (x = 1 ∧ f_lgR z xz 1 i = 1 ∧ (i < 0 ∨ ¬ i < nI xz)) ∨ (x = 0 ∧ ∃ j : Nat, j < z ∧ i = nI j ∧ f_lgR z xz 0 (nI j) = 0) ∨ (x = 1 ∧ ∃ j : Nat, j < xz ∧ i = nI j ∧ f_lgR z xz 1 (nI j) = 0) := by
  rcases f_isDesk_or x with h | rfl | rfl
  · left
    have h0 : ¬ x = 0 := fun h9 => by rw [h9] at h; exact absurd h (by decide)
    have h1 : ¬ x = 1 := fun h9 => by rw [h9] at h; exact absurd h (by decide)
    exact ⟨by unfold f_lgR; rw [if_neg h0, if_neg h1], h⟩
  · rcases f_lgs hz i with ⟨h1, h2⟩ | ⟨j, hj, e, h1⟩
    · exact Or.inr (Or.inl ⟨rfl, h1, h2⟩)
    · exact Or.inr (Or.inr (Or.inr (Or.inl ⟨rfl, j, hj, e, h1⟩)))
  · rcases f_lgs hxz i with ⟨h1, h2⟩ | ⟨j, hj, e, h1⟩
    · exact Or.inr (Or.inr (Or.inl ⟨rfl, h1, h2⟩))
    · exact Or.inr (Or.inr (Or.inr (Or.inr ⟨rfl, j, hj, e, h1⟩)))
def f_smR (x y : Int32) : Int32 := if f_isDesk x = 0 then 1 else if f_isPart y = 0 then 1 else 0
def f_smV (sm xsm : Nat → Int64) (x y : Int32) : Int64 := if x = 0 then sm y.toNatClampNeg else xsm y.toNatClampNeg
def f_smO (sm xsm ou : Nat → Int64) (x y : Int32) : Nat → Int64 := if f_smR x y = 0 then vp_updL ou 0 (f_smV sm xsm x y) else ou
theorem f_sms (x y : Int32) : (f_smR x y = 1 ∧ (f_isDesk x = 0 ∨ f_isPart y = 0)) ∨ (x = 0 ∧ ∃ k : Nat, k < 12 ∧ y = nI k ∧ f_smR 0 (nI k) = 0) ∨ (x = 1 ∧ ∃ k : Nat, k < 12 ∧ y = nI k ∧ f_smR 1 (nI k) = 0) := by
  rcases f_isDesk_or x with h | rfl | rfl
  · left; exact ⟨by unfold f_smR; rw [if_pos h], Or.inl h⟩
  · rcases f_isPart_or y with h | ⟨k, hk, rfl⟩
    · left; exact ⟨by unfold f_smR; rw [if_neg (by decide), if_pos h], Or.inr h⟩
    · exact Or.inr (Or.inl ⟨rfl, k, hk, rfl, by unfold f_smR; rw [if_neg (by decide), if_neg (by rw [f_isPart_nI hk]; decide)]⟩)
  · rcases f_isPart_or y with h | ⟨k, hk, rfl⟩
    · left; exact ⟨by unfold f_smR; rw [if_neg (by decide), if_pos h], Or.inr h⟩
    · exact Or.inr (Or.inr ⟨rfl, k, hk, rfl, by unfold f_smR; rw [if_neg (by decide), if_neg (by rw [f_isPart_nI hk]; decide)]⟩)
abbrev rm_LW_make : Room := { frames := 7, cells := 1, slots := 6, locals := 103 }
set_option maxHeartbeats 4000000 in
set_option maxRecDepth 100000 in
theorem k_LW_make (l : Launch) (dC : Nat → ClassId) (dI : Nat → Nat → Nat) (cI cJ cG cZ : ClassId) (o0 : Nat) (a0 : Nat) (a1 : Nat) (a2 : Nat) (a3 : Nat) (a4 : Nat) (a5 : Nat) (b0 : Nat) (b1 : Nat) (b2 : Nat) (b3 : Nat) (b4 : Nat) (b5 : Nat) (n1 : Nat) (n2 : Nat) (m1 : Nat) (m2 : Nat) (md : Nat → Int32) (kn : Nat → Int64) (u0 : Nat) (ou : Nat → Int64) (x : Int32) (hlt : l.stackTraces = false) : k_M l yLW_make wsLW_make rm_LW_make (dC, dI) vwCl [(cI, .int), (cJ, .long), (cG, .array .long), (cZ, .boolean)] [.ref o0, .int x, .ref u0] [(o0, .inr (6, [.ref a0, .ref b0])), (a0, .inr (1, [.ref a1, .ref a2, .ref a3, .ref a4, .ref a5])), (b0, .inr (1, [.ref b1, .ref b2, .ref b3, .ref b4, .ref b5])), (a1, .inr (3, [.ref n1, .ref n2])), (n1, .inl (cI, 8, .inl md)), (n2, .inl (cJ, 8, .inr (.inl kn))), (b1, .inr (3, [.ref m1, .ref m2])), (m1, .inl (cI, 8, .inl md)), (m2, .inl (cJ, 8, .inr (.inl kn))), (u0, .inl (cJ, 1, .inr (.inl ou)))] (some (.int (f_mk md x))) [(o0, .inr (6, [.ref a0, .ref b0])), (a0, .inr (1, [.ref a1, .ref a2, .ref a3, .ref a4, .ref a5])), (b0, .inr (1, [.ref b1, .ref b2, .ref b3, .ref b4, .ref b5])), (a1, .inr (3, [.ref n1, .ref n2])), (n1, .inl (cI, 8, .inl (f_mkM md x))), (n2, .inl (cJ, 8, .inr (.inl (f_mkK md kn x)))), (b1, .inr (3, [.ref m1, .ref m2])), (m1, .inl (cI, 8, .inl (f_mkM md x))), (m2, .inl (cJ, 8, .inr (.inl (f_mkK md kn x)))), (u0, .inl (cJ, 1, .inr (.inl (f_mkO md ou x))))] := by
  rcases f_mks md x with h0 | ⟨k, hk, rfl, h1⟩ | ⟨k, hk, rfl, h1⟩
  · have e1 : f_mk md x = 1 := if_pos h0
    have e2 : ¬ f_mk md x = 0 := by rw [e1]; decide
    rw [show f_mkM md x = md from if_neg e2, show f_mkK md kn x = kn from if_neg e2, show f_mkO md ou x = ou from if_neg e2, e1]
    refine k_ofH (cc := cLW_make) (maxL := 4) (ret := (some .int)) (by decide) rfl (Nat.le_of_ble_eq_true rfl) ?_
    intro p e s m below meth c A ls hx hb hr hlocks hml hown hts hA hP hD hK hF hl hS ht
    have hown : s.vm.findClass RLW = some m.cls := hown
    have hl : lv_has ls 4 [(0, .ref o0), (1, .int x), (2, .ref u0)] := hl
    refine lv_aload_n hx hb dLW_make_0 rfl (lv_at hl 2 rfl) ?_
    refine lv_iconst (v := 0) hx hb dLW_make_1 (by decide) ?_
    refine lv_aload_n hx hb dLW_make_2 rfl (lv_at hl 0 rfl) ?_
    refine lv_iload_n hx hb dLW_make_3 rfl (lv_at hl 1 rfl) ?_
    refine k_VT (wr := [(u0, .inl (cJ, 1, .inr (.inl ou)))]) (W1 := [(o0, .inr (6, [.ref a0, .ref b0])), (a0, .inr (1, [.ref a1, .ref a2, .ref a3, .ref a4, .ref a5])), (b0, .inr (1, [.ref b1, .ref b2, .ref b3, .ref b4, .ref b5])), (a1, .inr (3, [.ref n1, .ref n2])), (n1, .inl (cI, 8, .inl md)), (n2, .inl (cJ, 8, .inr (.inl kn))), (b1, .inr (3, [.ref m1, .ref m2])), (m1, .inl (cI, 8, .inl md)), (m2, .inl (cJ, 8, .inr (.inl kn))), (u0, .inl (cJ, 1, .inr (.inl ou)))]) (rest := [.int 0, .ref u0]) ⟨hx, hb, hml, hown, hts⟩ (k_PD_make_1 l dC dI cI cJ cG cZ o0 a0 a1 a2 a3 a4 a5 b0 b1 b2 b3 b4 b5 n1 n2 m1 m2 md kn x h0 hlt) (cwV 1 hts (k_gV m_l_LW_7 m_i_PD_make m_s_PD_make m_in_PD m_c_PD_make) rfl rfl rfl (by decide +kernel) ⟨Nat.le_of_ble_eq_true rfl, Nat.le_of_ble_eq_true rfl⟩) hK hF hP hD hS hA [0, 1, 2, 3, 4, 5, 6, 7, 8] [9] [1, 2, 3, 4, 5, 6, 7, 8, 9, 0] rfl rfl (by decide) (by decide) (by decide) rfl (by decide) rfl rfl rfl rfl hl.1 rfl (Nat.le_of_ble_eq_true rfl) dLW_make_4 ⟨Nat.le_of_ble_eq_true rfl, Nat.le_of_ble_eq_true rfl⟩ (fun q9 ce H locs hP hD hS hce hcv hcl => ?_)
    refine k_catch (own := RLW) hown hts hF [] (⟨0, 9, 12, 13⟩ : ExceptionTableEntry) [(⟨0, 9, 15, 15⟩ : ExceptionTableEntry)] ht (fun _ h => absurd h List.not_mem_nil) (by decide) (by decide) m_cl_LW_13 (by decide) hce hcv hcl ?_
    refine lv_astore_n (lv' := [(3, .ref q9), (0, .ref o0), (1, .int x), (2, .ref u0)]) hx hb dLW_make_12 rfl hl (by decide) rfl (fun ls hl => ?_)
    refine lv_iconst (v := 1) hx hb dLW_make_13 (by decide) ?_
    exact k_iret hx hb hr hlocks hP hK hD hS rfl dLW_make_14 ⟨Nat.le_of_ble_eq_true rfl, Nat.le_of_ble_eq_true rfl⟩
  · have e1 : f_mk md (nI k) = 0 := f_mk0 hk h1
    rw [show f_mkM md (nI k) = upd md k (md k + 1) by unfold f_mkM; rw [if_pos e1, nI_clamp (by omega)], show f_mkK md kn (nI k) = vp_updL kn k (kn k ||| f_bit (md k + 1)) by unfold f_mkK; rw [if_pos e1, nI_clamp (by omega)], show f_mkO md ou (nI k) = vp_updL ou 0 ((md k + 1).toInt64) by unfold f_mkO; rw [if_pos e1, nI_clamp (by omega)], e1]
    refine k_ofH (cc := cLW_make) (maxL := 4) (ret := (some .int)) (by decide) rfl (Nat.le_of_ble_eq_true rfl) ?_
    intro p e s m below meth c A ls hx hb hr hlocks hml hown hts hA hP hD hK hF hl hS ht
    have hown : s.vm.findClass RLW = some m.cls := hown
    have hl : lv_has ls 4 [(0, .ref o0), (1, .int (nI k)), (2, .ref u0)] := hl
    refine lv_aload_n hx hb dLW_make_0 rfl (lv_at hl 2 rfl) ?_
    refine lv_iconst (v := 0) hx hb dLW_make_1 (by decide) ?_
    refine lv_aload_n hx hb dLW_make_2 rfl (lv_at hl 0 rfl) ?_
    refine lv_iload_n hx hb dLW_make_3 rfl (lv_at hl 1 rfl) ?_
    refine k_V (wr := [(u0, .inl (cJ, 1, .inr (.inl ou)))]) (W1 := [(o0, .inr (6, [.ref a0, .ref b0])), (a0, .inr (1, [.ref a1, .ref a2, .ref a3, .ref a4, .ref a5])), (b0, .inr (1, [.ref b1, .ref b2, .ref b3, .ref b4, .ref b5])), (a1, .inr (3, [.ref n1, .ref n2])), (n1, .inl (cI, 8, .inl (upd md k (md k + 1)))), (n2, .inl (cJ, 8, .inr (.inl (vp_updL kn k (kn k ||| f_bit (md k + 1)))))), (b1, .inr (3, [.ref m1, .ref m2])), (m1, .inl (cI, 8, .inl (upd md k (md k + 1)))), (m2, .inl (cJ, 8, .inr (.inl (vp_updL kn k (kn k ||| f_bit (md k + 1)))))), (u0, .inl (cJ, 1, .inr (.inl ou)))]) (st1 := [.int (md k + 1), .int 0, .ref u0]) ⟨hx, hb, hml, hown, hts⟩ (k_PD_make l dC dI cI cJ cG cZ o0 a0 a1 a2 a3 a4 a5 b0 b1 b2 b3 b4 b5 n1 n2 m1 m2 md kn k hk h1) (cwV 1 hts (k_gV m_l_LW_7 m_i_PD_make m_s_PD_make m_in_PD m_c_PD_make) rfl rfl rfl (by decide +kernel) ⟨Nat.le_of_ble_eq_true rfl, Nat.le_of_ble_eq_true rfl⟩) hK hF hP hD hS hA [0, 1, 2, 3, 4, 5, 6, 7, 8] [9] [1, 2, 3, 4, 5, 6, 7, 8, 9, 0] rfl rfl (by decide) (by decide) (by decide) rfl (by decide) rfl rfl rfl rfl hl.1 rfl (Nat.le_of_ble_eq_true rfl) dLW_make_4 ⟨Nat.le_of_ble_eq_true rfl, Nat.le_of_ble_eq_true rfl⟩ rfl (fun H locs hP hD hS => ?_)
    refine lv_i2l hx hb dLW_make_7 rfl ?_
    refine k_lst (W1 := [(o0, .inr (6, [.ref a0, .ref b0])), (a0, .inr (1, [.ref a1, .ref a2, .ref a3, .ref a4, .ref a5])), (b0, .inr (1, [.ref b1, .ref b2, .ref b3, .ref b4, .ref b5])), (a1, .inr (3, [.ref n1, .ref n2])), (n1, .inl (cI, 8, .inl (upd md k (md k + 1)))), (n2, .inl (cJ, 8, .inr (.inl (vp_updL kn k (kn k ||| f_bit (md k + 1)))))), (b1, .inr (3, [.ref m1, .ref m2])), (m1, .inl (cI, 8, .inl (upd md k (md k + 1)))), (m2, .inl (cJ, 8, .inr (.inl (vp_updL kn k (kn k ||| f_bit (md k + 1)))))), (u0, .inl (cJ, 1, .inr (.inl (vp_updL ou 0 ((md k + 1).toInt64)))))]) hx hb hK hP hD hS 9 1 rfl rfl (j := 0) (by decide) (by decide) (by decide) rfl dLW_make_8 (fun H locs hP hD hS => ?_)
    refine lv_goto (tgt := 18) hx hb dLW_make_9 (by decide) ?_
    refine lv_iconst (v := 0) hx hb dLW_make_18 (by decide) ?_
    exact k_iret hx hb hr hlocks hP hK hD hS rfl dLW_make_19 ⟨Nat.le_of_ble_eq_true rfl, Nat.le_of_ble_eq_true rfl⟩
  · have e1 : f_mk md (nI k) = 2 := f_mk2 hk h1
    have e2 : ¬ f_mk md (nI k) = 0 := by rw [e1]; decide
    rw [show f_mkM md (nI k) = md from if_neg e2, show f_mkK md kn (nI k) = kn from if_neg e2, show f_mkO md ou (nI k) = ou from if_neg e2, e1]
    refine k_ofH (cc := cLW_make) (maxL := 4) (ret := (some .int)) (by decide) rfl (Nat.le_of_ble_eq_true rfl) ?_
    intro p e s m below meth c A ls hx hb hr hlocks hml hown hts hA hP hD hK hF hl hS ht
    have hown : s.vm.findClass RLW = some m.cls := hown
    have hl : lv_has ls 4 [(0, .ref o0), (1, .int (nI k)), (2, .ref u0)] := hl
    refine lv_aload_n hx hb dLW_make_0 rfl (lv_at hl 2 rfl) ?_
    refine lv_iconst (v := 0) hx hb dLW_make_1 (by decide) ?_
    refine lv_aload_n hx hb dLW_make_2 rfl (lv_at hl 0 rfl) ?_
    refine lv_iload_n hx hb dLW_make_3 rfl (lv_at hl 1 rfl) ?_
    refine k_VT (wr := [(u0, .inl (cJ, 1, .inr (.inl ou)))]) (W1 := [(o0, .inr (6, [.ref a0, .ref b0])), (a0, .inr (1, [.ref a1, .ref a2, .ref a3, .ref a4, .ref a5])), (b0, .inr (1, [.ref b1, .ref b2, .ref b3, .ref b4, .ref b5])), (a1, .inr (3, [.ref n1, .ref n2])), (n1, .inl (cI, 8, .inl md)), (n2, .inl (cJ, 8, .inr (.inl kn))), (b1, .inr (3, [.ref m1, .ref m2])), (m1, .inl (cI, 8, .inl md)), (m2, .inl (cJ, 8, .inr (.inl kn))), (u0, .inl (cJ, 1, .inr (.inl ou)))]) (rest := [.int 0, .ref u0]) ⟨hx, hb, hml, hown, hts⟩ (k_PD_make_2 l dC dI cI cJ cG cZ o0 a0 a1 a2 a3 a4 a5 b0 b1 b2 b3 b4 b5 n1 n2 m1 m2 md kn k hk h1 hlt) (cwV 1 hts (k_gV m_l_LW_7 m_i_PD_make m_s_PD_make m_in_PD m_c_PD_make) rfl rfl rfl (by decide +kernel) ⟨Nat.le_of_ble_eq_true rfl, Nat.le_of_ble_eq_true rfl⟩) hK hF hP hD hS hA [0, 1, 2, 3, 4, 5, 6, 7, 8] [9] [1, 2, 3, 4, 5, 6, 7, 8, 9, 0] rfl rfl (by decide) (by decide) (by decide) rfl (by decide) rfl rfl rfl rfl hl.1 rfl (Nat.le_of_ble_eq_true rfl) dLW_make_4 ⟨Nat.le_of_ble_eq_true rfl, Nat.le_of_ble_eq_true rfl⟩ (fun q9 ce H locs hP hD hS hce hcv hcl => ?_)
    refine k_catch (own := RLW) hown hts hF [(⟨0, 9, 12, 13⟩ : ExceptionTableEntry)] (⟨0, 9, 15, 15⟩ : ExceptionTableEntry) [] ht (List.forall_mem_cons.mpr ⟨Or.inr ⟨by decide, _, m_cl_LW_13, by decide⟩, fun _ h => absurd h List.not_mem_nil⟩) (by decide) (by decide) m_cl_LW_15 (by decide) hce hcv hcl ?_
    refine lv_astore_n (lv' := [(3, .ref q9), (0, .ref o0), (1, .int (nI k)), (2, .ref u0)]) hx hb dLW_make_15 rfl hl (by decide) rfl (fun ls hl => ?_)
    refine lv_iconst (v := 2) hx hb dLW_make_16 (by decide) ?_
    exact k_iret hx hb hr hlocks hP hK hD hS rfl dLW_make_17 ⟨Nat.le_of_ble_eq_true rfl, Nat.le_of_ble_eq_true rfl⟩

abbrev rm_LW_told : Room := { frames := 7, cells := 1, slots := 6, locals := 103 }
set_option maxHeartbeats 4000000 in
set_option maxRecDepth 100000 in
theorem k_LW_told (l : Launch) (dC : Nat → ClassId) (dI : Nat → Nat → Nat) (cI cJ cG cZ : ClassId) (o0 : Nat) (a0 : Nat) (a1 : Nat) (a2 : Nat) (a3 : Nat) (a4 : Nat) (a5 : Nat) (b0 : Nat) (t1 : Nat) (tf : Nat → Int64) (u0 : Nat) (ou : Nat → Int64) (x : Int32) (hlt : l.stackTraces = false) : k_M l yLW_told wsLW_told rm_LW_told (dC, dI) vwCl [(cI, .int), (cJ, .long), (cG, .array .long), (cZ, .boolean)] [.ref o0, .int x, .ref u0] [(o0, .inr (6, [.ref a0, .ref b0])), (a0, .inr (1, [.ref a1, .ref a2, .ref a3, .ref a4, .ref a5])), (a3, .inr (5, [.ref t1])), (t1, .inl (cJ, 8, .inr (.inl tf))), (u0, .inl (cJ, 1, .inr (.inl ou)))] (some (.int (f_td x))) [(o0, .inr (6, [.ref a0, .ref b0])), (a0, .inr (1, [.ref a1, .ref a2, .ref a3, .ref a4, .ref a5])), (a3, .inr (5, [.ref t1])), (t1, .inl (cJ, 8, .inr (.inl tf))), (u0, .inl (cJ, 1, .inr (.inl (f_tdO tf ou x))))] := by
  rcases f_tds x with ⟨h0, h1⟩ | ⟨k, hk, rfl⟩
  · have e2 : ¬ f_td x = 0 := by rw [h0]; decide
    rw [show f_tdO tf ou x = ou from if_neg e2, h0]
    refine k_ofH (cc := cLW_told) (maxL := 4) (ret := (some .int)) (by decide) rfl (Nat.le_of_ble_eq_true rfl) ?_
    intro p e s m below meth c A ls hx hb hr hlocks hml hown hts hA hP hD hK hF hl hS ht
    have hown : s.vm.findClass RLW = some m.cls := hown
    have hl : lv_has ls 4 [(0, .ref o0), (1, .int x), (2, .ref u0)] := hl
    refine lv_aload_n hx hb dLW_told_0 rfl (lv_at hl 2 rfl) ?_
    refine lv_iconst (v := 0) hx hb dLW_told_1 (by decide) ?_
    refine lv_aload_n hx hb dLW_told_2 rfl (lv_at hl 0 rfl) ?_
    refine lv_iload_n hx hb dLW_told_3 rfl (lv_at hl 1 rfl) ?_
    refine k_VT (wr := [(u0, .inl (cJ, 1, .inr (.inl ou)))]) (W1 := [(o0, .inr (6, [.ref a0, .ref b0])), (a0, .inr (1, [.ref a1, .ref a2, .ref a3, .ref a4, .ref a5])), (a3, .inr (5, [.ref t1])), (t1, .inl (cJ, 8, .inr (.inl tf))), (u0, .inl (cJ, 1, .inr (.inl ou)))]) (rest := [.int 0, .ref u0]) ⟨hx, hb, hml, hown, hts⟩ (k_PD_told_1 l dC dI cI cJ cG cZ o0 a0 a1 a2 a3 a4 a5 b0 t1 tf x h1 hlt) (cwV 1 hts (k_gV m_l_LW_17 m_i_PD_told m_s_PD_told m_in_PD m_c_PD_told) rfl rfl rfl (by decide +kernel) ⟨Nat.le_of_ble_eq_true rfl, Nat.le_of_ble_eq_true rfl⟩) hK hF hP hD hS hA [0, 1, 2, 3] [4] [1, 2, 3, 4, 0] rfl rfl (by decide) (by decide) (by decide) rfl (by decide) rfl rfl rfl rfl hl.1 rfl (Nat.le_of_ble_eq_true rfl) dLW_told_4 ⟨Nat.le_of_ble_eq_true rfl, Nat.le_of_ble_eq_true rfl⟩ (fun q9 ce H locs hP hD hS hce hcv hcl => ?_)
    refine k_catch (own := RLW) hown hts hF [] (⟨0, 8, 11, 21⟩ : ExceptionTableEntry) [] ht (fun _ h => absurd h List.not_mem_nil) (by decide) (by decide) m_cl_LW_21 (by decide) hce hcv hcl ?_
    refine lv_astore_n (lv' := [(3, .ref q9), (0, .ref o0), (1, .int x), (2, .ref u0)]) hx hb dLW_told_11 rfl hl (by decide) rfl (fun ls hl => ?_)
    refine lv_iconst (v := 1) hx hb dLW_told_12 (by decide) ?_
    exact k_iret hx hb hr hlocks hP hK hD hS rfl dLW_told_13 ⟨Nat.le_of_ble_eq_true rfl, Nat.le_of_ble_eq_true rfl⟩
  · rw [show f_tdO tf ou (nI k) = vp_updL ou 0 (tf k) by unfold f_tdO; rw [if_pos (f_td0 hk), nI_clamp (by omega)], f_td0 hk]
    refine k_ofH (cc := cLW_told) (maxL := 4) (ret := (some .int)) (by decide) rfl (Nat.le_of_ble_eq_true rfl) ?_
    intro p e s m below meth c A ls hx hb hr hlocks hml hown hts hA hP hD hK hF hl hS ht
    have hown : s.vm.findClass RLW = some m.cls := hown
    have hl : lv_has ls 4 [(0, .ref o0), (1, .int (nI k)), (2, .ref u0)] := hl
    refine lv_aload_n hx hb dLW_told_0 rfl (lv_at hl 2 rfl) ?_
    refine lv_iconst (v := 0) hx hb dLW_told_1 (by decide) ?_
    refine lv_aload_n hx hb dLW_told_2 rfl (lv_at hl 0 rfl) ?_
    refine lv_iload_n hx hb dLW_told_3 rfl (lv_at hl 1 rfl) ?_
    refine k_V (wr := [(u0, .inl (cJ, 1, .inr (.inl ou)))]) (W1 := [(o0, .inr (6, [.ref a0, .ref b0])), (a0, .inr (1, [.ref a1, .ref a2, .ref a3, .ref a4, .ref a5])), (a3, .inr (5, [.ref t1])), (t1, .inl (cJ, 8, .inr (.inl tf))), (u0, .inl (cJ, 1, .inr (.inl ou)))]) (st1 := [.long (tf k), .int 0, .ref u0]) ⟨hx, hb, hml, hown, hts⟩ (k_PD_told l dC dI cI cJ cG cZ o0 a0 a1 a2 a3 a4 a5 b0 t1 tf k hk) (cwV 1 hts (k_gV m_l_LW_17 m_i_PD_told m_s_PD_told m_in_PD m_c_PD_told) rfl rfl rfl (by decide +kernel) ⟨Nat.le_of_ble_eq_true rfl, Nat.le_of_ble_eq_true rfl⟩) hK hF hP hD hS hA [0, 1, 2, 3] [4] [1, 2, 3, 4, 0] rfl rfl (by decide) (by decide) (by decide) rfl (by decide) rfl rfl rfl rfl hl.1 rfl (Nat.le_of_ble_eq_true rfl) dLW_told_4 ⟨Nat.le_of_ble_eq_true rfl, Nat.le_of_ble_eq_true rfl⟩ rfl (fun H locs hP hD hS => ?_)
    refine k_lst (W1 := [(o0, .inr (6, [.ref a0, .ref b0])), (a0, .inr (1, [.ref a1, .ref a2, .ref a3, .ref a4, .ref a5])), (a3, .inr (5, [.ref t1])), (t1, .inl (cJ, 8, .inr (.inl tf))), (u0, .inl (cJ, 1, .inr (.inl (vp_updL ou 0 (tf k)))))]) hx hb hK hP hD hS 4 1 rfl rfl (j := 0) (by decide) (by decide) (by decide) rfl dLW_told_7 (fun H locs hP hD hS => ?_)
    refine lv_goto (tgt := 14) hx hb dLW_told_8 (by decide) ?_
    refine lv_iconst (v := 0) hx hb dLW_told_14 (by decide) ?_
    exact k_iret hx hb hr hlocks hP hK hD hS rfl dLW_told_15 ⟨Nat.le_of_ble_eq_true rfl, Nat.le_of_ble_eq_true rfl⟩

abbrev rm_LW_number : Room := { frames := 7, cells := 1, slots := 6, locals := 104 }
set_option maxHeartbeats 4000000 in
set_option maxRecDepth 100000 in
theorem k_LW_number (l : Launch) (dC : Nat → ClassId) (dI : Nat → Nat → Nat) (cI cJ cG cZ : ClassId) (o0 : Nat) (a0 : Nat) (a1 : Nat) (a2 : Nat) (a3 : Nat) (a4 : Nat) (a5 : Nat) (b0 : Nat) (n1 : Nat) (n2 : Nat) (md : Nat → Int32) (kn : Nat → Int64) (u0 : Nat) (ou : Nat → Int64) (mn : Nat → Nat) (x : Int32) (i : Int32) (hmn : ∀ k : Nat, k < 8 → md k = nI (mn k) ∧ mn k ≤ 40) (hlt : l.stackTraces = false) : k_M l yLW_number wsLW_number rm_LW_number (dC, dI) vwCl [(cI, .int), (cJ, .long), (cG, .array .long), (cZ, .boolean)] [.ref o0, .int x, .int i, .ref u0] [(o0, .inr (6, [.ref a0, .ref b0])), (a0, .inr (1, [.ref a1, .ref a2, .ref a3, .ref a4, .ref a5])), (a1, .inr (3, [.ref n1, .ref n2])), (n1, .inl (cI, 8, .inl md)), (n2, .inl (cJ, 8, .inr (.inl kn))), (u0, .inl (cJ, 1, .inr (.inl ou)))] (some (.int (f_nk x))) [(o0, .inr (6, [.ref a0, .ref b0])), (a0, .inr (1, [.ref a1, .ref a2, .ref a3, .ref a4, .ref a5])), (a1, .inr (3, [.ref n1, .ref n2])), (n1, .inl (cI, 8, .inl md)), (n2, .inl (cJ, 8, .inr (.inl kn))), (u0, .inl (cJ, 1, .inr (.inl (f_nkO md kn ou x i))))] := by
  rcases f_isKind_or x with h0 | ⟨k, hk, rfl⟩
  · have e1 : f_nk x = 1 := if_pos h0
    have e2 : ¬ f_nk x = 0 := by rw [e1]; decide
    rw [show f_nkO md kn ou x i = ou from if_neg e2, e1]
    refine k_ofH (cc := cLW_number) (maxL := 5) (ret := (some .int)) (by decide) rfl (Nat.le_of_ble_eq_true rfl) ?_
    intro p e s m below meth c A ls hx hb hr hlocks hml hown hts hA hP hD hK hF hl hS ht
    have hown : s.vm.findClass RLW = some m.cls := hown
    have hl : lv_has ls 5 [(0, .ref o0), (1, .int x), (2, .int i), (3, .ref u0)] := hl
    refine lv_aload_n hx hb dLW_number_0 rfl (lv_at hl 3 rfl) ?_
    refine lv_iconst (v := 0) hx hb dLW_number_1 (by decide) ?_
    refine lv_aload_n hx hb dLW_number_2 rfl (lv_at hl 0 rfl) ?_
    refine lv_iload_n hx hb dLW_number_3 rfl (lv_at hl 1 rfl) ?_
    refine lv_iload_n hx hb dLW_number_4 rfl (lv_at hl 2 rfl) ?_
    refine k_VT (wr := [(u0, .inl (cJ, 1, .inr (.inl ou)))]) (W1 := [(o0, .inr (6, [.ref a0, .ref b0])), (a0, .inr (1, [.ref a1, .ref a2, .ref a3, .ref a4, .ref a5])), (a1, .inr (3, [.ref n1, .ref n2])), (n1, .inl (cI, 8, .inl md)), (n2, .inl (cJ, 8, .inr (.inl kn))), (u0, .inl (cJ, 1, .inr (.inl ou)))]) (rest := [.int 0, .ref u0]) ⟨hx, hb, hml, hown, hts⟩ (k_PD_number_1 l dC dI cI cJ cG cZ o0 a0 a1 a2 a3 a4 a5 b0 n1 n2 md kn x i h0 hlt) (cwV 2 hts (k_gV m_l_LW_23 m_i_PD_number m_s_PD_number m_in_PD m_c_PD_number) rfl rfl rfl (by decide +kernel) ⟨Nat.le_of_ble_eq_true rfl, Nat.le_of_ble_eq_true rfl⟩) hK hF hP hD hS hA [0, 1, 2, 3, 4] [5] [1, 2, 3, 4, 5, 0] rfl rfl (by decide) (by decide) (by decide) rfl (by decide) rfl rfl rfl rfl hl.1 rfl (Nat.le_of_ble_eq_true rfl) dLW_number_5 ⟨Nat.le_of_ble_eq_true rfl, Nat.le_of_ble_eq_true rfl⟩ (fun q9 ce H locs hP hD hS hce hcv hcl => ?_)
    refine k_catch (own := RLW) hown hts hF [] (⟨0, 10, 13, 13⟩ : ExceptionTableEntry) [] ht (fun _ h => absurd h List.not_mem_nil) (by decide) (by decide) m_cl_LW_13 (by decide) hce hcv hcl ?_
    refine lv_astore (lv' := [(4, .ref q9), (0, .ref o0), (1, .int x), (2, .int i), (3, .ref u0)]) hx hb dLW_number_13 hl (by decide) rfl (fun ls hl => ?_)
    refine lv_iconst (v := 1) hx hb dLW_number_15 (by decide) ?_
    exact k_iret hx hb hr hlocks hP hK hD hS rfl dLW_number_16 ⟨Nat.le_of_ble_eq_true rfl, Nat.le_of_ble_eq_true rfl⟩
  · rw [show f_nkO md kn ou (nI k) i = vp_updL ou 0 ((f_find (f_P md kn k) i (mn k) 1 0).toInt64) by unfold f_nkO f_nkV; rw [if_pos (f_nk0 hk), nI_clamp (n := k) (by omega), (hmn k hk).1, nI_clamp (by have := (hmn k hk).2; omega)], f_nk0 hk]
    refine k_ofH (cc := cLW_number) (maxL := 5) (ret := (some .int)) (by decide) rfl (Nat.le_of_ble_eq_true rfl) ?_
    intro p e s m below meth c A ls hx hb hr hlocks hml hown hts hA hP hD hK hF hl hS ht
    have hown : s.vm.findClass RLW = some m.cls := hown
    have hl : lv_has ls 5 [(0, .ref o0), (1, .int (nI k)), (2, .int i), (3, .ref u0)] := hl
    refine lv_aload_n hx hb dLW_number_0 rfl (lv_at hl 3 rfl) ?_
    refine lv_iconst (v := 0) hx hb dLW_number_1 (by decide) ?_
    refine lv_aload_n hx hb dLW_number_2 rfl (lv_at hl 0 rfl) ?_
    refine lv_iload_n hx hb dLW_number_3 rfl (lv_at hl 1 rfl) ?_
    refine lv_iload_n hx hb dLW_number_4 rfl (lv_at hl 2 rfl) ?_
    refine k_V (wr := [(u0, .inl (cJ, 1, .inr (.inl ou)))]) (W1 := [(o0, .inr (6, [.ref a0, .ref b0])), (a0, .inr (1, [.ref a1, .ref a2, .ref a3, .ref a4, .ref a5])), (a1, .inr (3, [.ref n1, .ref n2])), (n1, .inl (cI, 8, .inl md)), (n2, .inl (cJ, 8, .inr (.inl kn))), (u0, .inl (cJ, 1, .inr (.inl ou)))]) (st1 := [.int (f_find (f_P md kn k) i (mn k) 1 0), .int 0, .ref u0]) ⟨hx, hb, hml, hown, hts⟩ (k_PD_number l dC dI cI cJ cG cZ o0 a0 a1 a2 a3 a4 a5 b0 n1 n2 md kn k (mn k) i hk ((hmn k hk).1) ((hmn k hk).2)) (cwV 2 hts (k_gV m_l_LW_23 m_i_PD_number m_s_PD_number m_in_PD m_c_PD_number) rfl rfl rfl (by decide +kernel) ⟨Nat.le_of_ble_eq_true rfl, Nat.le_of_ble_eq_true rfl⟩) hK hF hP hD hS hA [0, 1, 2, 3, 4] [5] [1, 2, 3, 4, 5, 0] rfl rfl (by decide) (by decide) (by decide) rfl (by decide) rfl rfl rfl rfl hl.1 rfl (Nat.le_of_ble_eq_true rfl) dLW_number_5 ⟨Nat.le_of_ble_eq_true rfl, Nat.le_of_ble_eq_true rfl⟩ rfl (fun H locs hP hD hS => ?_)
    refine lv_i2l hx hb dLW_number_8 rfl ?_
    refine k_lst (W1 := [(o0, .inr (6, [.ref a0, .ref b0])), (a0, .inr (1, [.ref a1, .ref a2, .ref a3, .ref a4, .ref a5])), (a1, .inr (3, [.ref n1, .ref n2])), (n1, .inl (cI, 8, .inl md)), (n2, .inl (cJ, 8, .inr (.inl kn))), (u0, .inl (cJ, 1, .inr (.inl (vp_updL ou 0 ((f_find (f_P md kn k) i (mn k) 1 0).toInt64)))))]) hx hb hK hP hD hS 5 1 rfl rfl (j := 0) (by decide) (by decide) (by decide) rfl dLW_number_9 (fun H locs hP hD hS => ?_)
    refine lv_goto (tgt := 17) hx hb dLW_number_10 (by decide) ?_
    refine lv_iconst (v := 0) hx hb dLW_number_17 (by decide) ?_
    exact k_iret hx hb hr hlocks hP hK hD hS rfl dLW_number_18 ⟨Nat.le_of_ble_eq_true rfl, Nat.le_of_ble_eq_true rfl⟩

abbrev rm_LW_collected : Room := { frames := 7, cells := 1, slots := 6, locals := 104 }
set_option maxHeartbeats 4000000 in
set_option maxRecDepth 100000 in
theorem k_LW_collected (l : Launch) (dC : Nat → ClassId) (dI : Nat → Nat → Nat) (cI cJ cG cZ : ClassId) (o0 : Nat) (a0 : Nat) (a1 : Nat) (a2 : Nat) (a3 : Nat) (a4 : Nat) (a5 : Nat) (b0 : Nat) (c1 : Nat) (c2 : Nat) (r : Nat → Nat) (sz : Nat → Int32) (vs : Nat → Nat → Int64) (u0 : Nat) (ou : Nat → Int64) (ns : Nat → Nat) (x : Int32) (i : Int32) (hns : ∀ k : Nat, k < 4 → sz k = nI (ns k) ∧ ns k ≤ 100) (hlt : l.stackTraces = false) : k_M l yLW_collected wsLW_collected rm_LW_collected (dC, dI) vwCl [(cI, .int), (cJ, .long), (cG, .array .long), (cZ, .boolean)] [.ref o0, .int x, .int i, .ref u0] [(o0, .inr (6, [.ref a0, .ref b0])), (a0, .inr (1, [.ref a1, .ref a2, .ref a3, .ref a4, .ref a5])), (a4, .inr (0, [.ref c1, .ref c2])), (c1, .inl (cI, 4, .inl sz)), (c2, .inl (cG, 4, .inr (.inr (.inr (.inr (f_rw r)))))), (r 0, .inl (cJ, 100, .inr (.inl (vs 0)))), (r 1, .inl (cJ, 100, .inr (.inl (vs 1)))), (r 2, .inl (cJ, 100, .inr (.inl (vs 2)))), (r 3, .inl (cJ, 100, .inr (.inl (vs 3)))), (u0, .inl (cJ, 1, .inr (.inl ou)))] (some (.int (f_clR sz x i))) [(o0, .inr (6, [.ref a0, .ref b0])), (a0, .inr (1, [.ref a1, .ref a2, .ref a3, .ref a4, .ref a5])), (a4, .inr (0, [.ref c1, .ref c2])), (c1, .inl (cI, 4, .inl sz)), (c2, .inl (cG, 4, .inr (.inr (.inr (.inr (f_rw r)))))), (r 0, .inl (cJ, 100, .inr (.inl (vs 0)))), (r 1, .inl (cJ, 100, .inr (.inl (vs 1)))), (r 2, .inl (cJ, 100, .inr (.inl (vs 2)))), (r 3, .inl (cJ, 100, .inr (.inl (vs 3)))), (u0, .inl (cJ, 1, .inr (.inl (f_clO sz vs ou x i))))] := by
  rcases f_cls hns x i with ⟨e1, h1⟩ | ⟨k, hk, rfl, e1, h1⟩ | ⟨k, j, hk, hj, rfl, rfl, h1, e1⟩
  · have e2 : ¬ f_clR sz x i = 0 := by rw [e1]; decide
    rw [show f_clO sz vs ou x i = ou from if_neg e2, e1]
    refine k_ofH (cc := cLW_collected) (maxL := 5) (ret := (some .int)) (by decide) rfl (Nat.le_of_ble_eq_true rfl) ?_
    intro p e s m below meth c A ls hx hb hr hlocks hml hown hts hA hP hD hK hF hl hS ht
    have hown : s.vm.findClass RLW = some m.cls := hown
    have hl : lv_has ls 5 [(0, .ref o0), (1, .int x), (2, .int i), (3, .ref u0)] := hl
    refine lv_aload_n hx hb dLW_collected_0 rfl (lv_at hl 3 rfl) ?_
    refine lv_iconst (v := 0) hx hb dLW_collected_1 (by decide) ?_
    refine lv_aload_n hx hb dLW_collected_2 rfl (lv_at hl 0 rfl) ?_
    refine lv_iload_n hx hb dLW_collected_3 rfl (lv_at hl 1 rfl) ?_
    refine lv_iload_n hx hb dLW_collected_4 rfl (lv_at hl 2 rfl) ?_
    refine k_VT (wr := [(u0, .inl (cJ, 1, .inr (.inl ou)))]) (W1 := [(o0, .inr (6, [.ref a0, .ref b0])), (a0, .inr (1, [.ref a1, .ref a2, .ref a3, .ref a4, .ref a5])), (a4, .inr (0, [.ref c1, .ref c2])), (c1, .inl (cI, 4, .inl sz)), (c2, .inl (cG, 4, .inr (.inr (.inr (.inr (f_rw r)))))), (r 0, .inl (cJ, 100, .inr (.inl (vs 0)))), (r 1, .inl (cJ, 100, .inr (.inl (vs 1)))), (r 2, .inl (cJ, 100, .inr (.inl (vs 2)))), (r 3, .inl (cJ, 100, .inr (.inl (vs 3)))), (u0, .inl (cJ, 1, .inr (.inl ou)))]) (rest := [.int 0, .ref u0]) ⟨hx, hb, hml, hown, hts⟩ (k_PD_collected_1 l dC dI cI cJ cG cZ o0 a0 a1 a2 a3 a4 a5 b0 c1 c2 r sz vs x i h1 hlt) (cwV 2 hts (k_gV m_l_LW_27 m_i_PD_collected m_s_PD_collected m_in_PD m_c_PD_collected) rfl rfl rfl (by decide +kernel) ⟨Nat.le_of_ble_eq_true rfl, Nat.le_of_ble_eq_true rfl⟩) hK hF hP hD hS hA [0, 1, 2, 3, 4, 5, 6, 7, 8] [9] [1, 2, 3, 4, 5, 6, 7, 8, 9, 0] rfl rfl (by decide) (by decide) (by decide) rfl (by decide) rfl rfl rfl rfl hl.1 rfl (Nat.le_of_ble_eq_true rfl) dLW_collected_5 ⟨Nat.le_of_ble_eq_true rfl, Nat.le_of_ble_eq_true rfl⟩ (fun q9 ce H locs hP hD hS hce hcv hcl => ?_)
    refine k_catch (own := RLW) hown hts hF [] (⟨0, 9, 12, 21⟩ : ExceptionTableEntry) [] ht (fun _ h => absurd h List.not_mem_nil) (by decide) (by decide) m_cl_LW_21 (by decide) hce hcv hcl ?_
    refine lv_astore (lv' := [(4, .ref q9), (0, .ref o0), (1, .int x), (2, .int i), (3, .ref u0)]) hx hb dLW_collected_12 hl (by decide) rfl (fun ls hl => ?_)
    refine lv_iconst (v := 1) hx hb dLW_collected_14 (by decide) ?_
    exact k_iret hx hb hr hlocks hP hK hD hS rfl dLW_collected_15 ⟨Nat.le_of_ble_eq_true rfl, Nat.le_of_ble_eq_true rfl⟩
  · have e2 : ¬ f_clR sz (nI k) i = 0 := by rw [e1]; decide
    rw [show f_clO sz vs ou (nI k) i = ou from if_neg e2, e1]
    refine k_ofH (cc := cLW_collected) (maxL := 5) (ret := (some .int)) (by decide) rfl (Nat.le_of_ble_eq_true rfl) ?_
    intro p e s m below meth c A ls hx hb hr hlocks hml hown hts hA hP hD hK hF hl hS ht
    have hown : s.vm.findClass RLW = some m.cls := hown
    have hl : lv_has ls 5 [(0, .ref o0), (1, .int (nI k)), (2, .int i), (3, .ref u0)] := hl
    refine lv_aload_n hx hb dLW_collected_0 rfl (lv_at hl 3 rfl) ?_
    refine lv_iconst (v := 0) hx hb dLW_collected_1 (by decide) ?_
    refine lv_aload_n hx hb dLW_collected_2 rfl (lv_at hl 0 rfl) ?_
    refine lv_iload_n hx hb dLW_collected_3 rfl (lv_at hl 1 rfl) ?_
    refine lv_iload_n hx hb dLW_collected_4 rfl (lv_at hl 2 rfl) ?_
    refine k_VT (wr := [(u0, .inl (cJ, 1, .inr (.inl ou)))]) (W1 := [(o0, .inr (6, [.ref a0, .ref b0])), (a0, .inr (1, [.ref a1, .ref a2, .ref a3, .ref a4, .ref a5])), (a4, .inr (0, [.ref c1, .ref c2])), (c1, .inl (cI, 4, .inl sz)), (c2, .inl (cG, 4, .inr (.inr (.inr (.inr (f_rw r)))))), (r 0, .inl (cJ, 100, .inr (.inl (vs 0)))), (r 1, .inl (cJ, 100, .inr (.inl (vs 1)))), (r 2, .inl (cJ, 100, .inr (.inl (vs 2)))), (r 3, .inl (cJ, 100, .inr (.inl (vs 3)))), (u0, .inl (cJ, 1, .inr (.inl ou)))]) (rest := [.int 0, .ref u0]) ⟨hx, hb, hml, hown, hts⟩ (k_PD_collected_2 l dC dI cI cJ cG cZ o0 a0 a1 a2 a3 a4 a5 b0 c1 c2 r sz vs k i hk h1 hlt) (cwV 2 hts (k_gV m_l_LW_27 m_i_PD_collected m_s_PD_collected m_in_PD m_c_PD_collected) rfl rfl rfl (by decide +kernel) ⟨Nat.le_of_ble_eq_true rfl, Nat.le_of_ble_eq_true rfl⟩) hK hF hP hD hS hA [0, 1, 2, 3, 4, 5, 6, 7, 8] [9] [1, 2, 3, 4, 5, 6, 7, 8, 9, 0] rfl rfl (by decide) (by decide) (by decide) rfl (by decide) rfl rfl rfl rfl hl.1 rfl (Nat.le_of_ble_eq_true rfl) dLW_collected_5 ⟨Nat.le_of_ble_eq_true rfl, Nat.le_of_ble_eq_true rfl⟩ (fun q9 ce H locs hP hD hS hce hcv hcl => ?_)
    refine k_catch (own := RLW) hown hts hF [] (⟨0, 9, 12, 21⟩ : ExceptionTableEntry) [] ht (fun _ h => absurd h List.not_mem_nil) (by decide) (by decide) m_cl_LW_21 (by decide) hce hcv hcl ?_
    refine lv_astore (lv' := [(4, .ref q9), (0, .ref o0), (1, .int (nI k)), (2, .int i), (3, .ref u0)]) hx hb dLW_collected_12 hl (by decide) rfl (fun ls hl => ?_)
    refine lv_iconst (v := 1) hx hb dLW_collected_14 (by decide) ?_
    exact k_iret hx hb hr hlocks hP hK hD hS rfl dLW_collected_15 ⟨Nat.le_of_ble_eq_true rfl, Nat.le_of_ble_eq_true rfl⟩
  · rw [show f_clO sz vs ou (nI k) (nI j) = vp_updL ou 0 (vs k j) by unfold f_clO; rw [if_pos e1, nI_clamp (by omega), nI_clamp (by omega)], e1]
    refine k_ofH (cc := cLW_collected) (maxL := 5) (ret := (some .int)) (by decide) rfl (Nat.le_of_ble_eq_true rfl) ?_
    intro p e s m below meth c A ls hx hb hr hlocks hml hown hts hA hP hD hK hF hl hS ht
    have hown : s.vm.findClass RLW = some m.cls := hown
    have hl : lv_has ls 5 [(0, .ref o0), (1, .int (nI k)), (2, .int (nI j)), (3, .ref u0)] := hl
    refine lv_aload_n hx hb dLW_collected_0 rfl (lv_at hl 3 rfl) ?_
    refine lv_iconst (v := 0) hx hb dLW_collected_1 (by decide) ?_
    refine lv_aload_n hx hb dLW_collected_2 rfl (lv_at hl 0 rfl) ?_
    refine lv_iload_n hx hb dLW_collected_3 rfl (lv_at hl 1 rfl) ?_
    refine lv_iload_n hx hb dLW_collected_4 rfl (lv_at hl 2 rfl) ?_
    refine k_V (wr := [(u0, .inl (cJ, 1, .inr (.inl ou)))]) (W1 := [(o0, .inr (6, [.ref a0, .ref b0])), (a0, .inr (1, [.ref a1, .ref a2, .ref a3, .ref a4, .ref a5])), (a4, .inr (0, [.ref c1, .ref c2])), (c1, .inl (cI, 4, .inl sz)), (c2, .inl (cG, 4, .inr (.inr (.inr (.inr (f_rw r)))))), (r 0, .inl (cJ, 100, .inr (.inl (vs 0)))), (r 1, .inl (cJ, 100, .inr (.inl (vs 1)))), (r 2, .inl (cJ, 100, .inr (.inl (vs 2)))), (r 3, .inl (cJ, 100, .inr (.inl (vs 3)))), (u0, .inl (cJ, 1, .inr (.inl ou)))]) (st1 := [.long (vs k j), .int 0, .ref u0]) ⟨hx, hb, hml, hown, hts⟩ (k_PD_collected l dC dI cI cJ cG cZ o0 a0 a1 a2 a3 a4 a5 b0 c1 c2 r sz vs k j hk h1 hj) (cwV 2 hts (k_gV m_l_LW_27 m_i_PD_collected m_s_PD_collected m_in_PD m_c_PD_collected) rfl rfl rfl (by decide +kernel) ⟨Nat.le_of_ble_eq_true rfl, Nat.le_of_ble_eq_true rfl⟩) hK hF hP hD hS hA [0, 1, 2, 3, 4, 5, 6, 7, 8] [9] [1, 2, 3, 4, 5, 6, 7, 8, 9, 0] rfl rfl (by decide) (by decide) (by decide) rfl (by decide) rfl rfl rfl rfl hl.1 rfl (Nat.le_of_ble_eq_true rfl) dLW_collected_5 ⟨Nat.le_of_ble_eq_true rfl, Nat.le_of_ble_eq_true rfl⟩ rfl (fun H locs hP hD hS => ?_)
    refine k_lst (W1 := [(o0, .inr (6, [.ref a0, .ref b0])), (a0, .inr (1, [.ref a1, .ref a2, .ref a3, .ref a4, .ref a5])), (a4, .inr (0, [.ref c1, .ref c2])), (c1, .inl (cI, 4, .inl sz)), (c2, .inl (cG, 4, .inr (.inr (.inr (.inr (f_rw r)))))), (r 0, .inl (cJ, 100, .inr (.inl (vs 0)))), (r 1, .inl (cJ, 100, .inr (.inl (vs 1)))), (r 2, .inl (cJ, 100, .inr (.inl (vs 2)))), (r 3, .inl (cJ, 100, .inr (.inl (vs 3)))), (u0, .inl (cJ, 1, .inr (.inl (vp_updL ou 0 (vs k j)))))]) hx hb hK hP hD hS 9 1 rfl rfl (j := 0) (by decide) (by decide) (by decide) rfl dLW_collected_8 (fun H locs hP hD hS => ?_)
    refine lv_goto (tgt := 16) hx hb dLW_collected_9 (by decide) ?_
    refine lv_iconst (v := 0) hx hb dLW_collected_16 (by decide) ?_
    exact k_iret hx hb hr hlocks hP hK hD hS rfl dLW_collected_17 ⟨Nat.le_of_ble_eq_true rfl, Nat.le_of_ble_eq_true rfl⟩

abbrev rm_LW_log : Room := { frames := 7, cells := 1, slots := 6, locals := 104 }
set_option maxHeartbeats 4000000 in
set_option maxRecDepth 100000 in
theorem k_LW_log (l : Launch) (dC : Nat → ClassId) (dI : Nat → Nat → Nat) (cI cJ cG cZ : ClassId) (o0 : Nat) (a0 : Nat) (a1 : Nat) (a2 : Nat) (a3 : Nat) (a4 : Nat) (a5 : Nat) (b0 : Nat) (b1 : Nat) (b2 : Nat) (b3 : Nat) (b4 : Nat) (b5 : Nat) (j1 : Nat) (xj1 : Nat) (rg : Nat → Int64) (xrg : Nat → Int64) (z : Nat) (q : Nat) (xz : Nat) (xq : Nat) (u0 : Nat) (ou : Nat → Int64) (x : Int32) (i : Int32) (hz : z ≤ 64) (hq : q < 64) (hxz : xz ≤ 64) (hxq : xq < 64) (hlt : l.stackTraces = false) : k_M l yLW_log wsLW_log rm_LW_log (dC, dI) vwCl [(cI, .int), (cJ, .long), (cG, .array .long), (cZ, .boolean)] [.ref o0, .int x, .int i, .ref u0] [(o0, .inr (6, [.ref a0, .ref b0])), (a0, .inr (1, [.ref a1, .ref a2, .ref a3, .ref a4, .ref a5])), (a5, .inr (2, [.ref j1, .int (nI z), .int (nI q)])), (j1, .inl (cJ, 64, .inr (.inl rg))), (b0, .inr (1, [.ref b1, .ref b2, .ref b3, .ref b4, .ref b5])), (b5, .inr (2, [.ref xj1, .int (nI xz), .int (nI xq)])), (xj1, .inl (cJ, 64, .inr (.inl xrg))), (u0, .inl (cJ, 1, .inr (.inl ou)))] (some (.int (f_lgR z xz x i))) [(o0, .inr (6, [.ref a0, .ref b0])), (a0, .inr (1, [.ref a1, .ref a2, .ref a3, .ref a4, .ref a5])), (a5, .inr (2, [.ref j1, .int (nI z), .int (nI q)])), (j1, .inl (cJ, 64, .inr (.inl rg))), (b0, .inr (1, [.ref b1, .ref b2, .ref b3, .ref b4, .ref b5])), (b5, .inr (2, [.ref xj1, .int (nI xz), .int (nI xq)])), (xj1, .inl (cJ, 64, .inr (.inl xrg))), (u0, .inl (cJ, 1, .inr (.inl (f_lgO rg xrg z q xz xq ou x i))))] := by
  rcases f_lga hz hxz x i with ⟨e1, h1⟩ | ⟨rfl, e1, h1⟩ | ⟨rfl, e1, h1⟩ | ⟨rfl, j, hj, rfl, e1⟩ | ⟨rfl, j, hj, rfl, e1⟩
  · have e2 : ¬ f_lgR z xz x i = 0 := by rw [e1]; decide
    rw [show f_lgO rg xrg z q xz xq ou x i = ou from if_neg e2, e1]
    refine k_ofH (cc := cLW_log) (maxL := 5) (ret := (some .int)) (by decide) rfl (Nat.le_of_ble_eq_true rfl) ?_
    intro p e s m below meth c A ls hx hb hr hlocks hml hown hts hA hP hD hK hF hl hS ht
    have hown : s.vm.findClass RLW = some m.cls := hown
    have hl : lv_has ls 5 [(0, .ref o0), (1, .int x), (2, .int i), (3, .ref u0)] := hl
    refine lv_aload_n hx hb dLW_log_0 rfl (lv_at hl 3 rfl) ?_
    refine lv_iconst (v := 0) hx hb dLW_log_1 (by decide) ?_
    refine lv_aload_n hx hb dLW_log_2 rfl (lv_at hl 0 rfl) ?_
    refine lv_iload_n hx hb dLW_log_3 rfl (lv_at hl 1 rfl) ?_
    refine lv_iload_n hx hb dLW_log_4 rfl (lv_at hl 2 rfl) ?_
    refine k_VT (wr := [(a0, .inr (1, [.ref a1, .ref a2, .ref a3, .ref a4, .ref a5])), (a5, .inr (2, [.ref j1, .int (nI z), .int (nI q)])), (j1, .inl (cJ, 64, .inr (.inl rg))), (b0, .inr (1, [.ref b1, .ref b2, .ref b3, .ref b4, .ref b5])), (b5, .inr (2, [.ref xj1, .int (nI xz), .int (nI xq)])), (xj1, .inl (cJ, 64, .inr (.inl xrg))), (u0, .inl (cJ, 1, .inr (.inl ou)))]) (W1 := [(o0, .inr (6, [.ref a0, .ref b0])), (a0, .inr (1, [.ref a1, .ref a2, .ref a3, .ref a4, .ref a5])), (a5, .inr (2, [.ref j1, .int (nI z), .int (nI q)])), (j1, .inl (cJ, 64, .inr (.inl rg))), (b0, .inr (1, [.ref b1, .ref b2, .ref b3, .ref b4, .ref b5])), (b5, .inr (2, [.ref xj1, .int (nI xz), .int (nI xq)])), (xj1, .inl (cJ, 64, .inr (.inl xrg))), (u0, .inl (cJ, 1, .inr (.inl ou)))]) (rest := [.int 0, .ref u0]) ⟨hx, hb, hml, hown, hts⟩ (k_PD_log_T l dC dI cI cJ cG cZ o0 a0 b0 x i h1 hlt) (cwV 2 hts (k_gV m_l_LW_31 m_i_PD_log m_s_PD_log m_in_PD m_c_PD_log) rfl rfl rfl (by decide +kernel) ⟨Nat.le_of_ble_eq_true rfl, Nat.le_of_ble_eq_true rfl⟩) hK hF hP hD hS hA [0] [1, 2, 3, 4, 5, 6, 7] [7, 0, 1, 2, 3, 4, 5, 6] rfl rfl (by decide) (by decide) (by decide) rfl (by decide) rfl rfl rfl rfl hl.1 rfl (Nat.le_of_ble_eq_true rfl) dLW_log_5 ⟨Nat.le_of_ble_eq_true rfl, Nat.le_of_ble_eq_true rfl⟩ (fun q9 ce H locs hP hD hS hce hcv hcl => ?_)
    refine k_catch (own := RLW) hown hts hF [] (⟨0, 9, 12, 21⟩ : ExceptionTableEntry) [] ht (fun _ h => absurd h List.not_mem_nil) (by decide) (by decide) m_cl_LW_21 (by decide) hce hcv hcl ?_
    refine lv_astore (lv' := [(4, .ref q9), (0, .ref o0), (1, .int x), (2, .int i), (3, .ref u0)]) hx hb dLW_log_12 hl (by decide) rfl (fun ls hl => ?_)
    refine lv_iconst (v := 1) hx hb dLW_log_14 (by decide) ?_
    exact k_iret hx hb hr hlocks hP hK hD hS rfl dLW_log_15 ⟨Nat.le_of_ble_eq_true rfl, Nat.le_of_ble_eq_true rfl⟩
  · have e2 : ¬ f_lgR z xz 0 i = 0 := by rw [e1]; decide
    rw [show f_lgO rg xrg z q xz xq ou 0 i = ou from if_neg e2, e1]
    refine k_ofH (cc := cLW_log) (maxL := 5) (ret := (some .int)) (by decide) rfl (Nat.le_of_ble_eq_true rfl) ?_
    intro p e s m below meth c A ls hx hb hr hlocks hml hown hts hA hP hD hK hF hl hS ht
    have hown : s.vm.findClass RLW = some m.cls := hown
    have hl : lv_has ls 5 [(0, .ref o0), (1, .int 0), (2, .int i), (3, .ref u0)] := hl
    refine lv_aload_n hx hb dLW_log_0 rfl (lv_at hl 3 rfl) ?_
    refine lv_iconst (v := 0) hx hb dLW_log_1 (by decide) ?_
    refine lv_aload_n hx hb dLW_log_2 rfl (lv_at hl 0 rfl) ?_
    refine lv_iload_n hx hb dLW_log_3 rfl (lv_at hl 1 rfl) ?_
    refine lv_iload_n hx hb dLW_log_4 rfl (lv_at hl 2 rfl) ?_
    refine k_VT (wr := [(b0, .inr (1, [.ref b1, .ref b2, .ref b3, .ref b4, .ref b5])), (b5, .inr (2, [.ref xj1, .int (nI xz), .int (nI xq)])), (xj1, .inl (cJ, 64, .inr (.inl xrg))), (u0, .inl (cJ, 1, .inr (.inl ou)))]) (W1 := [(o0, .inr (6, [.ref a0, .ref b0])), (a0, .inr (1, [.ref a1, .ref a2, .ref a3, .ref a4, .ref a5])), (a5, .inr (2, [.ref j1, .int (nI z), .int (nI q)])), (j1, .inl (cJ, 64, .inr (.inl rg))), (b0, .inr (1, [.ref b1, .ref b2, .ref b3, .ref b4, .ref b5])), (b5, .inr (2, [.ref xj1, .int (nI xz), .int (nI xq)])), (xj1, .inl (cJ, 64, .inr (.inl xrg))), (u0, .inl (cJ, 1, .inr (.inl ou)))]) (rest := [.int 0, .ref u0]) ⟨hx, hb, hml, hown, hts⟩ (k_PD_log_T0 l dC dI cI cJ cG cZ o0 b0 a0 a1 a2 a3 a4 a5 j1 rg z q i h1 hlt) (cwV 2 hts (k_gV m_l_LW_31 m_i_PD_log m_s_PD_log m_in_PD m_c_PD_log) rfl rfl rfl (by decide +kernel) ⟨Nat.le_of_ble_eq_true rfl, Nat.le_of_ble_eq_true rfl⟩) hK hF hP hD hS hA [0, 1, 2, 3] [4, 5, 6, 7] [4, 5, 6, 7, 0, 1, 2, 3] rfl rfl (by decide) (by decide) (by decide) rfl (by decide) rfl rfl rfl rfl hl.1 rfl (Nat.le_of_ble_eq_true rfl) dLW_log_5 ⟨Nat.le_of_ble_eq_true rfl, Nat.le_of_ble_eq_true rfl⟩ (fun q9 ce H locs hP hD hS hce hcv hcl => ?_)
    refine k_catch (own := RLW) hown hts hF [] (⟨0, 9, 12, 21⟩ : ExceptionTableEntry) [] ht (fun _ h => absurd h List.not_mem_nil) (by decide) (by decide) m_cl_LW_21 (by decide) hce hcv hcl ?_
    refine lv_astore (lv' := [(4, .ref q9), (0, .ref o0), (1, .int 0), (2, .int i), (3, .ref u0)]) hx hb dLW_log_12 hl (by decide) rfl (fun ls hl => ?_)
    refine lv_iconst (v := 1) hx hb dLW_log_14 (by decide) ?_
    exact k_iret hx hb hr hlocks hP hK hD hS rfl dLW_log_15 ⟨Nat.le_of_ble_eq_true rfl, Nat.le_of_ble_eq_true rfl⟩
  · have e2 : ¬ f_lgR z xz 1 i = 0 := by rw [e1]; decide
    rw [show f_lgO rg xrg z q xz xq ou 1 i = ou from if_neg e2, e1]
    refine k_ofH (cc := cLW_log) (maxL := 5) (ret := (some .int)) (by decide) rfl (Nat.le_of_ble_eq_true rfl) ?_
    intro p e s m below meth c A ls hx hb hr hlocks hml hown hts hA hP hD hK hF hl hS ht
    have hown : s.vm.findClass RLW = some m.cls := hown
    have hl : lv_has ls 5 [(0, .ref o0), (1, .int 1), (2, .int i), (3, .ref u0)] := hl
    refine lv_aload_n hx hb dLW_log_0 rfl (lv_at hl 3 rfl) ?_
    refine lv_iconst (v := 0) hx hb dLW_log_1 (by decide) ?_
    refine lv_aload_n hx hb dLW_log_2 rfl (lv_at hl 0 rfl) ?_
    refine lv_iload_n hx hb dLW_log_3 rfl (lv_at hl 1 rfl) ?_
    refine lv_iload_n hx hb dLW_log_4 rfl (lv_at hl 2 rfl) ?_
    refine k_VT (wr := [(a0, .inr (1, [.ref a1, .ref a2, .ref a3, .ref a4, .ref a5])), (a5, .inr (2, [.ref j1, .int (nI z), .int (nI q)])), (j1, .inl (cJ, 64, .inr (.inl rg))), (u0, .inl (cJ, 1, .inr (.inl ou)))]) (W1 := [(o0, .inr (6, [.ref a0, .ref b0])), (a0, .inr (1, [.ref a1, .ref a2, .ref a3, .ref a4, .ref a5])), (a5, .inr (2, [.ref j1, .int (nI z), .int (nI q)])), (j1, .inl (cJ, 64, .inr (.inl rg))), (b0, .inr (1, [.ref b1, .ref b2, .ref b3, .ref b4, .ref b5])), (b5, .inr (2, [.ref xj1, .int (nI xz), .int (nI xq)])), (xj1, .inl (cJ, 64, .inr (.inl xrg))), (u0, .inl (cJ, 1, .inr (.inl ou)))]) (rest := [.int 0, .ref u0]) ⟨hx, hb, hml, hown, hts⟩ (k_PD_log_T1 l dC dI cI cJ cG cZ o0 a0 b0 b1 b2 b3 b4 b5 xj1 xrg xz xq i h1 hlt) (cwV 2 hts (k_gV m_l_LW_31 m_i_PD_log m_s_PD_log m_in_PD m_c_PD_log) rfl rfl rfl (by decide +kernel) ⟨Nat.le_of_ble_eq_true rfl, Nat.le_of_ble_eq_true rfl⟩) hK hF hP hD hS hA [0, 4, 5, 6] [1, 2, 3, 7] [4, 0, 1, 2, 5, 6, 7, 3] rfl rfl (by decide) (by decide) (by decide) rfl (by decide) rfl rfl rfl rfl hl.1 rfl (Nat.le_of_ble_eq_true rfl) dLW_log_5 ⟨Nat.le_of_ble_eq_true rfl, Nat.le_of_ble_eq_true rfl⟩ (fun q9 ce H locs hP hD hS hce hcv hcl => ?_)
    refine k_catch (own := RLW) hown hts hF [] (⟨0, 9, 12, 21⟩ : ExceptionTableEntry) [] ht (fun _ h => absurd h List.not_mem_nil) (by decide) (by decide) m_cl_LW_21 (by decide) hce hcv hcl ?_
    refine lv_astore (lv' := [(4, .ref q9), (0, .ref o0), (1, .int 1), (2, .int i), (3, .ref u0)]) hx hb dLW_log_12 hl (by decide) rfl (fun ls hl => ?_)
    refine lv_iconst (v := 1) hx hb dLW_log_14 (by decide) ?_
    exact k_iret hx hb hr hlocks hP hK hD hS rfl dLW_log_15 ⟨Nat.le_of_ble_eq_true rfl, Nat.le_of_ble_eq_true rfl⟩
  · rw [show f_lgO rg xrg z q xz xq ou 0 (nI j) = vp_updL ou 0 (rg (f_ix q z j)) by unfold f_lgO f_lgV; rw [if_pos e1, if_pos (by decide), nI_clamp (by omega)], e1]
    refine k_ofH (cc := cLW_log) (maxL := 5) (ret := (some .int)) (by decide) rfl (Nat.le_of_ble_eq_true rfl) ?_
    intro p e s m below meth c A ls hx hb hr hlocks hml hown hts hA hP hD hK hF hl hS ht
    have hown : s.vm.findClass RLW = some m.cls := hown
    have hl : lv_has ls 5 [(0, .ref o0), (1, .int 0), (2, .int (nI j)), (3, .ref u0)] := hl
    refine lv_aload_n hx hb dLW_log_0 rfl (lv_at hl 3 rfl) ?_
    refine lv_iconst (v := 0) hx hb dLW_log_1 (by decide) ?_
    refine lv_aload_n hx hb dLW_log_2 rfl (lv_at hl 0 rfl) ?_
    refine lv_iload_n hx hb dLW_log_3 rfl (lv_at hl 1 rfl) ?_
    refine lv_iload_n hx hb dLW_log_4 rfl (lv_at hl 2 rfl) ?_
    refine k_V (wr := [(b0, .inr (1, [.ref b1, .ref b2, .ref b3, .ref b4, .ref b5])), (b5, .inr (2, [.ref xj1, .int (nI xz), .int (nI xq)])), (xj1, .inl (cJ, 64, .inr (.inl xrg))), (u0, .inl (cJ, 1, .inr (.inl ou)))]) (W1 := [(o0, .inr (6, [.ref a0, .ref b0])), (a0, .inr (1, [.ref a1, .ref a2, .ref a3, .ref a4, .ref a5])), (a5, .inr (2, [.ref j1, .int (nI z), .int (nI q)])), (j1, .inl (cJ, 64, .inr (.inl rg))), (b0, .inr (1, [.ref b1, .ref b2, .ref b3, .ref b4, .ref b5])), (b5, .inr (2, [.ref xj1, .int (nI xz), .int (nI xq)])), (xj1, .inl (cJ, 64, .inr (.inl xrg))), (u0, .inl (cJ, 1, .inr (.inl ou)))]) (st1 := [.long (rg (f_ix q z j)), .int 0, .ref u0]) ⟨hx, hb, hml, hown, hts⟩ (k_PD_log_0 l dC dI cI cJ cG cZ o0 b0 a0 a1 a2 a3 a4 a5 j1 rg z q j hz hq hj) (cwV 2 hts (k_gV m_l_LW_31 m_i_PD_log m_s_PD_log m_in_PD m_c_PD_log) rfl rfl rfl (by decide +kernel) ⟨Nat.le_of_ble_eq_true rfl, Nat.le_of_ble_eq_true rfl⟩) hK hF hP hD hS hA [0, 1, 2, 3] [4, 5, 6, 7] [4, 5, 6, 7, 0, 1, 2, 3] rfl rfl (by decide) (by decide) (by decide) rfl (by decide) rfl rfl rfl rfl hl.1 rfl (Nat.le_of_ble_eq_true rfl) dLW_log_5 ⟨Nat.le_of_ble_eq_true rfl, Nat.le_of_ble_eq_true rfl⟩ rfl (fun H locs hP hD hS => ?_)
    refine k_lst (W1 := [(o0, .inr (6, [.ref a0, .ref b0])), (a0, .inr (1, [.ref a1, .ref a2, .ref a3, .ref a4, .ref a5])), (a5, .inr (2, [.ref j1, .int (nI z), .int (nI q)])), (j1, .inl (cJ, 64, .inr (.inl rg))), (b0, .inr (1, [.ref b1, .ref b2, .ref b3, .ref b4, .ref b5])), (b5, .inr (2, [.ref xj1, .int (nI xz), .int (nI xq)])), (xj1, .inl (cJ, 64, .inr (.inl xrg))), (u0, .inl (cJ, 1, .inr (.inl (vp_updL ou 0 (rg (f_ix q z j))))))]) hx hb hK hP hD hS 7 1 rfl rfl (j := 0) (by decide) (by decide) (by decide) rfl dLW_log_8 (fun H locs hP hD hS => ?_)
    refine lv_goto (tgt := 16) hx hb dLW_log_9 (by decide) ?_
    refine lv_iconst (v := 0) hx hb dLW_log_16 (by decide) ?_
    exact k_iret hx hb hr hlocks hP hK hD hS rfl dLW_log_17 ⟨Nat.le_of_ble_eq_true rfl, Nat.le_of_ble_eq_true rfl⟩
  · rw [show f_lgO rg xrg z q xz xq ou 1 (nI j) = vp_updL ou 0 (xrg (f_ix xq xz j)) by unfold f_lgO f_lgV; rw [if_pos e1, if_neg (by decide), nI_clamp (by omega)], e1]
    refine k_ofH (cc := cLW_log) (maxL := 5) (ret := (some .int)) (by decide) rfl (Nat.le_of_ble_eq_true rfl) ?_
    intro p e s m below meth c A ls hx hb hr hlocks hml hown hts hA hP hD hK hF hl hS ht
    have hown : s.vm.findClass RLW = some m.cls := hown
    have hl : lv_has ls 5 [(0, .ref o0), (1, .int 1), (2, .int (nI j)), (3, .ref u0)] := hl
    refine lv_aload_n hx hb dLW_log_0 rfl (lv_at hl 3 rfl) ?_
    refine lv_iconst (v := 0) hx hb dLW_log_1 (by decide) ?_
    refine lv_aload_n hx hb dLW_log_2 rfl (lv_at hl 0 rfl) ?_
    refine lv_iload_n hx hb dLW_log_3 rfl (lv_at hl 1 rfl) ?_
    refine lv_iload_n hx hb dLW_log_4 rfl (lv_at hl 2 rfl) ?_
    refine k_V (wr := [(a0, .inr (1, [.ref a1, .ref a2, .ref a3, .ref a4, .ref a5])), (a5, .inr (2, [.ref j1, .int (nI z), .int (nI q)])), (j1, .inl (cJ, 64, .inr (.inl rg))), (u0, .inl (cJ, 1, .inr (.inl ou)))]) (W1 := [(o0, .inr (6, [.ref a0, .ref b0])), (a0, .inr (1, [.ref a1, .ref a2, .ref a3, .ref a4, .ref a5])), (a5, .inr (2, [.ref j1, .int (nI z), .int (nI q)])), (j1, .inl (cJ, 64, .inr (.inl rg))), (b0, .inr (1, [.ref b1, .ref b2, .ref b3, .ref b4, .ref b5])), (b5, .inr (2, [.ref xj1, .int (nI xz), .int (nI xq)])), (xj1, .inl (cJ, 64, .inr (.inl xrg))), (u0, .inl (cJ, 1, .inr (.inl ou)))]) (st1 := [.long (xrg (f_ix xq xz j)), .int 0, .ref u0]) ⟨hx, hb, hml, hown, hts⟩ (k_PD_log_1 l dC dI cI cJ cG cZ o0 a0 b0 b1 b2 b3 b4 b5 xj1 xrg xz xq j hxz hxq hj) (cwV 2 hts (k_gV m_l_LW_31 m_i_PD_log m_s_PD_log m_in_PD m_c_PD_log) rfl rfl rfl (by decide +kernel) ⟨Nat.le_of_ble_eq_true rfl, Nat.le_of_ble_eq_true rfl⟩) hK hF hP hD hS hA [0, 4, 5, 6] [1, 2, 3, 7] [4, 0, 1, 2, 5, 6, 7, 3] rfl rfl (by decide) (by decide) (by decide) rfl (by decide) rfl rfl rfl rfl hl.1 rfl (Nat.le_of_ble_eq_true rfl) dLW_log_5 ⟨Nat.le_of_ble_eq_true rfl, Nat.le_of_ble_eq_true rfl⟩ rfl (fun H locs hP hD hS => ?_)
    refine k_lst (W1 := [(o0, .inr (6, [.ref a0, .ref b0])), (a0, .inr (1, [.ref a1, .ref a2, .ref a3, .ref a4, .ref a5])), (a5, .inr (2, [.ref j1, .int (nI z), .int (nI q)])), (j1, .inl (cJ, 64, .inr (.inl rg))), (b0, .inr (1, [.ref b1, .ref b2, .ref b3, .ref b4, .ref b5])), (b5, .inr (2, [.ref xj1, .int (nI xz), .int (nI xq)])), (xj1, .inl (cJ, 64, .inr (.inl xrg))), (u0, .inl (cJ, 1, .inr (.inl (vp_updL ou 0 (xrg (f_ix xq xz j))))))]) hx hb hK hP hD hS 7 1 rfl rfl (j := 0) (by decide) (by decide) (by decide) rfl dLW_log_8 (fun H locs hP hD hS => ?_)
    refine lv_goto (tgt := 16) hx hb dLW_log_9 (by decide) ?_
    refine lv_iconst (v := 0) hx hb dLW_log_16 (by decide) ?_
    exact k_iret hx hb hr hlocks hP hK hD hS rfl dLW_log_17 ⟨Nat.le_of_ble_eq_true rfl, Nat.le_of_ble_eq_true rfl⟩

abbrev rm_LW_sum : Room := { frames := 7, cells := 1, slots := 6, locals := 104 }
set_option maxHeartbeats 4000000 in
set_option maxRecDepth 100000 in
theorem k_LW_sum (l : Launch) (dC : Nat → ClassId) (dI : Nat → Nat → Nat) (cI cJ cG cZ : ClassId) (o0 : Nat) (a0 : Nat) (a1 : Nat) (a2 : Nat) (a3 : Nat) (a4 : Nat) (a5 : Nat) (b0 : Nat) (b1 : Nat) (b2 : Nat) (b3 : Nat) (b4 : Nat) (b5 : Nat) (p1 : Nat) (p2 : Nat) (p3 : Nat) (y1 : Nat) (y2 : Nat) (y3 : Nat) (an : Nat → Int64) (sm : Nat → Int64) (xsm : Nat → Int64) (fl : Nat → Int32) (xfl : Nat → Int32) (u0 : Nat) (ou : Nat → Int64) (x : Int32) (y : Int32) (hlt : l.stackTraces = false) : k_M l yLW_sum wsLW_sum rm_LW_sum (dC, dI) vwCl [(cI, .int), (cJ, .long), (cG, .array .long), (cZ, .boolean)] [.ref o0, .int x, .int y, .ref u0] [(o0, .inr (6, [.ref a0, .ref b0])), (a0, .inr (1, [.ref a1, .ref a2, .ref a3, .ref a4, .ref a5])), (a2, .inr (4, [.ref p1, .ref p2, .ref p3])), (p1, .inl (cJ, 12, .inr (.inl an))), (p2, .inl (cJ, 12, .inr (.inl sm))), (p3, .inl (cI, 12, .inl fl)), (b0, .inr (1, [.ref b1, .ref b2, .ref b3, .ref b4, .ref b5])), (b2, .inr (4, [.ref y1, .ref y2, .ref y3])), (y1, .inl (cJ, 12, .inr (.inl an))), (y2, .inl (cJ, 12, .inr (.inl xsm))), (y3, .inl (cI, 12, .inl xfl)), (u0, .inl (cJ, 1, .inr (.inl ou)))] (some (.int (f_smR x y))) [(o0, .inr (6, [.ref a0, .ref b0])), (a0, .inr (1, [.ref a1, .ref a2, .ref a3, .ref a4, .ref a5])), (a2, .inr (4, [.ref p1, .ref p2, .ref p3])), (p1, .inl (cJ, 12, .inr (.inl an))), (p2, .inl (cJ, 12, .inr (.inl sm))), (p3, .inl (cI, 12, .inl fl)), (b0, .inr (1, [.ref b1, .ref b2, .ref b3, .ref b4, .ref b5])), (b2, .inr (4, [.ref y1, .ref y2, .ref y3])), (y1, .inl (cJ, 12, .inr (.inl an))), (y2, .inl (cJ, 12, .inr (.inl xsm))), (y3, .inl (cI, 12, .inl xfl)), (u0, .inl (cJ, 1, .inr (.inl (f_smO sm xsm ou x y))))] := by
  rcases f_sms x y with ⟨e1, h1⟩ | ⟨rfl, k, hk, rfl, e1⟩ | ⟨rfl, k, hk, rfl, e1⟩
  · have e2 : ¬ f_smR x y = 0 := by rw [e1]; decide
    rw [show f_smO sm xsm ou x y = ou from if_neg e2, e1]
    refine k_ofH (cc := cLW_sum) (maxL := 5) (ret := (some .int)) (by decide) rfl (Nat.le_of_ble_eq_true rfl) ?_
    intro p e s m below meth c A ls hx hb hr hlocks hml hown hts hA hP hD hK hF hl hS ht
    have hown : s.vm.findClass RLW = some m.cls := hown
    have hl : lv_has ls 5 [(0, .ref o0), (1, .int x), (2, .int y), (3, .ref u0)] := hl
    refine lv_aload_n hx hb dLW_sum_0 rfl (lv_at hl 3 rfl) ?_
    refine lv_iconst (v := 0) hx hb dLW_sum_1 (by decide) ?_
    refine lv_aload_n hx hb dLW_sum_2 rfl (lv_at hl 0 rfl) ?_
    refine lv_iload_n hx hb dLW_sum_3 rfl (lv_at hl 1 rfl) ?_
    refine lv_iload_n hx hb dLW_sum_4 rfl (lv_at hl 2 rfl) ?_
    refine k_VT (wr := [(a0, .inr (1, [.ref a1, .ref a2, .ref a3, .ref a4, .ref a5])), (a2, .inr (4, [.ref p1, .ref p2, .ref p3])), (p1, .inl (cJ, 12, .inr (.inl an))), (p2, .inl (cJ, 12, .inr (.inl sm))), (p3, .inl (cI, 12, .inl fl)), (b0, .inr (1, [.ref b1, .ref b2, .ref b3, .ref b4, .ref b5])), (b2, .inr (4, [.ref y1, .ref y2, .ref y3])), (y1, .inl (cJ, 12, .inr (.inl an))), (y2, .inl (cJ, 12, .inr (.inl xsm))), (y3, .inl (cI, 12, .inl xfl)), (u0, .inl (cJ, 1, .inr (.inl ou)))]) (W1 := [(o0, .inr (6, [.ref a0, .ref b0])), (a0, .inr (1, [.ref a1, .ref a2, .ref a3, .ref a4, .ref a5])), (a2, .inr (4, [.ref p1, .ref p2, .ref p3])), (p1, .inl (cJ, 12, .inr (.inl an))), (p2, .inl (cJ, 12, .inr (.inl sm))), (p3, .inl (cI, 12, .inl fl)), (b0, .inr (1, [.ref b1, .ref b2, .ref b3, .ref b4, .ref b5])), (b2, .inr (4, [.ref y1, .ref y2, .ref y3])), (y1, .inl (cJ, 12, .inr (.inl an))), (y2, .inl (cJ, 12, .inr (.inl xsm))), (y3, .inl (cI, 12, .inl xfl)), (u0, .inl (cJ, 1, .inr (.inl ou)))]) (rest := [.int 0, .ref u0]) ⟨hx, hb, hml, hown, hts⟩ (k_PD_sum_T l dC dI cI cJ cG cZ o0 a0 b0 x y h1 hlt) (cwV 2 hts (k_gV m_l_LW_34 m_i_PD_sum m_s_PD_sum m_in_PD m_c_PD_sum) rfl rfl rfl (by decide +kernel) ⟨Nat.le_of_ble_eq_true rfl, Nat.le_of_ble_eq_true rfl⟩) hK hF hP hD hS hA [0] [1, 2, 3, 4, 5, 6, 7, 8, 9, 10, 11] [11, 0, 1, 2, 3, 4, 5, 6, 7, 8, 9, 10] rfl rfl (by decide) (by decide) (by decide) rfl (by decide) rfl rfl rfl rfl hl.1 rfl (Nat.le_of_ble_eq_true rfl) dLW_sum_5 ⟨Nat.le_of_ble_eq_true rfl, Nat.le_of_ble_eq_true rfl⟩ (fun q9 ce H locs hP hD hS hce hcv hcl => ?_)
    refine k_catch (own := RLW) hown hts hF [] (⟨0, 9, 12, 13⟩ : ExceptionTableEntry) [] ht (fun _ h => absurd h List.not_mem_nil) (by decide) (by decide) m_cl_LW_13 (by decide) hce hcv hcl ?_
    refine lv_astore (lv' := [(4, .ref q9), (0, .ref o0), (1, .int x), (2, .int y), (3, .ref u0)]) hx hb dLW_sum_12 hl (by decide) rfl (fun ls hl => ?_)
    refine lv_iconst (v := 1) hx hb dLW_sum_14 (by decide) ?_
    exact k_iret hx hb hr hlocks hP hK hD hS rfl dLW_sum_15 ⟨Nat.le_of_ble_eq_true rfl, Nat.le_of_ble_eq_true rfl⟩
  · rw [show f_smO sm xsm ou 0 (nI k) = vp_updL ou 0 (sm k) by unfold f_smO f_smV; rw [if_pos e1, if_pos (by decide), nI_clamp (by omega)], e1]
    refine k_ofH (cc := cLW_sum) (maxL := 5) (ret := (some .int)) (by decide) rfl (Nat.le_of_ble_eq_true rfl) ?_
    intro p e s m below meth c A ls hx hb hr hlocks hml hown hts hA hP hD hK hF hl hS ht
    have hown : s.vm.findClass RLW = some m.cls := hown
    have hl : lv_has ls 5 [(0, .ref o0), (1, .int 0), (2, .int (nI k)), (3, .ref u0)] := hl
    refine lv_aload_n hx hb dLW_sum_0 rfl (lv_at hl 3 rfl) ?_
    refine lv_iconst (v := 0) hx hb dLW_sum_1 (by decide) ?_
    refine lv_aload_n hx hb dLW_sum_2 rfl (lv_at hl 0 rfl) ?_
    refine lv_iload_n hx hb dLW_sum_3 rfl (lv_at hl 1 rfl) ?_
    refine lv_iload_n hx hb dLW_sum_4 rfl (lv_at hl 2 rfl) ?_
    refine k_V (wr := [(b0, .inr (1, [.ref b1, .ref b2, .ref b3, .ref b4, .ref b5])), (b2, .inr (4, [.ref y1, .ref y2, .ref y3])), (y1, .inl (cJ, 12, .inr (.inl an))), (y2, .inl (cJ, 12, .inr (.inl xsm))), (y3, .inl (cI, 12, .inl xfl)), (u0, .inl (cJ, 1, .inr (.inl ou)))]) (W1 := [(o0, .inr (6, [.ref a0, .ref b0])), (a0, .inr (1, [.ref a1, .ref a2, .ref a3, .ref a4, .ref a5])), (a2, .inr (4, [.ref p1, .ref p2, .ref p3])), (p1, .inl (cJ, 12, .inr (.inl an))), (p2, .inl (cJ, 12, .inr (.inl sm))), (p3, .inl (cI, 12, .inl fl)), (b0, .inr (1, [.ref b1, .ref b2, .ref b3, .ref b4, .ref b5])), (b2, .inr (4, [.ref y1, .ref y2, .ref y3])), (y1, .inl (cJ, 12, .inr (.inl an))), (y2, .inl (cJ, 12, .inr (.inl xsm))), (y3, .inl (cI, 12, .inl xfl)), (u0, .inl (cJ, 1, .inr (.inl ou)))]) (st1 := [.long (sm k), .int 0, .ref u0]) ⟨hx, hb, hml, hown, hts⟩ (k_PD_sum_0 l dC dI cI cJ cG cZ o0 b0 a0 a1 a2 a3 a4 a5 p1 p2 p3 an sm fl k hk) (cwV 2 hts (k_gV m_l_LW_34 m_i_PD_sum m_s_PD_sum m_in_PD m_c_PD_sum) rfl rfl rfl (by decide +kernel) ⟨Nat.le_of_ble_eq_true rfl, Nat.le_of_ble_eq_true rfl⟩) hK hF hP hD hS hA [0, 1, 2, 3, 4, 5] [6, 7, 8, 9, 10, 11] [6, 7, 8, 9, 10, 11, 0, 1, 2, 3, 4, 5] rfl rfl (by decide) (by decide) (by decide) rfl (by decide) rfl rfl rfl rfl hl.1 rfl (Nat.le_of_ble_eq_true rfl) dLW_sum_5 ⟨Nat.le_of_ble_eq_true rfl, Nat.le_of_ble_eq_true rfl⟩ rfl (fun H locs hP hD hS => ?_)
    refine k_lst (W1 := [(o0, .inr (6, [.ref a0, .ref b0])), (a0, .inr (1, [.ref a1, .ref a2, .ref a3, .ref a4, .ref a5])), (a2, .inr (4, [.ref p1, .ref p2, .ref p3])), (p1, .inl (cJ, 12, .inr (.inl an))), (p2, .inl (cJ, 12, .inr (.inl sm))), (p3, .inl (cI, 12, .inl fl)), (b0, .inr (1, [.ref b1, .ref b2, .ref b3, .ref b4, .ref b5])), (b2, .inr (4, [.ref y1, .ref y2, .ref y3])), (y1, .inl (cJ, 12, .inr (.inl an))), (y2, .inl (cJ, 12, .inr (.inl xsm))), (y3, .inl (cI, 12, .inl xfl)), (u0, .inl (cJ, 1, .inr (.inl (vp_updL ou 0 (sm k)))))]) hx hb hK hP hD hS 11 1 rfl rfl (j := 0) (by decide) (by decide) (by decide) rfl dLW_sum_8 (fun H locs hP hD hS => ?_)
    refine lv_goto (tgt := 16) hx hb dLW_sum_9 (by decide) ?_
    refine lv_iconst (v := 0) hx hb dLW_sum_16 (by decide) ?_
    exact k_iret hx hb hr hlocks hP hK hD hS rfl dLW_sum_17 ⟨Nat.le_of_ble_eq_true rfl, Nat.le_of_ble_eq_true rfl⟩
  · rw [show f_smO sm xsm ou 1 (nI k) = vp_updL ou 0 (xsm k) by unfold f_smO f_smV; rw [if_pos e1, if_neg (by decide), nI_clamp (by omega)], e1]
    refine k_ofH (cc := cLW_sum) (maxL := 5) (ret := (some .int)) (by decide) rfl (Nat.le_of_ble_eq_true rfl) ?_
    intro p e s m below meth c A ls hx hb hr hlocks hml hown hts hA hP hD hK hF hl hS ht
    have hown : s.vm.findClass RLW = some m.cls := hown
    have hl : lv_has ls 5 [(0, .ref o0), (1, .int 1), (2, .int (nI k)), (3, .ref u0)] := hl
    refine lv_aload_n hx hb dLW_sum_0 rfl (lv_at hl 3 rfl) ?_
    refine lv_iconst (v := 0) hx hb dLW_sum_1 (by decide) ?_
    refine lv_aload_n hx hb dLW_sum_2 rfl (lv_at hl 0 rfl) ?_
    refine lv_iload_n hx hb dLW_sum_3 rfl (lv_at hl 1 rfl) ?_
    refine lv_iload_n hx hb dLW_sum_4 rfl (lv_at hl 2 rfl) ?_
    refine k_V (wr := [(a0, .inr (1, [.ref a1, .ref a2, .ref a3, .ref a4, .ref a5])), (a2, .inr (4, [.ref p1, .ref p2, .ref p3])), (p1, .inl (cJ, 12, .inr (.inl an))), (p2, .inl (cJ, 12, .inr (.inl sm))), (p3, .inl (cI, 12, .inl fl)), (u0, .inl (cJ, 1, .inr (.inl ou)))]) (W1 := [(o0, .inr (6, [.ref a0, .ref b0])), (a0, .inr (1, [.ref a1, .ref a2, .ref a3, .ref a4, .ref a5])), (a2, .inr (4, [.ref p1, .ref p2, .ref p3])), (p1, .inl (cJ, 12, .inr (.inl an))), (p2, .inl (cJ, 12, .inr (.inl sm))), (p3, .inl (cI, 12, .inl fl)), (b0, .inr (1, [.ref b1, .ref b2, .ref b3, .ref b4, .ref b5])), (b2, .inr (4, [.ref y1, .ref y2, .ref y3])), (y1, .inl (cJ, 12, .inr (.inl an))), (y2, .inl (cJ, 12, .inr (.inl xsm))), (y3, .inl (cI, 12, .inl xfl)), (u0, .inl (cJ, 1, .inr (.inl ou)))]) (st1 := [.long (xsm k), .int 0, .ref u0]) ⟨hx, hb, hml, hown, hts⟩ (k_PD_sum_1 l dC dI cI cJ cG cZ o0 a0 b0 b1 b2 b3 b4 b5 y1 y2 y3 an xsm xfl k hk) (cwV 2 hts (k_gV m_l_LW_34 m_i_PD_sum m_s_PD_sum m_in_PD m_c_PD_sum) rfl rfl rfl (by decide +kernel) ⟨Nat.le_of_ble_eq_true rfl, Nat.le_of_ble_eq_true rfl⟩) hK hF hP hD hS hA [0, 6, 7, 8, 9, 10] [1, 2, 3, 4, 5, 11] [6, 0, 1, 2, 3, 4, 7, 8, 9, 10, 11, 5] rfl rfl (by decide) (by decide) (by decide) rfl (by decide) rfl rfl rfl rfl hl.1 rfl (Nat.le_of_ble_eq_true rfl) dLW_sum_5 ⟨Nat.le_of_ble_eq_true rfl, Nat.le_of_ble_eq_true rfl⟩ rfl (fun H locs hP hD hS => ?_)
    refine k_lst (W1 := [(o0, .inr (6, [.ref a0, .ref b0])), (a0, .inr (1, [.ref a1, .ref a2, .ref a3, .ref a4, .ref a5])), (a2, .inr (4, [.ref p1, .ref p2, .ref p3])), (p1, .inl (cJ, 12, .inr (.inl an))), (p2, .inl (cJ, 12, .inr (.inl sm))), (p3, .inl (cI, 12, .inl fl)), (b0, .inr (1, [.ref b1, .ref b2, .ref b3, .ref b4, .ref b5])), (b2, .inr (4, [.ref y1, .ref y2, .ref y3])), (y1, .inl (cJ, 12, .inr (.inl an))), (y2, .inl (cJ, 12, .inr (.inl xsm))), (y3, .inl (cI, 12, .inl xfl)), (u0, .inl (cJ, 1, .inr (.inl (vp_updL ou 0 (xsm k)))))]) hx hb hK hP hD hS 11 1 rfl rfl (j := 0) (by decide) (by decide) (by decide) rfl dLW_sum_8 (fun H locs hP hD hS => ?_)
    refine lv_goto (tgt := 16) hx hb dLW_sum_9 (by decide) ?_
    refine lv_iconst (v := 0) hx hb dLW_sum_16 (by decide) ?_
    exact k_iret hx hb hr hlocks hP hK hD hS rfl dLW_sum_17 ⟨Nat.le_of_ble_eq_true rfl, Nat.le_of_ble_eq_true rfl⟩
