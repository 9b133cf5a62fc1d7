theorem f_self {f : Nat → Int32} {k : Nat} : upd f k (f k) = f := by
  funext i
  unfold upd
  by_cases h : i = k
  · rw [if_pos h, h]
  · rw [if_neg h]
theorem f_cases9 {md fl : Nat → Int32} {kn : Nat → Int64} {x n : Int32} (hg : ∀ k : Nat, k < 12 → fl k = 0 ∨ fl k = 1 ∨ fl k = 2 ∨ fl k = 3 ∨ fl k = 4 ∨ fl k = 5) : f_isPart x = 0 ∨ (∃ k : Nat, k < 12 ∧ x = nI k ∧ f_wasMade md (k % 8) n = 0) ∨ (∃ k : Nat, k < 12 ∧ x = nI k ∧ ¬ f_wasMade md (k % 8) n = 0 ∧ f_isKnown md kn (k % 8) n = 0) ∨ (∃ k : Nat, k < 12 ∧ x = nI k ∧ ¬ f_wasMade md (k % 8) n = 0 ∧ (¬ f_isKnown md kn (k % 8) n = 0 ∧ fl k = 0)) ∨ (∃ k : Nat, k < 12 ∧ x = nI k ∧ ¬ f_wasMade md (k % 8) n = 0 ∧ (¬ f_isKnown md kn (k % 8) n = 0 ∧ fl k = 1)) ∨ (∃ k : Nat, k < 12 ∧ x = nI k ∧ ¬ f_wasMade md (k % 8) n = 0 ∧ (¬ f_isKnown md kn (k % 8) n = 0 ∧ fl k = 2)) ∨ (∃ k : Nat, k < 12 ∧ x = nI k ∧ ¬ f_wasMade md (k % 8) n = 0 ∧ (¬ f_isKnown md kn (k % 8) n = 0 ∧ fl k = 3)) ∨ (∃ k : Nat, k < 12 ∧ x = nI k ∧ ¬ f_wasMade md (k % 8) n = 0 ∧ (¬ f_isKnown md kn (k % 8) n = 0 ∧ fl k = 4)) ∨ (∃ k : Nat, k < 12 ∧ x = nI k ∧ ¬ f_wasMade md (k % 8) n = 0 ∧ (¬ f_isKnown md kn (k % 8) n = 0 ∧ fl k = 5)) := by
  rcases f_cases (md := md) (kn := kn) x n with h | h | h | ⟨k, hk, e, h1, h2⟩
  · exact Or.inl h
  · exact Or.inr (Or.inl h)
  · exact Or.inr (Or.inr (Or.inl h))
  · rcases hg k hk with h | h | h | h | h | h
    · exact Or.inr (Or.inr (Or.inr (Or.inl ⟨k, hk, e, h1, h2, h⟩)))
    · exact Or.inr (Or.inr (Or.inr (Or.inr (Or.inl ⟨k, hk, e, h1, h2, h⟩))))
    · exact Or.inr (Or.inr (Or.inr (Or.inr (Or.inr (Or.inl ⟨k, hk, e, h1, h2, h⟩)))))
    · exact Or.inr (Or.inr (Or.inr (Or.inr (Or.inr (Or.inr (Or.inl ⟨k, hk, e, h1, h2, h⟩))))))
    · exact Or.inr (Or.inr (Or.inr (Or.inr (Or.inr (Or.inr (Or.inr (Or.inl ⟨k, hk, e, h1, h2, h⟩)))))))
    · exact Or.inr (Or.inr (Or.inr (Or.inr (Or.inr (Or.inr (Or.inr (Or.inr ⟨k, hk, e, h1, h2, h⟩)))))))
abbrev rm_MO_goes : Room := { frames := 1, cells := 0, slots := 0, locals := 26 }
set_option maxHeartbeats 4000000 in
set_option maxRecDepth 100000 in
theorem k_MO_goes_0 (l : Launch) (dC : Nat → ClassId) (dI : Nat → Nat → Nat) (cI cJ cG cZ : ClassId) (u0 : Nat) (u1 : Nat) (u2 : Nat) (u3 : Nat) (u4 : Nat) (u5 : Nat) (u6 : Nat) (u7 : Nat) (u8 : Nat) (u9 : Nat) (u10 : Nat) (th : Int32) (md : Nat → Int32) (dr : Nat → Int32) (kn : Nat → Int64) (an : Nat → Int64) (fl : Nat → Int32) (xfl : Nat → Int32) (sm : Nat → Int64) (xsm : Nat → Int64) (tf : Nat → Int64) (xtf : Nat → Int64) (lg : Nat → Int64) (z : Nat) (xz : Nat) (mn : Nat → Nat) (x : Int32) (n : Int32) (v : Int64) (hmn : ∀ k : Nat, k < 8 → md k = nI (mn k) ∧ mn k ≤ 40) (hkd : ∀ k : Nat, k < 8 → ∀ j : Nat, j < mn k → (dr (40 * k + j) = 0 ↔ f_kb (kn k) j = true)) (hg : ∀ k : Nat, k < 12 → fl k = 0 ∨ fl k = 1 ∨ fl k = 2 ∨ fl k = 3 ∨ fl k = 4 ∨ fl k = 5) (hz : z ≤ 64) : k_M l yMO_goes wsMO_goes rm_MO_goes (dC, dI) vwCl [(cI, .int), (cJ, .long), (cG, .array .long), (cZ, .boolean)] [.ref u0, .int 0, .int x, .int n, .long v] [(u0, .inr (7, [.int th, .ref u1, .ref u2, .ref u3, .ref u4, .ref u5, .ref u6, .ref u7, .ref u8, .ref u9, .ref u10])), (u1, .inl (cI, 8, .inl md)), (u2, .inl (cZ, 320, .inl dr)), (u3, .inl (cJ, 12, .inr (.inl an))), (u4, .inl (cI, 24, .inl (f_twoI 12 fl xfl))), (u5, .inl (cJ, 24, .inr (.inl (f_twoL 12 sm xsm)))), (u6, .inl (cI, 2, .inl (f_lo z xz))), (u7, .inl (cJ, 128, .inr (.inl lg))), (u8, .inl (cJ, 16, .inr (.inl (f_twoL 8 tf xtf))))] (some (.long (f_aA md kn an sm fl x n v))) [(u0, .inr (7, [.int th, .ref u1, .ref u2, .ref u3, .ref u4, .ref u5, .ref u6, .ref u7, .ref u8, .ref u9, .ref u10])), (u1, .inl (cI, 8, .inl md)), (u2, .inl (cZ, 320, .inl dr)), (u3, .inl (cJ, 12, .inr (.inl an))), (u4, .inl (cI, 24, .inl (f_twoI 12 (f_aF md kn fl x n) xfl))), (u5, .inl (cJ, 24, .inr (.inl (f_twoL 12 (f_aS md kn sm fl x n v) xsm)))), (u6, .inl (cI, 2, .inl (f_lo (f_js z) xz))), (u7, .inl (cJ, 128, .inr (.inl (f_wr lg z (f_aA md kn an sm fl x n v) 0)))), (u8, .inl (cJ, 16, .inr (.inl (f_twoL 8 (f_aT md kn tf fl x n) xtf))))] := by
  rcases (show f_isPart x = 0 ∨ (∃ k : Nat, k < 12 ∧ x = nI k ∧ f_wasMade md (k % 8) n = 0) ∨ (∃ k : Nat, k < 12 ∧ x = nI k ∧ ¬ f_wasMade md (k % 8) n = 0 ∧ f_isKnown md kn (k % 8) n = 0) ∨ (∃ k : Nat, k < 12 ∧ x = nI k ∧ ¬ f_wasMade md (k % 8) n = 0 ∧ (¬ f_isKnown md kn (k % 8) n = 0 ∧ fl k = 0)) ∨ (∃ k : Nat, k < 12 ∧ x = nI k ∧ ¬ f_wasMade md (k % 8) n = 0 ∧ (¬ f_isKnown md kn (k % 8) n = 0 ∧ fl k = 1)) ∨ (∃ k : Nat, k < 12 ∧ x = nI k ∧ ¬ f_wasMade md (k % 8) n = 0 ∧ (¬ f_isKnown md kn (k % 8) n = 0 ∧ fl k = 2)) ∨ (∃ k : Nat, k < 12 ∧ x = nI k ∧ ¬ f_wasMade md (k % 8) n = 0 ∧ (¬ f_isKnown md kn (k % 8) n = 0 ∧ fl k = 3)) ∨ (∃ k : Nat, k < 12 ∧ x = nI k ∧ ¬ f_wasMade md (k % 8) n = 0 ∧ (¬ f_isKnown md kn (k % 8) n = 0 ∧ fl k = 4)) ∨ (∃ k : Nat, k < 12 ∧ x = nI k ∧ ¬ f_wasMade md (k % 8) n = 0 ∧ (¬ f_isKnown md kn (k % 8) n = 0 ∧ fl k = 5)) from f_cases9 hg) with h0 | ⟨k, hk, rfl, h1⟩ | ⟨k, hk, rfl, h1, h2⟩ | ⟨k, hk, rfl, h1, h2⟩ | ⟨k, hk, rfl, h1, h2⟩ | ⟨k, hk, rfl, h1, h2⟩ | ⟨k, hk, rfl, h1, h2⟩ | ⟨k, hk, rfl, h1, h2⟩ | ⟨k, hk, rfl, h1, h2⟩
  · have e1 : f_cd md kn x n = 1 := if_pos h0
    rw [show f_aS md kn sm fl x n v = sm by unfold f_aS; rw [e1]; rfl, show f_aF md kn fl x n = fl by unfold f_aF; rw [e1]; rfl, show f_aT md kn tf fl x n = vp_updL tf 1 (tf 1 + 1) by unfold f_aT; rw [e1]; rfl, show f_aA md kn an sm fl x n v = -1 by unfold f_aA; rw [e1, if_neg (by decide)]; decide]
    refine k_of (cc := cMO_goes) (maxL := 9) (ret := (some .long)) (by decide) rfl (Nat.le_of_ble_eq_true rfl) ?_
    intro p e s m below meth c A ls hx hb hr hlocks hml hown hts hA hP hD hK hF hl hS
    have hown : s.vm.findClass RMO = some m.cls := hown
    have hl : lv_has ls 9 [(0, .ref u0), (1, .int 0), (2, .int x), (3, .int n), (4, .long v)] := hl
    refine lv_iload_n hx hb dMO_goes_0 rfl (lv_at hl 2 rfl) ?_
    refine k_S (wr := [(u0, .inr (7, [.int th, .ref u1, .ref u2, .ref u3, .ref u4, .ref u5, .ref u6, .ref u7, .ref u8, .ref u9, .ref u10])), (u1, .inl (cI, 8, .inl md)), (u2, .inl (cZ, 320, .inl dr)), (u3, .inl (cJ, 12, .inr (.inl an))), (u4, .inl (cI, 24, .inl (f_twoI 12 fl xfl))), (u5, .inl (cJ, 24, .inr (.inl (f_twoL 12 sm xsm)))), (u6, .inl (cI, 2, .inl (f_lo z xz))), (u7, .inl (cJ, 128, .inr (.inl lg))), (u8, .inl (cJ, 16, .inr (.inl (f_twoL 8 tf xtf))))]) (W1 := [(u0, .inr (7, [.int th, .ref u1, .ref u2, .ref u3, .ref u4, .ref u5, .ref u6, .ref u7, .ref u8, .ref u9, .ref u10])), (u1, .inl (cI, 8, .inl md)), (u2, .inl (cZ, 320, .inl dr)), (u3, .inl (cJ, 12, .inr (.inl an))), (u4, .inl (cI, 24, .inl (f_twoI 12 fl xfl))), (u5, .inl (cJ, 24, .inr (.inl (f_twoL 12 sm xsm)))), (u6, .inl (cI, 2, .inl (f_lo z xz))), (u7, .inl (cJ, 128, .inr (.inl lg))), (u8, .inl (cJ, 16, .inr (.inl (f_twoL 8 tf xtf))))]) (st1 := [.int (f_isPart x)]) ⟨hx, hb, hml, hown, hts⟩ (k_MO_isPart l dC dI cI cJ cG cZ x) (va_cwS 1 hts (k_gS m_l_MO_66 m_st_MO_isPart m_in_MO m_c_MO_isPart) rfl rfl rfl (by decide +kernel) ⟨Nat.le_of_ble_eq_true rfl, Nat.le_of_ble_eq_true rfl⟩) hK hF hP hD hS hA [] [0, 1, 2, 3, 4, 5, 6, 7, 8] [0, 1, 2, 3, 4, 5, 6, 7, 8] rfl rfl (by decide) (by decide) (by decide) rfl (by decide) rfl hl.1 rfl (Nat.le_of_ble_eq_true rfl) dMO_goes_1 ⟨Nat.le_of_ble_eq_true rfl, Nat.le_of_ble_eq_true rfl⟩ rfl (fun H locs hP hD hS => ?_)
    refine lv_if_ne (tgt := 17) hx hb dMO_goes_4 (by decide) (fun c_1 => ?_) (fun c_1 => ?_)
    · exact absurd h0 c_1
    · refine lv_aload_n hx hb dMO_goes_7 rfl (lv_at hl 0 rfl) ?_
      refine lv_iload_n hx hb dMO_goes_8 rfl (lv_at hl 1 rfl) ?_
      refine lv_ldc2 (v := (-1)) hx hb hown (hts _ m_k_MO_42) dMO_goes_9 ?_
      refine lv_iconst (v := 1) hx hb dMO_goes_12 (by decide) ?_
      refine k_V (wr := [(u1, .inl (cI, 8, .inl md)), (u2, .inl (cZ, 320, .inl dr)), (u3, .inl (cJ, 12, .inr (.inl an))), (u4, .inl (cI, 24, .inl (f_twoI 12 fl xfl))), (u5, .inl (cJ, 24, .inr (.inl (f_twoL 12 sm xsm))))]) (W1 := [(u0, .inr (7, [.int th, .ref u1, .ref u2, .ref u3, .ref u4, .ref u5, .ref u6, .ref u7, .ref u8, .ref u9, .ref u10])), (u1, .inl (cI, 8, .inl md)), (u2, .inl (cZ, 320, .inl dr)), (u3, .inl (cJ, 12, .inr (.inl an))), (u4, .inl (cI, 24, .inl (f_twoI 12 fl xfl))), (u5, .inl (cJ, 24, .inr (.inl (f_twoL 12 sm xsm)))), (u6, .inl (cI, 2, .inl (f_lo (f_js z) xz))), (u7, .inl (cJ, 128, .inr (.inl (f_wr lg z (-1) 0)))), (u8, .inl (cJ, 16, .inr (.inl (f_twoL 8 (vp_updL tf 1 (tf 1 + 1)) xtf))))]) (st1 := [.long (-1)]) ⟨hx, hb, hml, hown, hts⟩ (k_MO_writes_0 l dC dI cI cJ cG cZ u0 u1 u2 u3 u4 u5 u6 u7 u8 u9 u10 th lg tf xtf z xz 1 (-1) hz (by decide)) (cwV 3 hts (k_gV m_l_MO_83 m_i_MO_writes m_s_MO_writes m_in_MO m_c_MO_writes) rfl rfl rfl (by decide +kernel) ⟨Nat.le_of_ble_eq_true rfl, Nat.le_of_ble_eq_true rfl⟩) hK hF hP hD hS hA [0, 6, 7, 8] [1, 2, 3, 4, 5] [5, 0, 1, 2, 3, 4, 6, 7, 8] rfl rfl (by decide) (by decide) (by decide) rfl (by decide) rfl rfl rfl rfl hl.1 rfl (Nat.le_of_ble_eq_true rfl) dMO_goes_13 ⟨Nat.le_of_ble_eq_true rfl, Nat.le_of_ble_eq_true rfl⟩ rfl (fun H locs hP hD hS => ?_)
      exact k_lret hx hb hr hlocks hP hK hD hS rfl dMO_goes_16 ⟨Nat.le_of_ble_eq_true rfl, Nat.le_of_ble_eq_true rfl⟩
  · have e1 : f_cd md kn (nI k) n = 2 := by unfold f_cd; rw [if_neg (by rw [f_isPart_nI hk]; decide), nI_clamp (by omega), if_pos h1]
    rw [show f_aS md kn sm fl (nI k) n v = sm by unfold f_aS; rw [e1]; rfl, show f_aF md kn fl (nI k) n = fl by unfold f_aF; rw [e1]; rfl, show f_aT md kn tf fl (nI k) n = vp_updL tf 2 (tf 2 + 1) by unfold f_aT; rw [e1]; rfl, show f_aA md kn an sm fl (nI k) n v = -2 by unfold f_aA; rw [e1, if_neg (by decide)]; decide]
    refine k_of (cc := cMO_goes) (maxL := 9) (ret := (some .long)) (by decide) rfl (Nat.le_of_ble_eq_true rfl) ?_
    intro p e s m below meth c A ls hx hb hr hlocks hml hown hts hA hP hD hK hF hl hS
    have hown : s.vm.findClass RMO = some m.cls := hown
    have hl : lv_has ls 9 [(0, .ref u0), (1, .int 0), (2, .int (nI k)), (3, .int n), (4, .long v)] := hl
    refine lv_iload_n hx hb dMO_goes_0 rfl (lv_at hl 2 rfl) ?_
    refine k_S (wr := [(u0, .inr (7, [.int th, .ref u1, .ref u2, .ref u3, .ref u4, .ref u5, .ref u6, .ref u7, .ref u8, .ref u9, .ref u10])), (u1, .inl (cI, 8, .inl md)), (u2, .inl (cZ, 320, .inl dr)), (u3, .inl (cJ, 12, .inr (.inl an))), (u4, .inl (cI, 24, .inl (f_twoI 12 fl xfl))), (u5, .inl (cJ, 24, .inr (.inl (f_twoL 12 sm xsm)))), (u6, .inl (cI, 2, .inl (f_lo z xz))), (u7, .inl (cJ, 128, .inr (.inl lg))), (u8, .inl (cJ, 16, .inr (.inl (f_twoL 8 tf xtf))))]) (W1 := [(u0, .inr (7, [.int th, .ref u1, .ref u2, .ref u3, .ref u4, .ref u5, .ref u6, .ref u7, .ref u8, .ref u9, .ref u10])), (u1, .inl (cI, 8, .inl md)), (u2, .inl (cZ, 320, .inl dr)), (u3, .inl (cJ, 12, .inr (.inl an))), (u4, .inl (cI, 24, .inl (f_twoI 12 fl xfl))), (u5, .inl (cJ, 24, .inr (.inl (f_twoL 12 sm xsm)))), (u6, .inl (cI, 2, .inl (f_lo z xz))), (u7, .inl (cJ, 128, .inr (.inl lg))), (u8, .inl (cJ, 16, .inr (.inl (f_twoL 8 tf xtf))))]) (st1 := [.int (f_isPart (nI k))]) ⟨hx, hb, hml, hown, hts⟩ (k_MO_isPart l dC dI cI cJ cG cZ (nI k)) (va_cwS 1 hts (k_gS m_l_MO_66 m_st_MO_isPart m_in_MO m_c_MO_isPart) rfl rfl rfl (by decide +kernel) ⟨Nat.le_of_ble_eq_true rfl, Nat.le_of_ble_eq_true rfl⟩) hK hF hP hD hS hA [] [0, 1, 2, 3, 4, 5, 6, 7, 8] [0, 1, 2, 3, 4, 5, 6, 7, 8] rfl rfl (by decide) (by decide) (by decide) rfl (by decide) rfl hl.1 rfl (Nat.le_of_ble_eq_true rfl) dMO_goes_1 ⟨Nat.le_of_ble_eq_true rfl, Nat.le_of_ble_eq_true rfl⟩ rfl (fun H locs hP hD hS => ?_)
    refine lv_if_ne (tgt := 17) hx hb dMO_goes_4 (by decide) (fun c_1 => ?_) (fun c_1 => ?_)
    · refine lv_iload_n hx hb dMO_goes_17 rfl (lv_at hl 2 rfl) ?_
      refine lv_bipush (v := 8) hx hb dMO_goes_18 (by decide) ?_
      refine lv_irem hx hb dMO_goes_20 (by decide) ?_
      refine k_topi (y := nI (k % 8)) (pk_rem (a := k) (d := 8) (by omega) (by decide) (by decide)) ?_
      refine lv_istore (lv' := [(6, .int (nI (k % 8))), (0, .ref u0), (1, .int 0), (2, .int (nI k)), (3, .int n), (4, .long v)]) hx hb dMO_goes_21 hl (by decide) rfl (fun ls hl => ?_)
      refine lv_aload_n hx hb dMO_goes_23 rfl (lv_at hl 1 rfl) ?_
      refine lv_iload hx hb dMO_goes_24 (lv_at hl 0 rfl) ?_
      refine lv_iload_n hx hb dMO_goes_26 rfl (lv_at hl 4 rfl) ?_
      refine k_V (wr := [(u3, .inl (cJ, 12, .inr (.inl an))), (u4, .inl (cI, 24, .inl (f_twoI 12 fl xfl))), (u5, .inl (cJ, 24, .inr (.inl (f_twoL 12 sm xsm)))), (u6, .inl (cI, 2, .inl (f_lo z xz))), (u7, .inl (cJ, 128, .inr (.inl lg))), (u8, .inl (cJ, 16, .inr (.inl (f_twoL 8 tf xtf))))]) (W1 := [(u0, .inr (7, [.int th, .ref u1, .ref u2, .ref u3, .ref u4, .ref u5, .ref u6, .ref u7, .ref u8, .ref u9, .ref u10])), (u1, .inl (cI, 8, .inl md)), (u2, .inl (cZ, 320, .inl dr)), (u3, .inl (cJ, 12, .inr (.inl an))), (u4, .inl (cI, 24, .inl (f_twoI 12 fl xfl))), (u5, .inl (cJ, 24, .inr (.inl (f_twoL 12 sm xsm)))), (u6, .inl (cI, 2, .inl (f_lo z xz))), (u7, .inl (cJ, 128, .inr (.inl lg))), (u8, .inl (cJ, 16, .inr (.inl (f_twoL 8 tf xtf))))]) (st1 := [.int (f_isKnown md kn (k % 8) n)]) ⟨hx, hb, hml, hown, hts⟩ (k_MO_isKnown l dC dI cI cJ cG cZ u0 u1 u2 u3 u4 u5 u6 u7 u8 u9 u10 th md dr kn mn (k % 8) n hmn hkd (Nat.mod_lt _ (by decide))) (cwV 2 hts (k_gV m_l_MO_79 m_i_MO_isKnown m_s_MO_isKnown m_in_MO m_c_MO_isKnown) rfl rfl rfl (by decide +kernel) ⟨Nat.le_of_ble_eq_true rfl, Nat.le_of_ble_eq_true rfl⟩) hK hF hP hD hS hA [0, 1, 2] [3, 4, 5, 6, 7, 8] [6, 7, 8, 0, 1, 2, 3, 4, 5] rfl rfl (by decide) (by decide) (by decide) rfl (by decide) rfl rfl rfl rfl hl.1 rfl (Nat.le_of_ble_eq_true rfl) dMO_goes_27 ⟨Nat.le_of_ble_eq_true rfl, Nat.le_of_ble_eq_true rfl⟩ rfl (fun H locs hP hD hS => ?_)
      refine lv_if_ne (tgt := 71) hx hb dMO_goes_30 (by decide) (fun c_2 => ?_) (fun c_2 => ?_)
      · exact absurd (f_kn0 h1) c_2
      · refine lv_iload_n hx hb dMO_goes_33 rfl (lv_at hl 4 rfl) ?_
        refine lv_iconst (v := 1) hx hb dMO_goes_34 (by decide) ?_
        refine lv_icmp_lt (tgt := 49) hx hb dMO_goes_35 (by decide) (fun c_3 => ?_) (fun c_3 => ?_)
        · refine lv_aload_n hx hb dMO_goes_49 rfl (lv_at hl 1 rfl) ?_
          refine lv_iload_n hx hb dMO_goes_50 rfl (lv_at hl 2 rfl) ?_
          refine lv_ldc2 (v := (-2)) hx hb hown (hts _ m_k_MO_87) dMO_goes_51 ?_
          refine lv_iconst (v := 2) hx hb dMO_goes_54 (by decide) ?_
          refine k_V (wr := [(u1, .inl (cI, 8, .inl md)), (u2, .inl (cZ, 320, .inl dr)), (u3, .inl (cJ, 12, .inr (.inl an))), (u4, .inl (cI, 24, .inl (f_twoI 12 fl xfl))), (u5, .inl (cJ, 24, .inr (.inl (f_twoL 12 sm xsm))))]) (W1 := [(u0, .inr (7, [.int th, .ref u1, .ref u2, .ref u3, .ref u4, .ref u5, .ref u6, .ref u7, .ref u8, .ref u9, .ref u10])), (u1, .inl (cI, 8, .inl md)), (u2, .inl (cZ, 320, .inl dr)), (u3, .inl (cJ, 12, .inr (.inl an))), (u4, .inl (cI, 24, .inl (f_twoI 12 fl xfl))), (u5, .inl (cJ, 24, .inr (.inl (f_twoL 12 sm xsm)))), (u6, .inl (cI, 2, .inl (f_lo (f_js z) xz))), (u7, .inl (cJ, 128, .inr (.inl (f_wr lg z (-2) 0)))), (u8, .inl (cJ, 16, .inr (.inl (f_twoL 8 (vp_updL tf 2 (tf 2 + 1)) xtf))))]) (st1 := [.long (-2)]) ⟨hx, hb, hml, hown, hts⟩ (k_MO_writes_0 l dC dI cI cJ cG cZ u0 u1 u2 u3 u4 u5 u6 u7 u8 u9 u10 th lg tf xtf z xz 2 (-2) hz (by decide)) (cwV 3 hts (k_gV m_l_MO_83 m_i_MO_writes m_s_MO_writes m_in_MO m_c_MO_writes) rfl rfl rfl (by decide +kernel) ⟨Nat.le_of_ble_eq_true rfl, Nat.le_of_ble_eq_true rfl⟩) hK hF hP hD hS hA [0, 6, 7, 8] [1, 2, 3, 4, 5] [5, 0, 1, 2, 3, 4, 6, 7, 8] rfl rfl (by decide) (by decide) (by decide) rfl (by decide) rfl rfl rfl rfl hl.1 rfl (Nat.le_of_ble_eq_true rfl) dMO_goes_55 ⟨Nat.le_of_ble_eq_true rfl, Nat.le_of_ble_eq_true rfl⟩ rfl (fun H locs hP hD hS => ?_)
          refine lv_goto (tgt := 70) hx hb dMO_goes_58 (by decide) ?_
          exact k_lret hx hb hr hlocks hP hK hD hS rfl dMO_goes_70 ⟨Nat.le_of_ble_eq_true rfl, Nat.le_of_ble_eq_true rfl⟩
        · refine lv_iload_n hx hb dMO_goes_38 rfl (lv_at hl 4 rfl) ?_
          refine lv_aload_n hx hb dMO_goes_39 rfl (lv_at hl 1 rfl) ?_
          refine va_get (D := (dC, dI)) (ci := 7) (v := .ref u1) (C := RMO) (T := TMO) (N := 11) hx hb hts inMO hown hK hP 0 rfl rfl 1 (by decide) (hts _ m_f_MO_7) (fun _ h9 => h9) rfl dMO_goes_40 ?_
          refine lv_iload hx hb dMO_goes_43 (lv_at hl 0 rfl) ?_
          refine k_ild (v := md (k % 8)) hx hb hK hP 1 0 rfl rfl (j := (k % 8)) rfl (Nat.mod_lt _ (by decide)) (by decide) rfl dMO_goes_45 ?_
          refine lv_icmp_le (tgt := 61) hx hb dMO_goes_46 (by decide) (fun c_4 => ?_) (fun c_4 => ?_)
          · exact absurd h1 (f_wm c_3 c_4)
          · refine lv_aload_n hx hb dMO_goes_49 rfl (lv_at hl 1 rfl) ?_
            refine lv_iload_n hx hb dMO_goes_50 rfl (lv_at hl 2 rfl) ?_
            refine lv_ldc2 (v := (-2)) hx hb hown (hts _ m_k_MO_87) dMO_goes_51 ?_
            refine lv_iconst (v := 2) hx hb dMO_goes_54 (by decide) ?_
            refine k_V (wr := [(u1, .inl (cI, 8, .inl md)), (u2, .inl (cZ, 320, .inl dr)), (u3, .inl (cJ, 12, .inr (.inl an))), (u4, .inl (cI, 24, .inl (f_twoI 12 fl xfl))), (u5, .inl (cJ, 24, .inr (.inl (f_twoL 12 sm xsm))))]) (W1 := [(u0, .inr (7, [.int th, .ref u1, .ref u2, .ref u3, .ref u4, .ref u5, .ref u6, .ref u7, .ref u8, .ref u9, .ref u10])), (u1, .inl (cI, 8, .inl md)), (u2, .inl (cZ, 320, .inl dr)), (u3, .inl (cJ, 12, .inr (.inl an))), (u4, .inl (cI, 24, .inl (f_twoI 12 fl xfl))), (u5, .inl (cJ, 24, .inr (.inl (f_twoL 12 sm xsm)))), (u6, .inl (cI, 2, .inl (f_lo (f_js z) xz))), (u7, .inl (cJ, 128, .inr (.inl (f_wr lg z (-2) 0)))), (u8, .inl (cJ, 16, .inr (.inl (f_twoL 8 (vp_updL tf 2 (tf 2 + 1)) xtf))))]) (st1 := [.long (-2)]) ⟨hx, hb, hml, hown, hts⟩ (k_MO_writes_0 l dC dI cI cJ cG cZ u0 u1 u2 u3 u4 u5 u6 u7 u8 u9 u10 th lg tf xtf z xz 2 (-2) hz (by decide)) (cwV 3 hts (k_gV m_l_MO_83 m_i_MO_writes m_s_MO_writes m_in_MO m_c_MO_writes) rfl rfl rfl (by decide +kernel) ⟨Nat.le_of_ble_eq_true rfl, Nat.le_of_ble_eq_true rfl⟩) hK hF hP hD hS hA [0, 6, 7, 8] [1, 2, 3, 4, 5] [5, 0, 1, 2, 3, 4, 6, 7, 8] rfl rfl (by decide) (by decide) (by decide) rfl (by decide) rfl rfl rfl rfl hl.1 rfl (Nat.le_of_ble_eq_true rfl) dMO_goes_55 ⟨Nat.le_of_ble_eq_true rfl, Nat.le_of_ble_eq_true rfl⟩ rfl (fun H locs hP hD hS => ?_)
            refine lv_goto (tgt := 70) hx hb dMO_goes_58 (by decide) ?_
            exact k_lret hx hb hr hlocks hP hK hD hS rfl dMO_goes_70 ⟨Nat.le_of_ble_eq_true rfl, Nat.le_of_ble_eq_true rfl⟩
    · exact absurd c_1 (by rw [f_isPart_nI hk]; decide)
  · have e1 : f_cd md kn (nI k) n = 3 := by unfold f_cd; rw [if_neg (by rw [f_isPart_nI hk]; decide), nI_clamp (by omega), if_neg h1, if_pos h2]
    rw [show f_aS md kn sm fl (nI k) n v = sm by unfold f_aS; rw [e1]; rfl, show f_aF md kn fl (nI k) n = fl by unfold f_aF; rw [e1]; rfl, show f_aT md kn tf fl (nI k) n = vp_updL tf 3 (tf 3 + 1) by unfold f_aT; rw [e1]; rfl, show f_aA md kn an sm fl (nI k) n v = -3 by unfold f_aA; rw [e1, if_neg (by decide)]; decide]
    refine k_of (cc := cMO_goes) (maxL := 9) (ret := (some .long)) (by decide) rfl (Nat.le_of_ble_eq_true rfl) ?_
    intro p e s m below meth c A ls hx hb hr hlocks hml hown hts hA hP hD hK hF hl hS
    have hown : s.vm.findClass RMO = some m.cls := hown
    have hl : lv_has ls 9 [(0, .ref u0), (1, .int 0), (2, .int (nI k)), (3, .int n), (4, .long v)] := hl
    refine lv_iload_n hx hb dMO_goes_0 rfl (lv_at hl 2 rfl) ?_
    refine k_S (wr := [(u0, .inr (7, [.int th, .ref u1, .ref u2, .ref u3, .ref u4, .ref u5, .ref u6, .ref u7, .ref u8, .ref u9, .ref u10])), (u1, .inl (cI, 8, .inl md)), (u2, .inl (cZ, 320, .inl dr)), (u3, .inl (cJ, 12, .inr (.inl an))), (u4, .inl (cI, 24, .inl (f_twoI 12 fl xfl))), (u5, .inl (cJ, 24, .inr (.inl (f_twoL 12 sm xsm)))), (u6, .inl (cI, 2, .inl (f_lo z xz))), (u7, .inl (cJ, 128, .inr (.inl lg))), (u8, .inl (cJ, 16, .inr (.inl (f_twoL 8 tf xtf))))]) (W1 := [(u0, .inr (7, [.int th, .ref u1, .ref u2, .ref u3, .ref u4, .ref u5, .ref u6, .ref u7, .ref u8, .ref u9, .ref u10])), (u1, .inl (cI, 8, .inl md)), (u2, .inl (cZ, 320, .inl dr)), (u3, .inl (cJ, 12, .inr (.inl an))), (u4, .inl (cI, 24, .inl (f_twoI 12 fl xfl))), (u5, .inl (cJ, 24, .inr (.inl (f_twoL 12 sm xsm)))), (u6, .inl (cI, 2, .inl (f_lo z xz))), (u7, .inl (cJ, 128, .inr (.inl lg))), (u8, .inl (cJ, 16, .inr (.inl (f_twoL 8 tf xtf))))]) (st1 := [.int (f_isPart (nI k))]) ⟨hx, hb, hml, hown, hts⟩ (k_MO_isPart l dC dI cI cJ cG cZ (nI k)) (va_cwS 1 hts (k_gS m_l_MO_66 m_st_MO_isPart m_in_MO m_c_MO_isPart) rfl rfl rfl (by decide +kernel) ⟨Nat.le_of_ble_eq_true rfl, Nat.le_of_ble_eq_true rfl⟩) hK hF hP hD hS hA [] [0, 1, 2, 3, 4, 5, 6, 7, 8] [0, 1, 2, 3, 4, 5, 6, 7, 8] rfl rfl (by decide) (by decide) (by decide) rfl (by decide) rfl hl.1 rfl (Nat.le_of_ble_eq_true rfl) dMO_goes_1 ⟨Nat.le_of_ble_eq_true rfl, Nat.le_of_ble_eq_true rfl⟩ rfl (fun H locs hP hD hS => ?_)
    refine lv_if_ne (tgt := 17) hx hb dMO_goes_4 (by decide) (fun c_1 => ?_) (fun c_1 => ?_)
    · refine lv_iload_n hx hb dMO_goes_17 rfl (lv_at hl 2 rfl) ?_
      refine lv_bipush (v := 8) hx hb dMO_goes_18 (by decide) ?_
      refine lv_irem hx hb dMO_goes_20 (by decide) ?_
      refine k_topi (y := nI (k % 8)) (pk_rem (a := k) (d := 8) (by omega) (by decide) (by decide)) ?_
      refine lv_istore (lv' := [(6, .int (nI (k % 8))), (0, .ref u0), (1, .int 0), (2, .int (nI k)), (3, .int n), (4, .long v)]) hx hb dMO_goes_21 hl (by decide) rfl (fun ls hl => ?_)
      refine lv_aload_n hx hb dMO_goes_23 rfl (lv_at hl 1 rfl) ?_
      refine lv_iload hx hb dMO_goes_24 (lv_at hl 0 rfl) ?_
      refine lv_iload_n hx hb dMO_goes_26 rfl (lv_at hl 4 rfl) ?_
      refine k_V (wr := [(u3, .inl (cJ, 12, .inr (.inl an))), (u4, .inl (cI, 24, .inl (f_twoI 12 fl xfl))), (u5, .inl (cJ, 24, .inr (.inl (f_twoL 12 sm xsm)))), (u6, .inl (cI, 2, .inl (f_lo z xz))), (u7, .inl (cJ, 128, .inr (.inl lg))), (u8, .inl (cJ, 16, .inr (.inl (f_twoL 8 tf xtf))))]) (W1 := [(u0, .inr (7, [.int th, .ref u1, .ref u2, .ref u3, .ref u4, .ref u5, .ref u6, .ref u7, .ref u8, .ref u9, .ref u10])), (u1, .inl (cI, 8, .inl md)), (u2, .inl (cZ, 320, .inl dr)), (u3, .inl (cJ, 12, .inr (.inl an))), (u4, .inl (cI, 24, .inl (f_twoI 12 fl xfl))), (u5, .inl (cJ, 24, .inr (.inl (f_twoL 12 sm xsm)))), (u6, .inl (cI, 2, .inl (f_lo z xz))), (u7, .inl (cJ, 128, .inr (.inl lg))), (u8, .inl (cJ, 16, .inr (.inl (f_twoL 8 tf xtf))))]) (st1 := [.int (f_isKnown md kn (k % 8) n)]) ⟨hx, hb, hml, hown, hts⟩ (k_MO_isKnown l dC dI cI cJ cG cZ u0 u1 u2 u3 u4 u5 u6 u7 u8 u9 u10 th md dr kn mn (k % 8) n hmn hkd (Nat.mod_lt _ (by decide))) (cwV 2 hts (k_gV m_l_MO_79 m_i_MO_isKnown m_s_MO_isKnown m_in_MO m_c_MO_isKnown) rfl rfl rfl (by decide +kernel) ⟨Nat.le_of_ble_eq_true rfl, Nat.le_of_ble_eq_true rfl⟩) hK hF hP hD hS hA [0, 1, 2] [3, 4, 5, 6, 7, 8] [6, 7, 8, 0, 1, 2, 3, 4, 5] rfl rfl (by decide) (by decide) (by decide) rfl (by decide) rfl rfl rfl rfl hl.1 rfl (Nat.le_of_ble_eq_true rfl) dMO_goes_27 ⟨Nat.le_of_ble_eq_true rfl, Nat.le_of_ble_eq_true rfl⟩ rfl (fun H locs hP hD hS => ?_)
      refine lv_if_ne (tgt := 71) hx hb dMO_goes_30 (by decide) (fun c_2 => ?_) (fun c_2 => ?_)
      · exact absurd h2 c_2
      · refine lv_iload_n hx hb dMO_goes_33 rfl (lv_at hl 4 rfl) ?_
        refine lv_iconst (v := 1) hx hb dMO_goes_34 (by decide) ?_
        refine lv_icmp_lt (tgt := 49) hx hb dMO_goes_35 (by decide) (fun c_3 => ?_) (fun c_3 => ?_)
        · exact absurd c_3 (f_wm1 h1).1
        · refine lv_iload_n hx hb dMO_goes_38 rfl (lv_at hl 4 rfl) ?_
          refine lv_aload_n hx hb dMO_goes_39 rfl (lv_at hl 1 rfl) ?_
          refine va_get (D := (dC, dI)) (ci := 7) (v := .ref u1) (C := RMO) (T := TMO) (N := 11) hx hb hts inMO hown hK hP 0 rfl rfl 1 (by decide) (hts _ m_f_MO_7) (fun _ h9 => h9) rfl dMO_goes_40 ?_
          refine lv_iload hx hb dMO_goes_43 (lv_at hl 0 rfl) ?_
          refine k_ild (v := md (k % 8)) hx hb hK hP 1 0 rfl rfl (j := (k % 8)) rfl (Nat.mod_lt _ (by decide)) (by decide) rfl dMO_goes_45 ?_
          refine lv_icmp_le (tgt := 61) hx hb dMO_goes_46 (by decide) (fun c_4 => ?_) (fun c_4 => ?_)
          · refine lv_aload_n hx hb dMO_goes_61 rfl (lv_at hl 1 rfl) ?_
            refine lv_iload_n hx hb dMO_goes_62 rfl (lv_at hl 2 rfl) ?_
            refine lv_ldc2 (v := (-3)) hx hb hown (hts _ m_k_MO_89) dMO_goes_63 ?_
            refine lv_iconst (v := 3) hx hb dMO_goes_66 (by decide) ?_
            refine k_V (wr := [(u1, .inl (cI, 8, .inl md)), (u2, .inl (cZ, 320, .inl dr)), (u3, .inl (cJ, 12, .inr (.inl an))), (u4, .inl (cI, 24, .inl (f_twoI 12 fl xfl))), (u5, .inl (cJ, 24, .inr (.inl (f_twoL 12 sm xsm))))]) (W1 := [(u0, .inr (7, [.int th, .ref u1, .ref u2, .ref u3, .ref u4, .ref u5, .ref u6, .ref u7, .ref u8, .ref u9, .ref u10])), (u1, .inl (cI, 8, .inl md)), (u2, .inl (cZ, 320, .inl dr)), (u3, .inl (cJ, 12, .inr (.inl an))), (u4, .inl (cI, 24, .inl (f_twoI 12 fl xfl))), (u5, .inl (cJ, 24, .inr (.inl (f_twoL 12 sm xsm)))), (u6, .inl (cI, 2, .inl (f_lo (f_js z) xz))), (u7, .inl (cJ, 128, .inr (.inl (f_wr lg z (-3) 0)))), (u8, .inl (cJ, 16, .inr (.inl (f_twoL 8 (vp_updL tf 3 (tf 3 + 1)) xtf))))]) (st1 := [.long (-3)]) ⟨hx, hb, hml, hown, hts⟩ (k_MO_writes_0 l dC dI cI cJ cG cZ u0 u1 u2 u3 u4 u5 u6 u7 u8 u9 u10 th lg tf xtf z xz 3 (-3) hz (by decide)) (cwV 3 hts (k_gV m_l_MO_83 m_i_MO_writes m_s_MO_writes m_in_MO m_c_MO_writes) rfl rfl rfl (by decide +kernel) ⟨Nat.le_of_ble_eq_true rfl, Nat.le_of_ble_eq_true rfl⟩) hK hF hP hD hS hA [0, 6, 7, 8] [1, 2, 3, 4, 5] [5, 0, 1, 2, 3, 4, 6, 7, 8] rfl rfl (by decide) (by decide) (by decide) rfl (by decide) rfl rfl rfl rfl hl.1 rfl (Nat.le_of_ble_eq_true rfl) dMO_goes_67 ⟨Nat.le_of_ble_eq_true rfl, Nat.le_of_ble_eq_true rfl⟩ rfl (fun H locs hP hD hS => ?_)
            exact k_lret hx hb hr hlocks hP hK hD hS rfl dMO_goes_70 ⟨Nat.le_of_ble_eq_true rfl, Nat.le_of_ble_eq_true rfl⟩
          · exact absurd (f_wm1 h1).2 c_4
    · exact absurd c_1 (by rw [f_isPart_nI hk]; decide)
  · obtain ⟨h2, hf⟩ := h2
    have e1 : f_cd md kn (nI k) n = 0 := by unfold f_cd; rw [if_neg (by rw [f_isPart_nI hk]; decide), nI_clamp (by omega), if_neg h1, if_neg h2]
    rw [show f_aS md kn sm fl (nI k) n v = vp_updL sm k (sm k + v) by unfold f_aS f_apS; rw [if_pos e1, nI_clamp (by omega), if_pos hf], show f_aF md kn fl (nI k) n = upd fl k 0 by unfold f_aF; rw [if_pos e1, nI_clamp (by omega)], show f_aT md kn tf fl (nI k) n = vp_updL tf 0 (tf 0 + 1) by unfold f_aT f_apT; rw [if_pos e1, nI_clamp (by omega), if_pos hf], show f_aA md kn an sm fl (nI k) n v = an k + 3 * n.toInt64 + (sm k + v) by unfold f_aA f_apA; rw [if_pos e1, nI_clamp (by omega), if_pos hf]]
    rw [show upd fl k 0 = fl by rw [← hf]; exact f_self]
    rw [show f_twoL 12 (vp_updL sm k (sm k + v)) xsm = vp_updL (f_twoL 12 sm xsm) (k) (f_twoL 12 sm xsm (k) + v) by rw [f_uL0 hk, f_tL0 hk]]
    refine k_of (cc := cMO_goes) (maxL := 9) (ret := (some .long)) (by decide) rfl (Nat.le_of_ble_eq_true rfl) ?_
    intro p e s m below meth c A ls hx hb hr hlocks hml hown hts hA hP hD hK hF hl hS
    have hown : s.vm.findClass RMO = some m.cls := hown
    have hl : lv_has ls 9 [(0, .ref u0), (1, .int 0), (2, .int (nI k)), (3, .int n), (4, .long v)] := hl
    refine lv_iload_n hx hb dMO_goes_0 rfl (lv_at hl 2 rfl) ?_
    refine k_S (wr := [(u0, .inr (7, [.int th, .ref u1, .ref u2, .ref u3, .ref u4, .ref u5, .ref u6, .ref u7, .ref u8, .ref u9, .ref u10])), (u1, .inl (cI, 8, .inl md)), (u2, .inl (cZ, 320, .inl dr)), (u3, .inl (cJ, 12, .inr (.inl an))), (u4, .inl (cI, 24, .inl (f_twoI 12 fl xfl))), (u5, .inl (cJ, 24, .inr (.inl (f_twoL 12 sm xsm)))), (u6, .inl (cI, 2, .inl (f_lo z xz))), (u7, .inl (cJ, 128, .inr (.inl lg))), (u8, .inl (cJ, 16, .inr (.inl (f_twoL 8 tf xtf))))]) (W1 := [(u0, .inr (7, [.int th, .ref u1, .ref u2, .ref u3, .ref u4, .ref u5, .ref u6, .ref u7, .ref u8, .ref u9, .ref u10])), (u1, .inl (cI, 8, .inl md)), (u2, .inl (cZ, 320, .inl dr)), (u3, .inl (cJ, 12, .inr (.inl an))), (u4, .inl (cI, 24, .inl (f_twoI 12 fl xfl))), (u5, .inl (cJ, 24, .inr (.inl (f_twoL 12 sm xsm)))), (u6, .inl (cI, 2, .inl (f_lo z xz))), (u7, .inl (cJ, 128, .inr (.inl lg))), (u8, .inl (cJ, 16, .inr (.inl (f_twoL 8 tf xtf))))]) (st1 := [.int (f_isPart (nI k))]) ⟨hx, hb, hml, hown, hts⟩ (k_MO_isPart l dC dI cI cJ cG cZ (nI k)) (va_cwS 1 hts (k_gS m_l_MO_66 m_st_MO_isPart m_in_MO m_c_MO_isPart) rfl rfl rfl (by decide +kernel) ⟨Nat.le_of_ble_eq_true rfl, Nat.le_of_ble_eq_true rfl⟩) hK hF hP hD hS hA [] [0, 1, 2, 3, 4, 5, 6, 7, 8] [0, 1, 2, 3, 4, 5, 6, 7, 8] rfl rfl (by decide) (by decide) (by decide) rfl (by decide) rfl hl.1 rfl (Nat.le_of_ble_eq_true rfl) dMO_goes_1 ⟨Nat.le_of_ble_eq_true rfl, Nat.le_of_ble_eq_true rfl⟩ rfl (fun H locs hP hD hS => ?_)
    refine lv_if_ne (tgt := 17) hx hb dMO_goes_4 (by decide) (fun c_1 => ?_) (fun c_1 => ?_)
    · refine lv_iload_n hx hb dMO_goes_17 rfl (lv_at hl 2 rfl) ?_
      refine lv_bipush (v := 8) hx hb dMO_goes_18 (by decide) ?_
      refine lv_irem hx hb dMO_goes_20 (by decide) ?_
      refine k_topi (y := nI (k % 8)) (pk_rem (a := k) (d := 8) (by omega) (by decide) (by decide)) ?_
      refine lv_istore (lv' := [(6, .int (nI (k % 8))), (0, .ref u0), (1, .int 0), (2, .int (nI k)), (3, .int n), (4, .long v)]) hx hb dMO_goes_21 hl (by decide) rfl (fun ls hl => ?_)
      refine lv_aload_n hx hb dMO_goes_23 rfl (lv_at hl 1 rfl) ?_
      refine lv_iload hx hb dMO_goes_24 (lv_at hl 0 rfl) ?_
      refine lv_iload_n hx hb dMO_goes_26 rfl (lv_at hl 4 rfl) ?_
      refine k_V (wr := [(u3, .inl (cJ, 12, .inr (.inl an))), (u4, .inl (cI, 24, .inl (f_twoI 12 fl xfl))), (u5, .inl (cJ, 24, .inr (.inl (f_twoL 12 sm xsm)))), (u6, .inl (cI, 2, .inl (f_lo z xz))), (u7, .inl (cJ, 128, .inr (.inl lg))), (u8, .inl (cJ, 16, .inr (.inl (f_twoL 8 tf xtf))))]) (W1 := [(u0, .inr (7, [.int th, .ref u1, .ref u2, .ref u3, .ref u4, .ref u5, .ref u6, .ref u7, .ref u8, .ref u9, .ref u10])), (u1, .inl (cI, 8, .inl md)), (u2, .inl (cZ, 320, .inl dr)), (u3, .inl (cJ, 12, .inr (.inl an))), (u4, .inl (cI, 24, .inl (f_twoI 12 fl xfl))), (u5, .inl (cJ, 24, .inr (.inl (f_twoL 12 sm xsm)))), (u6, .inl (cI, 2, .inl (f_lo z xz))), (u7, .inl (cJ, 128, .inr (.inl lg))), (u8, .inl (cJ, 16, .inr (.inl (f_twoL 8 tf xtf))))]) (st1 := [.int (f_isKnown md kn (k % 8) n)]) ⟨hx, hb, hml, hown, hts⟩ (k_MO_isKnown l dC dI cI cJ cG cZ u0 u1 u2 u3 u4 u5 u6 u7 u8 u9 u10 th md dr kn mn (k % 8) n hmn hkd (Nat.mod_lt _ (by decide))) (cwV 2 hts (k_gV m_l_MO_79 m_i_MO_isKnown m_s_MO_isKnown m_in_MO m_c_MO_isKnown) rfl rfl rfl (by decide +kernel) ⟨Nat.le_of_ble_eq_true rfl, Nat.le_of_ble_eq_true rfl⟩) hK hF hP hD hS hA [0, 1, 2] [3, 4, 5, 6, 7, 8] [6, 7, 8, 0, 1, 2, 3, 4, 5] rfl rfl (by decide) (by decide) (by decide) rfl (by decide) rfl rfl rfl rfl hl.1 rfl (Nat.le_of_ble_eq_true rfl) dMO_goes_27 ⟨Nat.le_of_ble_eq_true rfl, Nat.le_of_ble_eq_true rfl⟩ rfl (fun H locs hP hD hS => ?_)
      refine lv_if_ne (tgt := 71) hx hb dMO_goes_30 (by decide) (fun c_2 => ?_) (fun c_2 => ?_)
      · refine lv_bipush (v := 12) hx hb dMO_goes_71 (by decide) ?_
        refine lv_iload_n hx hb dMO_goes_73 rfl (lv_at hl 2 rfl) ?_
        refine lv_imul hx hb dMO_goes_74 ?_
        refine lv_iload_n hx hb dMO_goes_75 rfl (lv_at hl 3 rfl) ?_
        refine lv_iadd hx hb dMO_goes_76 ?_
        refine k_topi (y := nI k) (f_12a k) ?_
        refine lv_istore (lv' := [(7, .int (nI k)), (6, .int (nI (k % 8))), (0, .ref u0), (1, .int 0), (2, .int (nI k)), (3, .int n), (4, .long v)]) hx hb dMO_goes_77 hl (by decide) rfl (fun ls hl => ?_)
        refine lv_aload_n hx hb dMO_goes_79 rfl (lv_at hl 2 rfl) ?_
        refine va_get (D := (dC, dI)) (ci := 7) (v := .ref u4) (C := RMO) (T := TMO) (N := 11) hx hb hts inMO hown hK hP 0 rfl rfl 4 (by decide) (hts _ m_f_MO_21) (fun _ h9 => h9) rfl dMO_goes_80 ?_
        refine lv_iload hx hb dMO_goes_83 (lv_at hl 0 rfl) ?_
        refine k_ild (v := (f_twoI 12 fl xfl) k) hx hb hK hP 4 0 rfl rfl (j := k) rfl (by omega) (by decide) rfl dMO_goes_85 ?_
        refine k_topi (y := 0) ((f_tI0 hk).trans hf) ?_
        refine lv_istore (lv' := [(8, .int 0), (7, .int (nI k)), (6, .int (nI (k % 8))), (0, .ref u0), (1, .int 0), (2, .int (nI k)), (3, .int n), (4, .long v)]) hx hb dMO_goes_86 hl (by decide) rfl (fun ls hl => ?_)
        refine lv_iload hx hb dMO_goes_88 (lv_at hl 0 rfl) ?_
        refine lv_if_le (tgt := 157) hx hb dMO_goes_90 (by decide) (fun c_3 => ?_) (fun c_3 => ?_)
        · refine lv_aload_n hx hb dMO_goes_157 rfl (lv_at hl 3 rfl) ?_
          refine va_get (D := (dC, dI)) (ci := 7) (v := .ref u5) (C := RMO) (T := TMO) (N := 11) hx hb hts inMO hown hK hP 0 rfl rfl 5 (by decide) (hts _ m_f_MO_24) (fun _ h9 => h9) rfl dMO_goes_158 ?_
          refine lv_iload hx hb dMO_goes_161 (lv_at hl 1 rfl) ?_
          refine lv_dup2_11 hx hb dMO_goes_163 rfl rfl ?_
          refine k_lld (v := (f_twoL 12 sm xsm) k) hx hb hK hP 5 1 rfl rfl (j := k) rfl (by omega) (by decide) rfl dMO_goes_164 ?_
          refine lv_lload hx hb dMO_goes_165 (lv_at hl 7 rfl) ?_
          refine lv_ladd hx hb dMO_goes_167 ?_
          refine k_lst (W1 := [(u0, .inr (7, [.int th, .ref u1, .ref u2, .ref u3, .ref u4, .ref u5, .ref u6, .ref u7, .ref u8, .ref u9, .ref u10])), (u1, .inl (cI, 8, .inl md)), (u2, .inl (cZ, 320, .inl dr)), (u3, .inl (cJ, 12, .inr (.inl an))), (u4, .inl (cI, 24, .inl (f_twoI 12 fl xfl))), (u5, .inl (cJ, 24, .inr (.inl (vp_updL (f_twoL 12 sm xsm) k (((f_twoL 12 sm xsm) k) + v))))), (u6, .inl (cI, 2, .inl (f_lo z xz))), (u7, .inl (cJ, 128, .inr (.inl lg))), (u8, .inl (cJ, 16, .inr (.inl (f_twoL 8 tf xtf))))]) hx hb hK hP hD hS 5 1 rfl rfl (j := k) rfl (by omega) (by decide) rfl dMO_goes_168 (fun H locs hP hD hS => ?_)
          refine lv_aload_n hx hb dMO_goes_169 rfl (lv_at hl 3 rfl) ?_
          refine lv_iload_n hx hb dMO_goes_170 rfl (lv_at hl 4 rfl) ?_
          refine lv_aload_n hx hb dMO_goes_171 rfl (lv_at hl 3 rfl) ?_
          refine va_get (D := (dC, dI)) (ci := 7) (v := .ref u3) (C := RMO) (T := TMO) (N := 11) hx hb hts inMO hown hK hP 0 rfl rfl 3 (by decide) (hts _ m_f_MO_17) (fun _ h9 => h9) rfl dMO_goes_172 ?_
          refine lv_iload_n hx hb dMO_goes_175 rfl (lv_at hl 5 rfl) ?_
          refine k_lld (v := an k) hx hb hK hP 3 1 rfl rfl (j := k) rfl hk (by decide) rfl dMO_goes_176 ?_
          refine lv_ldc2 (v := 3) hx hb hown (hts _ m_k_MO_60) dMO_goes_177 ?_
          refine lv_iload_n hx hb dMO_goes_180 rfl (lv_at hl 6 rfl) ?_
          refine lv_i2l hx hb dMO_goes_181 rfl ?_
          refine lv_lmul hx hb dMO_goes_182 ?_
          refine lv_ladd hx hb dMO_goes_183 ?_
          refine lv_aload_n hx hb dMO_goes_184 rfl (lv_at hl 3 rfl) ?_
          refine va_get (D := (dC, dI)) (ci := 7) (v := .ref u5) (C := RMO) (T := TMO) (N := 11) hx hb hts inMO hown hK hP 0 rfl rfl 5 (by decide) (hts _ m_f_MO_24) (fun _ h9 => h9) rfl dMO_goes_185 ?_
          refine lv_iload hx hb dMO_goes_188 (lv_at hl 1 rfl) ?_
          refine k_lld (v := (((f_twoL 12 sm xsm) k) + v)) hx hb hK hP 5 1 rfl rfl (j := k) rfl (by omega) (by decide) pk_uLs dMO_goes_190 ?_
          refine lv_ladd hx hb dMO_goes_191 ?_
          refine k_topl (y := an k + 3 * n.toInt64 + (sm k + v)) (by rw [f_tL0 hk]) ?_
          refine lv_iconst (v := 0) hx hb dMO_goes_192 (by decide) ?_
          refine k_V (wr := [(u1, .inl (cI, 8, .inl md)), (u2, .inl (cZ, 320, .inl dr)), (u3, .inl (cJ, 12, .inr (.inl an))), (u4, .inl (cI, 24, .inl (f_twoI 12 fl xfl))), (u5, .inl (cJ, 24, .inr (.inl (vp_updL (f_twoL 12 sm xsm) k (((f_twoL 12 sm xsm) k) + v)))))]) (W1 := [(u0, .inr (7, [.int th, .ref u1, .ref u2, .ref u3, .ref u4, .ref u5, .ref u6, .ref u7, .ref u8, .ref u9, .ref u10])), (u1, .inl (cI, 8, .inl md)), (u2, .inl (cZ, 320, .inl dr)), (u3, .inl (cJ, 12, .inr (.inl an))), (u4, .inl (cI, 24, .inl (f_twoI 12 fl xfl))), (u5, .inl (cJ, 24, .inr (.inl (vp_updL (f_twoL 12 sm xsm) k (((f_twoL 12 sm xsm) k) + v))))), (u6, .inl (cI, 2, .inl (f_lo (f_js z) xz))), (u7, .inl (cJ, 128, .inr (.inl (f_wr lg z (an k + 3 * n.toInt64 + (sm k + v)) 0)))), (u8, .inl (cJ, 16, .inr (.inl (f_twoL 8 (vp_updL tf 0 (tf 0 + 1)) xtf))))]) (st1 := [.long (an k + 3 * n.toInt64 + (sm k + v))]) ⟨hx, hb, hml, hown, hts⟩ (k_MO_writes_0 l dC dI cI cJ cG cZ u0 u1 u2 u3 u4 u5 u6 u7 u8 u9 u10 th lg tf xtf z xz 0 (an k + 3 * n.toInt64 + (sm k + v)) hz (by decide)) (cwV 3 hts (k_gV m_l_MO_83 m_i_MO_writes m_s_MO_writes m_in_MO m_c_MO_writes) rfl rfl rfl (by decide +kernel) ⟨Nat.le_of_ble_eq_true rfl, Nat.le_of_ble_eq_true rfl⟩) hK hF hP hD hS hA [0, 6, 7, 8] [1, 2, 3, 4, 5] [5, 0, 1, 2, 3, 4, 6, 7, 8] rfl rfl (by decide) (by decide) (by decide) rfl (by decide) rfl rfl rfl rfl hl.1 rfl (Nat.le_of_ble_eq_true rfl) dMO_goes_193 ⟨Nat.le_of_ble_eq_true rfl, Nat.le_of_ble_eq_true rfl⟩ rfl (fun H locs hP hD hS => ?_)
          exact k_lret hx hb hr hlocks hP hK hD hS rfl dMO_goes_196 ⟨Nat.le_of_ble_eq_true rfl, Nat.le_of_ble_eq_true rfl⟩
        · exact absurd (by decide) c_3
      · exact absurd c_2 h2
    · exact absurd c_1 (by rw [f_isPart_nI hk]; decide)
  · obtain ⟨h2, hf⟩ := h2
    have hn : ¬ fl k = 0 := by rw [hf]; decide
    have e1 : f_cd md kn (nI k) n = 0 := by unfold f_cd; rw [if_neg (by rw [f_isPart_nI hk]; decide), nI_clamp (by omega), if_neg h1, if_neg h2]
    rw [show f_aS md kn sm fl (nI k) n v = sm by unfold f_aS f_apS; rw [if_pos e1, nI_clamp (by omega), if_neg hn], show f_aF md kn fl (nI k) n = upd fl k 0 by unfold f_aF; rw [if_pos e1, nI_clamp (by omega)], show f_aT md kn tf fl (nI k) n = vp_updL (vp_updL (vp_updL (vp_updL tf 5 ((1 : Int32).toInt64)) 6 ((nI k).toInt64)) 7 (n.toInt64)) 4 ((vp_updL (vp_updL (vp_updL tf 5 ((1 : Int32).toInt64)) 6 ((nI k).toInt64)) 7 (n.toInt64)) 4 + 1) by unfold f_aT f_apT; rw [if_pos e1, nI_clamp (by omega), if_neg hn, hf]; exact f_tellT _ _ _ _, show f_aA md kn an sm fl (nI k) n v = (-100 - (1 : Int32)).toInt64 by unfold f_aA f_apA; rw [if_pos e1, nI_clamp (by omega), if_neg hn, hf]]
    rw [show f_twoI 12 (upd fl k 0) xfl = upd (f_twoI 12 fl xfl) (k) 0 from f_uI0 hk]
    refine k_of (cc := cMO_goes) (maxL := 9) (ret := (some .long)) (by decide) rfl (Nat.le_of_ble_eq_true rfl) ?_
    intro p e s m below meth c A ls hx hb hr hlocks hml hown hts hA hP hD hK hF hl hS
    have hown : s.vm.findClass RMO = some m.cls := hown
    have hl : lv_has ls 9 [(0, .ref u0), (1, .int 0), (2, .int (nI k)), (3, .int n), (4, .long v)] := hl
    refine lv_iload_n hx hb dMO_goes_0 rfl (lv_at hl 2 rfl) ?_
    refine k_S (wr := [(u0, .inr (7, [.int th, .ref u1, .ref u2, .ref u3, .ref u4, .ref u5, .ref u6, .ref u7, .ref u8, .ref u9, .ref u10])), (u1, .inl (cI, 8, .inl md)), (u2, .inl (cZ, 320, .inl dr)), (u3, .inl (cJ, 12, .inr (.inl an))), (u4, .inl (cI, 24, .inl (f_twoI 12 fl xfl))), (u5, .inl (cJ, 24, .inr (.inl (f_twoL 12 sm xsm)))), (u6, .inl (cI, 2, .inl (f_lo z xz))), (u7, .inl (cJ, 128, .inr (.inl lg))), (u8, .inl (cJ, 16, .inr (.inl (f_twoL 8 tf xtf))))]) (W1 := [(u0, .inr (7, [.int th, .ref u1, .ref u2, .ref u3, .ref u4, .ref u5, .ref u6, .ref u7, .ref u8, .ref u9, .ref u10])), (u1, .inl (cI, 8, .inl md)), (u2, .inl (cZ, 320, .inl dr)), (u3, .inl (cJ, 12, .inr (.inl an))), (u4, .inl (cI, 24, .inl (f_twoI 12 fl xfl))), (u5, .inl (cJ, 24, .inr (.inl (f_twoL 12 sm xsm)))), (u6, .inl (cI, 2, .inl (f_lo z xz))), (u7, .inl (cJ, 128, .inr (.inl lg))), (u8, .inl (cJ, 16, .inr (.inl (f_twoL 8 tf xtf))))]) (st1 := [.int (f_isPart (nI k))]) ⟨hx, hb, hml, hown, hts⟩ (k_MO_isPart l dC dI cI cJ cG cZ (nI k)) (va_cwS 1 hts (k_gS m_l_MO_66 m_st_MO_isPart m_in_MO m_c_MO_isPart) rfl rfl rfl (by decide +kernel) ⟨Nat.le_of_ble_eq_true rfl, Nat.le_of_ble_eq_true rfl⟩) hK hF hP hD hS hA [] [0, 1, 2, 3, 4, 5, 6, 7, 8] [0, 1, 2, 3, 4, 5, 6, 7, 8] rfl rfl (by decide) (by decide) (by decide) rfl (by decide) rfl hl.1 rfl (Nat.le_of_ble_eq_true rfl) dMO_goes_1 ⟨Nat.le_of_ble_eq_true rfl, Nat.le_of_ble_eq_true rfl⟩ rfl (fun H locs hP hD hS => ?_)
    refine lv_if_ne (tgt := 17) hx hb dMO_goes_4 (by decide) (fun c_1 => ?_) (fun c_1 => ?_)
    · refine lv_iload_n hx hb dMO_goes_17 rfl (lv_at hl 2 rfl) ?_
      refine lv_bipush (v := 8) hx hb dMO_goes_18 (by decide) ?_
      refine lv_irem hx hb dMO_goes_20 (by decide) ?_
      refine k_topi (y := nI (k % 8)) (pk_rem (a := k) (d := 8) (by omega) (by decide) (by decide)) ?_
      refine lv_istore (lv' := [(6, .int (nI (k % 8))), (0, .ref u0), (1, .int 0), (2, .int (nI k)), (3, .int n), (4, .long v)]) hx hb dMO_goes_21 hl (by decide) rfl (fun ls hl => ?_)
      refine lv_aload_n hx hb dMO_goes_23 rfl (lv_at hl 1 rfl) ?_
      refine lv_iload hx hb dMO_goes_24 (lv_at hl 0 rfl) ?_
      refine lv_iload_n hx hb dMO_goes_26 rfl (lv_at hl 4 rfl) ?_
      refine k_V (wr := [(u3, .inl (cJ, 12, .inr (.inl an))), (u4, .inl (cI, 24, .inl (f_twoI 12 fl xfl))), (u5, .inl (cJ, 24, .inr (.inl (f_twoL 12 sm xsm)))), (u6, .inl (cI, 2, .inl (f_lo z xz))), (u7, .inl (cJ, 128, .inr (.inl lg))), (u8, .inl (cJ, 16, .inr (.inl (f_twoL 8 tf xtf))))]) (W1 := [(u0, .inr (7, [.int th, .ref u1, .ref u2, .ref u3, .ref u4, .ref u5, .ref u6, .ref u7, .ref u8, .ref u9, .ref u10])), (u1, .inl (cI, 8, .inl md)), (u2, .inl (cZ, 320, .inl dr)), (u3, .inl (cJ, 12, .inr (.inl an))), (u4, .inl (cI, 24, .inl (f_twoI 12 fl xfl))), (u5, .inl (cJ, 24, .inr (.inl (f_twoL 12 sm xsm)))), (u6, .inl (cI, 2, .inl (f_lo z xz))), (u7, .inl (cJ, 128, .inr (.inl lg))), (u8, .inl (cJ, 16, .inr (.inl (f_twoL 8 tf xtf))))]) (st1 := [.int (f_isKnown md kn (k % 8) n)]) ⟨hx, hb, hml, hown, hts⟩ (k_MO_isKnown l dC dI cI cJ cG cZ u0 u1 u2 u3 u4 u5 u6 u7 u8 u9 u10 th md dr kn mn (k % 8) n hmn hkd (Nat.mod_lt _ (by decide))) (cwV 2 hts (k_gV m_l_MO_79 m_i_MO_isKnown m_s_MO_isKnown m_in_MO m_c_MO_isKnown) rfl rfl rfl (by decide +kernel) ⟨Nat.le_of_ble_eq_true rfl, Nat.le_of_ble_eq_true rfl⟩) hK hF hP hD hS hA [0, 1, 2] [3, 4, 5, 6, 7, 8] [6, 7, 8, 0, 1, 2, 3, 4, 5] rfl rfl (by decide) (by decide) (by decide) rfl (by decide) rfl rfl rfl rfl hl.1 rfl (Nat.le_of_ble_eq_true rfl) dMO_goes_27 ⟨Nat.le_of_ble_eq_true rfl, Nat.le_of_ble_eq_true rfl⟩ rfl (fun H locs hP hD hS => ?_)
      refine lv_if_ne (tgt := 71) hx hb dMO_goes_30 (by decide) (fun c_2 => ?_) (fun c_2 => ?_)
      · refine lv_bipush (v := 12) hx hb dMO_goes_71 (by decide) ?_
        refine lv_iload_n hx hb dMO_goes_73 rfl (lv_at hl 2 rfl) ?_
        refine lv_imul hx hb dMO_goes_74 ?_
        refine lv_iload_n hx hb dMO_goes_75 rfl (lv_at hl 3 rfl) ?_
        refine lv_iadd hx hb dMO_goes_76 ?_
        refine k_topi (y := nI k) (f_12a k) ?_
        refine lv_istore (lv' := [(7, .int (nI k)), (6, .int (nI (k % 8))), (0, .ref u0), (1, .int 0), (2, .int (nI k)), (3, .int n), (4, .long v)]) hx hb dMO_goes_77 hl (by decide) rfl (fun ls hl => ?_)
        refine lv_aload_n hx hb dMO_goes_79 rfl (lv_at hl 2 rfl) ?_
        refine va_get (D := (dC, dI)) (ci := 7) (v := .ref u4) (C := RMO) (T := TMO) (N := 11) hx hb hts inMO hown hK hP 0 rfl rfl 4 (by decide) (hts _ m_f_MO_21) (fun _ h9 => h9) rfl dMO_goes_80 ?_
        refine lv_iload hx hb dMO_goes_83 (lv_at hl 0 rfl) ?_
        refine k_ild (v := (f_twoI 12 fl xfl) k) hx hb hK hP 4 0 rfl rfl (j := k) rfl (by omega) (by decide) rfl dMO_goes_85 ?_
        refine k_topi (y := 1) ((f_tI0 hk).trans hf) ?_
        refine lv_istore (lv' := [(8, .int 1), (7, .int (nI k)), (6, .int (nI (k % 8))), (0, .ref u0), (1, .int 0), (2, .int (nI k)), (3, .int n), (4, .long v)]) hx hb dMO_goes_86 hl (by decide) rfl (fun ls hl => ?_)
        refine lv_iload hx hb dMO_goes_88 (lv_at hl 0 rfl) ?_
        refine lv_if_le (tgt := 157) hx hb dMO_goes_90 (by decide) (fun c_3 => ?_) (fun c_3 => ?_)
        · exact absurd c_3 (by decide)
        · refine lv_aload_n hx hb dMO_goes_93 rfl (lv_at hl 3 rfl) ?_
          refine va_get (D := (dC, dI)) (ci := 7) (v := .ref u4) (C := RMO) (T := TMO) (N := 11) hx hb hts inMO hown hK hP 0 rfl rfl 4 (by decide) (hts _ m_f_MO_21) (fun _ h9 => h9) rfl dMO_goes_94 ?_
          refine lv_iload hx hb dMO_goes_97 (lv_at hl 1 rfl) ?_
          refine lv_iconst (v := 0) hx hb dMO_goes_99 (by decide) ?_
          refine k_ist (W1 := [(u0, .inr (7, [.int th, .ref u1, .ref u2, .ref u3, .ref u4, .ref u5, .ref u6, .ref u7, .ref u8, .ref u9, .ref u10])), (u1, .inl (cI, 8, .inl md)), (u2, .inl (cZ, 320, .inl dr)), (u3, .inl (cJ, 12, .inr (.inl an))), (u4, .inl (cI, 24, .inl (upd (f_twoI 12 fl xfl) k 0))), (u5, .inl (cJ, 24, .inr (.inl (f_twoL 12 sm xsm)))), (u6, .inl (cI, 2, .inl (f_lo z xz))), (u7, .inl (cJ, 128, .inr (.inl lg))), (u8, .inl (cJ, 16, .inr (.inl (f_twoL 8 tf xtf))))]) hx hb hK hP hD hS 4 0 rfl rfl (j := k) rfl (by omega) (by decide) rfl dMO_goes_100 (fun H locs hP hD hS => ?_)
          refine lv_aload_n hx hb dMO_goes_101 rfl (lv_at hl 3 rfl) ?_
          refine va_get (D := (dC, dI)) (ci := 7) (v := .ref u8) (C := RMO) (T := TMO) (N := 11) hx hb hts inMO hown hK hP 0 rfl rfl 8 (by decide) (hts _ m_f_MO_33) (fun _ h9 => h9) rfl dMO_goes_102 ?_
          refine lv_bipush (v := 8) hx hb dMO_goes_105 (by decide) ?_
          refine lv_iload_n hx hb dMO_goes_107 rfl (lv_at hl 4 rfl) ?_
          refine lv_imul hx hb dMO_goes_108 ?_
          refine lv_iconst (v := 5) hx hb dMO_goes_109 (by decide) ?_
          refine lv_iadd hx hb dMO_goes_110 ?_
          refine lv_iload hx hb dMO_goes_111 (lv_at hl 0 rfl) ?_
          refine lv_i2l hx hb dMO_goes_113 rfl ?_
          refine k_lst (W1 := [(u0, .inr (7, [.int th, .ref u1, .ref u2, .ref u3, .ref u4, .ref u5, .ref u6, .ref u7, .ref u8, .ref u9, .ref u10])), (u1, .inl (cI, 8, .inl md)), (u2, .inl (cZ, 320, .inl dr)), (u3, .inl (cJ, 12, .inr (.inl an))), (u4, .inl (cI, 24, .inl (upd (f_twoI 12 fl xfl) k 0))), (u5, .inl (cJ, 24, .inr (.inl (f_twoL 12 sm xsm)))), (u6, .inl (cI, 2, .inl (f_lo z xz))), (u7, .inl (cJ, 128, .inr (.inl lg))), (u8, .inl (cJ, 16, .inr (.inl (vp_updL (f_twoL 8 tf xtf) 5 ((1 : Int32).toInt64)))))]) hx hb hK hP hD hS 8 1 rfl rfl (j := 5) (by decide) (by decide) (by decide) rfl dMO_goes_114 (fun H locs hP hD hS => ?_)
          refine lv_aload_n hx hb dMO_goes_115 rfl (lv_at hl 3 rfl) ?_
          refine va_get (D := (dC, dI)) (ci := 7) (v := .ref u8) (C := RMO) (T := TMO) (N := 11) hx hb hts inMO hown hK hP 0 rfl rfl 8 (by decide) (hts _ m_f_MO_33) (fun _ h9 => h9) rfl dMO_goes_116 ?_
          refine lv_bipush (v := 8) hx hb dMO_goes_119 (by decide) ?_
          refine lv_iload_n hx hb dMO_goes_121 rfl (lv_at hl 4 rfl) ?_
          refine lv_imul hx hb dMO_goes_122 ?_
          refine lv_bipush (v := 6) hx hb dMO_goes_123 (by decide) ?_
          refine lv_iadd hx hb dMO_goes_125 ?_
          refine lv_iload_n hx hb dMO_goes_126 rfl (lv_at hl 5 rfl) ?_
          refine lv_i2l hx hb dMO_goes_127 rfl ?_
          refine k_lst (W1 := [(u0, .inr (7, [.int th, .ref u1, .ref u2, .ref u3, .ref u4, .ref u5, .ref u6, .ref u7, .ref u8, .ref u9, .ref u10])), (u1, .inl (cI, 8, .inl md)), (u2, .inl (cZ, 320, .inl dr)), (u3, .inl (cJ, 12, .inr (.inl an))), (u4, .inl (cI, 24, .inl (upd (f_twoI 12 fl xfl) k 0))), (u5, .inl (cJ, 24, .inr (.inl (f_twoL 12 sm xsm)))), (u6, .inl (cI, 2, .inl (f_lo z xz))), (u7, .inl (cJ, 128, .inr (.inl lg))), (u8, .inl (cJ, 16, .inr (.inl (vp_updL (vp_updL (f_twoL 8 tf xtf) 5 ((1 : Int32).toInt64)) 6 ((nI k).toInt64)))))]) hx hb hK hP hD hS 8 1 rfl rfl (j := 6) (by decide) (by decide) (by decide) rfl dMO_goes_128 (fun H locs hP hD hS => ?_)
          refine lv_aload_n hx hb dMO_goes_129 rfl (lv_at hl 3 rfl) ?_
          refine va_get (D := (dC, dI)) (ci := 7) (v := .ref u8) (C := RMO) (T := TMO) (N := 11) hx hb hts inMO hown hK hP 0 rfl rfl 8 (by decide) (hts _ m_f_MO_33) (fun _ h9 => h9) rfl dMO_goes_130 ?_
          refine lv_bipush (v := 8) hx hb dMO_goes_133 (by decide) ?_
          refine lv_iload_n hx hb dMO_goes_135 rfl (lv_at hl 4 rfl) ?_
          refine lv_imul hx hb dMO_goes_136 ?_
          refine lv_bipush (v := 7) hx hb dMO_goes_137 (by decide) ?_
          refine lv_iadd hx hb dMO_goes_139 ?_
          refine lv_iload_n hx hb dMO_goes_140 rfl (lv_at hl 6 rfl) ?_
          refine lv_i2l hx hb dMO_goes_141 rfl ?_
          refine k_lst (W1 := [(u0, .inr (7, [.int th, .ref u1, .ref u2, .ref u3, .ref u4, .ref u5, .ref u6, .ref u7, .ref u8, .ref u9, .ref u10])), (u1, .inl (cI, 8, .inl md)), (u2, .inl (cZ, 320, .inl dr)), (u3, .inl (cJ, 12, .inr (.inl an))), (u4, .inl (cI, 24, .inl (upd (f_twoI 12 fl xfl) k 0))), (u5, .inl (cJ, 24, .inr (.inl (f_twoL 12 sm xsm)))), (u6, .inl (cI, 2, .inl (f_lo z xz))), (u7, .inl (cJ, 128, .inr (.inl lg))), (u8, .inl (cJ, 16, .inr (.inl (vp_updL (vp_updL (vp_updL (f_twoL 8 tf xtf) 5 ((1 : Int32).toInt64)) 6 ((nI k).toInt64)) 7 n.toInt64))))]) hx hb hK hP hD hS 8 1 rfl rfl (j := 7) (by decide) (by decide) (by decide) rfl dMO_goes_142 (fun H locs hP hD hS => ?_)
          have hP := k_cvP (W1 := [(u0, .inr (7, [.int th, .ref u1, .ref u2, .ref u3, .ref u4, .ref u5, .ref u6, .ref u7, .ref u8, .ref u9, .ref u10])), (u1, .inl (cI, 8, .inl md)), (u2, .inl (cZ, 320, .inl dr)), (u3, .inl (cJ, 12, .inr (.inl an))), (u4, .inl (cI, 24, .inl (upd (f_twoI 12 fl xfl) k 0))), (u5, .inl (cJ, 24, .inr (.inl (f_twoL 12 sm xsm)))), (u6, .inl (cI, 2, .inl (f_lo z xz))), (u7, .inl (cJ, 128, .inr (.inl lg))), (u8, .inl (cJ, 16, .inr (.inl (f_twoL 8 (vp_updL (vp_updL (vp_updL tf 5 ((1 : Int32).toInt64)) 6 ((nI k).toInt64)) 7 (n.toInt64)) xtf))))]) (by rw [show f_twoL 8 (vp_updL (vp_updL (vp_updL tf 5 ((1 : Int32).toInt64)) 6 ((nI k).toInt64)) 7 (n.toInt64)) xtf = vp_updL (vp_updL (vp_updL (f_twoL 8 tf xtf) 5 ((1 : Int32).toInt64)) 6 ((nI k).toInt64)) 7 n.toInt64 by rw [f_uL0 (by decide), f_uL0 (by decide), f_uL0 (by decide)]]) hP
          have hD := k_cvD (W1 := [(u0, .inr (7, [.int th, .ref u1, .ref u2, .ref u3, .ref u4, .ref u5, .ref u6, .ref u7, .ref u8, .ref u9, .ref u10])), (u1, .inl (cI, 8, .inl md)), (u2, .inl (cZ, 320, .inl dr)), (u3, .inl (cJ, 12, .inr (.inl an))), (u4, .inl (cI, 24, .inl (upd (f_twoI 12 fl xfl) k 0))), (u5, .inl (cJ, 24, .inr (.inl (f_twoL 12 sm xsm)))), (u6, .inl (cI, 2, .inl (f_lo z xz))), (u7, .inl (cJ, 128, .inr (.inl lg))), (u8, .inl (cJ, 16, .inr (.inl (f_twoL 8 (vp_updL (vp_updL (vp_updL tf 5 ((1 : Int32).toInt64)) 6 ((nI k).toInt64)) 7 (n.toInt64)) xtf))))]) (by rw [show f_twoL 8 (vp_updL (vp_updL (vp_updL tf 5 ((1 : Int32).toInt64)) 6 ((nI k).toInt64)) 7 (n.toInt64)) xtf = vp_updL (vp_updL (vp_updL (f_twoL 8 tf xtf) 5 ((1 : Int32).toInt64)) 6 ((nI k).toInt64)) 7 n.toInt64 by rw [f_uL0 (by decide), f_uL0 (by decide), f_uL0 (by decide)]]) hD
          refine lv_aload_n hx hb dMO_goes_143 rfl (lv_at hl 3 rfl) ?_
          refine lv_iload_n hx hb dMO_goes_144 rfl (lv_at hl 4 rfl) ?_
          refine lv_ldc2 (v := (-100)) hx hb hown (hts _ m_k_MO_91) dMO_goes_145 ?_
          refine lv_iload hx hb dMO_goes_148 (lv_at hl 0 rfl) ?_
          refine lv_i2l hx hb dMO_goes_150 rfl ?_
          refine lv_lsub hx hb dMO_goes_151 ?_
          refine k_topl (y := (-100 - (1 : Int32)).toInt64) (by decide) ?_
          refine lv_iconst (v := 4) hx hb dMO_goes_152 (by decide) ?_
          refine k_V (wr := [(u1, .inl (cI, 8, .inl md)), (u2, .inl (cZ, 320, .inl dr)), (u3, .inl (cJ, 12, .inr (.inl an))), (u4, .inl (cI, 24, .inl (upd (f_twoI 12 fl xfl) k 0))), (u5, .inl (cJ, 24, .inr (.inl (f_twoL 12 sm xsm))))]) (W1 := [(u0, .inr (7, [.int th, .ref u1, .ref u2, .ref u3, .ref u4, .ref u5, .ref u6, .ref u7, .ref u8, .ref u9, .ref u10])), (u1, .inl (cI, 8, .inl md)), (u2, .inl (cZ, 320, .inl dr)), (u3, .inl (cJ, 12, .inr (.inl an))), (u4, .inl (cI, 24, .inl (upd (f_twoI 12 fl xfl) k 0))), (u5, .inl (cJ, 24, .inr (.inl (f_twoL 12 sm xsm)))), (u6, .inl (cI, 2, .inl (f_lo (f_js z) xz))), (u7, .inl (cJ, 128, .inr (.inl (f_wr lg z ((-100 - (1 : Int32)).toInt64) 0)))), (u8, .inl (cJ, 16, .inr (.inl (f_twoL 8 (vp_updL (vp_updL (vp_updL (vp_updL tf 5 ((1 : Int32).toInt64)) 6 ((nI k).toInt64)) 7 (n.toInt64)) 4 ((vp_updL (vp_updL (vp_updL tf 5 ((1 : Int32).toInt64)) 6 ((nI k).toInt64)) 7 (n.toInt64)) 4 + 1)) xtf))))]) (st1 := [.long ((-100 - (1 : Int32)).toInt64)]) ⟨hx, hb, hml, hown, hts⟩ (k_MO_writes_0 l dC dI cI cJ cG cZ u0 u1 u2 u3 u4 u5 u6 u7 u8 u9 u10 th lg (vp_updL (vp_updL (vp_updL tf 5 ((1 : Int32).toInt64)) 6 ((nI k).toInt64)) 7 (n.toInt64)) xtf z xz 4 ((-100 - (1 : Int32)).toInt64) hz (by decide)) (cwV 3 hts (k_gV m_l_MO_83 m_i_MO_writes m_s_MO_writes m_in_MO m_c_MO_writes) rfl rfl rfl (by decide +kernel) ⟨Nat.le_of_ble_eq_true rfl, Nat.le_of_ble_eq_true rfl⟩) hK hF hP hD hS hA [0, 6, 7, 8] [1, 2, 3, 4, 5] [5, 0, 1, 2, 3, 4, 6, 7, 8] rfl rfl (by decide) (by decide) (by decide) rfl (by decide) rfl rfl rfl rfl hl.1 rfl (Nat.le_of_ble_eq_true rfl) dMO_goes_153 ⟨Nat.le_of_ble_eq_true rfl, Nat.le_of_ble_eq_true rfl⟩ rfl (fun H locs hP hD hS => ?_)
          exact k_lret hx hb hr hlocks hP hK hD hS rfl dMO_goes_156 ⟨Nat.le_of_ble_eq_true rfl, Nat.le_of_ble_eq_true rfl⟩
      · exact absurd c_2 h2
    · exact absurd c_1 (by rw [f_isPart_nI hk]; decide)
  · obtain ⟨h2, hf⟩ := h2
    have hn : ¬ fl k = 0 := by rw [hf]; decide
    have e1 : f_cd md kn (nI k) n = 0 := by unfold f_cd; rw [if_neg (by rw [f_isPart_nI hk]; decide), nI_clamp (by omega), if_neg h1, if_neg h2]
    rw [show f_aS md kn sm fl (nI k) n v = sm by unfold f_aS f_apS; rw [if_pos e1, nI_clamp (by omega), if_neg hn], show f_aF md kn fl (nI k) n = upd fl k 0 by unfold f_aF; rw [if_pos e1, nI_clamp (by omega)], show f_aT md kn tf fl (nI k) n = vp_updL (vp_updL (vp_updL (vp_updL tf 5 ((2 : Int32).toInt64)) 6 ((nI k).toInt64)) 7 (n.toInt64)) 4 ((vp_updL (vp_updL (vp_updL tf 5 ((2 : Int32).toInt64)) 6 ((nI k).toInt64)) 7 (n.toInt64)) 4 + 1) by unfold f_aT f_apT; rw [if_pos e1, nI_clamp (by omega), if_neg hn, hf]; exact f_tellT _ _ _ _, show f_aA md kn an sm fl (nI k) n v = (-100 - (2 : Int32)).toInt64 by unfold f_aA f_apA; rw [if_pos e1, nI_clamp (by omega), if_neg hn, hf]]
    rw [show f_twoI 12 (upd fl k 0) xfl = upd (f_twoI 12 fl xfl) (k) 0 from f_uI0 hk]
    refine k_of (cc := cMO_goes) (maxL := 9) (ret := (some .long)) (by decide) rfl (Nat.le_of_ble_eq_true rfl) ?_
    intro p e s m below meth c A ls hx hb hr hlocks hml hown hts hA hP hD hK hF hl hS
    have hown : s.vm.findClass RMO = some m.cls := hown
    have hl : lv_has ls 9 [(0, .ref u0), (1, .int 0), (2, .int (nI k)), (3, .int n), (4, .long v)] := hl
    refine lv_iload_n hx hb dMO_goes_0 rfl (lv_at hl 2 rfl) ?_
    refine k_S (wr := [(u0, .inr (7, [.int th, .ref u1, .ref u2, .ref u3, .ref u4, .ref u5, .ref u6, .ref u7, .ref u8, .ref u9, .ref u10])), (u1, .inl (cI, 8, .inl md)), (u2, .inl (cZ, 320, .inl dr)), (u3, .inl (cJ, 12, .inr (.inl an))), (u4, .inl (cI, 24, .inl (f_twoI 12 fl xfl))), (u5, .inl (cJ, 24, .inr (.inl (f_twoL 12 sm xsm)))), (u6, .inl (cI, 2, .inl (f_lo z xz))), (u7, .inl (cJ, 128, .inr (.inl lg))), (u8, .inl (cJ, 16, .inr (.inl (f_twoL 8 tf xtf))))]) (W1 := [(u0, .inr (7, [.int th, .ref u1, .ref u2, .ref u3, .ref u4, .ref u5, .ref u6, .ref u7, .ref u8, .ref u9, .ref u10])), (u1, .inl (cI, 8, .inl md)), (u2, .inl (cZ, 320, .inl dr)), (u3, .inl (cJ, 12, .inr (.inl an))), (u4, .inl (cI, 24, .inl (f_twoI 12 fl xfl))), (u5, .inl (cJ, 24, .inr (.inl (f_twoL 12 sm xsm)))), (u6, .inl (cI, 2, .inl (f_lo z xz))), (u7, .inl (cJ, 128, .inr (.inl lg))), (u8, .inl (cJ, 16, .inr (.inl (f_twoL 8 tf xtf))))]) (st1 := [.int (f_isPart (nI k))]) ⟨hx, hb, hml, hown, hts⟩ (k_MO_isPart l dC dI cI cJ cG cZ (nI k)) (va_cwS 1 hts (k_gS m_l_MO_66 m_st_MO_isPart m_in_MO m_c_MO_isPart) rfl rfl rfl (by decide +kernel) ⟨Nat.le_of_ble_eq_true rfl, Nat.le_of_ble_eq_true rfl⟩) hK hF hP hD hS hA [] [0, 1, 2, 3, 4, 5, 6, 7, 8] [0, 1, 2, 3, 4, 5, 6, 7, 8] rfl rfl (by decide) (by decide) (by decide) rfl (by decide) rfl hl.1 rfl (Nat.le_of_ble_eq_true rfl) dMO_goes_1 ⟨Nat.le_of_ble_eq_true rfl, Nat.le_of_ble_eq_true rfl⟩ rfl (fun H locs hP hD hS => ?_)
    refine lv_if_ne (tgt := 17) hx hb dMO_goes_4 (by decide) (fun c_1 => ?_) (fun c_1 => ?_)
    · refine lv_iload_n hx hb dMO_goes_17 rfl (lv_at hl 2 rfl) ?_
      refine lv_bipush (v := 8) hx hb dMO_goes_18 (by decide) ?_
      refine lv_irem hx hb dMO_goes_20 (by decide) ?_
      refine k_topi (y := nI (k % 8)) (pk_rem (a := k) (d := 8) (by omega) (by decide) (by decide)) ?_
      refine lv_istore (lv' := [(6, .int (nI (k % 8))), (0, .ref u0), (1, .int 0), (2, .int (nI k)), (3, .int n), (4, .long v)]) hx hb dMO_goes_21 hl (by decide) rfl (fun ls hl => ?_)
      refine lv_aload_n hx hb dMO_goes_23 rfl (lv_at hl 1 rfl) ?_
      refine lv_iload hx hb dMO_goes_24 (lv_at hl 0 rfl) ?_
      refine lv_iload_n hx hb dMO_goes_26 rfl (lv_at hl 4 rfl) ?_
      refine k_V (wr := [(u3, .inl (cJ, 12, .inr (.inl an))), (u4, .inl (cI, 24, .inl (f_twoI 12 fl xfl))), (u5, .inl (cJ, 24, .inr (.inl (f_twoL 12 sm xsm)))), (u6, .inl (cI, 2, .inl (f_lo z xz))), (u7, .inl (cJ, 128, .inr (.inl lg))), (u8, .inl (cJ, 16, .inr (.inl (f_twoL 8 tf xtf))))]) (W1 := [(u0, .inr (7, [.int th, .ref u1, .ref u2, .ref u3, .ref u4, .ref u5, .ref u6, .ref u7, .ref u8, .ref u9, .ref u10])), (u1, .inl (cI, 8, .inl md)), (u2, .inl (cZ, 320, .inl dr)), (u3, .inl (cJ, 12, .inr (.inl an))), (u4, .inl (cI, 24, .inl (f_twoI 12 fl xfl))), (u5, .inl (cJ, 24, .inr (.inl (f_twoL 12 sm xsm)))), (u6, .inl (cI, 2, .inl (f_lo z xz))), (u7, .inl (cJ, 128, .inr (.inl lg))), (u8, .inl (cJ, 16, .inr (.inl (f_twoL 8 tf xtf))))]) (st1 := [.int (f_isKnown md kn (k % 8) n)]) ⟨hx, hb, hml, hown, hts⟩ (k_MO_isKnown l dC dI cI cJ cG cZ u0 u1 u2 u3 u4 u5 u6 u7 u8 u9 u10 th md dr kn mn (k % 8) n hmn hkd (Nat.mod_lt _ (by decide))) (cwV 2 hts (k_gV m_l_MO_79 m_i_MO_isKnown m_s_MO_isKnown m_in_MO m_c_MO_isKnown) rfl rfl rfl (by decide +kernel) ⟨Nat.le_of_ble_eq_true rfl, Nat.le_of_ble_eq_true rfl⟩) hK hF hP hD hS hA [0, 1, 2] [3, 4, 5, 6, 7, 8] [6, 7, 8, 0, 1, 2, 3, 4, 5] rfl rfl (by decide) (by decide) (by decide) rfl (by decide) rfl rfl rfl rfl hl.1 rfl (Nat.le_of_ble_eq_true rfl) dMO_goes_27 ⟨Nat.le_of_ble_eq_true rfl, Nat.le_of_ble_eq_true rfl⟩ rfl (fun H locs hP hD hS => ?_)
      refine lv_if_ne (tgt := 71) hx hb dMO_goes_30 (by decide) (fun c_2 => ?_) (fun c_2 => ?_)
      · refine lv_bipush (v := 12) hx hb dMO_goes_71 (by decide) ?_
        refine lv_iload_n hx hb dMO_goes_73 rfl (lv_at hl 2 rfl) ?_
        refine lv_imul hx hb dMO_goes_74 ?_
        refine lv_iload_n hx hb dMO_goes_75 rfl (lv_at hl 3 rfl) ?_
        refine lv_iadd hx hb dMO_goes_76 ?_
        refine k_topi (y := nI k) (f_12a k) ?_
        refine lv_istore (lv' := [(7, .int (nI k)), (6, .int (nI (k % 8))), (0, .ref u0), (1, .int 0), (2, .int (nI k)), (3, .int n), (4, .long v)]) hx hb dMO_goes_77 hl (by decide) rfl (fun ls hl => ?_)
        refine lv_aload_n hx hb dMO_goes_79 rfl (lv_at hl 2 rfl) ?_
        refine va_get (D := (dC, dI)) (ci := 7) (v := .ref u4) (C := RMO) (T := TMO) (N := 11) hx hb hts inMO hown hK hP 0 rfl rfl 4 (by decide) (hts _ m_f_MO_21) (fun _ h9 => h9) rfl dMO_goes_80 ?_
        refine lv_iload hx hb dMO_goes_83 (lv_at hl 0 rfl) ?_
        refine k_ild (v := (f_twoI 12 fl xfl) k) hx hb hK hP 4 0 rfl rfl (j := k) rfl (by omega) (by decide) rfl dMO_goes_85 ?_
        refine k_topi (y := 2) ((f_tI0 hk).trans hf) ?_
        refine lv_istore (lv' := [(8, .int 2), (7, .int (nI k)), (6, .int (nI (k % 8))), (0, .ref u0), (1, .int 0), (2, .int (nI k)), (3, .int n), (4, .long v)]) hx hb dMO_goes_86 hl (by decide) rfl (fun ls hl => ?_)
        refine lv_iload hx hb dMO_goes_88 (lv_at hl 0 rfl) ?_
        refine lv_if_le (tgt := 157) hx hb dMO_goes_90 (by decide) (fun c_3 => ?_) (fun c_3 => ?_)
        · exact absurd c_3 (by decide)
        · refine lv_aload_n hx hb dMO_goes_93 rfl (lv_at hl 3 rfl) ?_
          refine va_get (D := (dC, dI)) (ci := 7) (v := .ref u4) (C := RMO) (T := TMO) (N := 11) hx hb hts inMO hown hK hP 0 rfl rfl 4 (by decide) (hts _ m_f_MO_21) (fun _ h9 => h9) rfl dMO_goes_94 ?_
          refine lv_iload hx hb dMO_goes_97 (lv_at hl 1 rfl) ?_
          refine lv_iconst (v := 0) hx hb dMO_goes_99 (by decide) ?_
          refine k_ist (W1 := [(u0, .inr (7, [.int th, .ref u1, .ref u2, .ref u3, .ref u4, .ref u5, .ref u6, .ref u7, .ref u8, .ref u9, .ref u10])), (u1, .inl (cI, 8, .inl md)), (u2, .inl (cZ, 320, .inl dr)), (u3, .inl (cJ, 12, .inr (.inl an))), (u4, .inl (cI, 24, .inl (upd (f_twoI 12 fl xfl) k 0))), (u5, .inl (cJ, 24, .inr (.inl (f_twoL 12 sm xsm)))), (u6, .inl (cI, 2, .inl (f_lo z xz))), (u7, .inl (cJ, 128, .inr (.inl lg))), (u8, .inl (cJ, 16, .inr (.inl (f_twoL 8 tf xtf))))]) hx hb hK hP hD hS 4 0 rfl rfl (j := k) rfl (by omega) (by decide) rfl dMO_goes_100 (fun H locs hP hD hS => ?_)
          refine lv_aload_n hx hb dMO_goes_101 rfl (lv_at hl 3 rfl) ?_
          refine va_get (D := (dC, dI)) (ci := 7) (v := .ref u8) (C := RMO) (T := TMO) (N := 11) hx hb hts inMO hown hK hP 0 rfl rfl 8 (by decide) (hts _ m_f_MO_33) (fun _ h9 => h9) rfl dMO_goes_102 ?_
          refine lv_bipush (v := 8) hx hb dMO_goes_105 (by decide) ?_
          refine lv_iload_n hx hb dMO_goes_107 rfl (lv_at hl 4 rfl) ?_
          refine lv_imul hx hb dMO_goes_108 ?_
          refine lv_iconst (v := 5) hx hb dMO_goes_109 (by decide) ?_
          refine lv_iadd hx hb dMO_goes_110 ?_
          refine lv_iload hx hb dMO_goes_111 (lv_at hl 0 rfl) ?_
          refine lv_i2l hx hb dMO_goes_113 rfl ?_
          refine k_lst (W1 := [(u0, .inr (7, [.int th, .ref u1, .ref u2, .ref u3, .ref u4, .ref u5, .ref u6, .ref u7, .ref u8, .ref u9, .ref u10])), (u1, .inl (cI, 8, .inl md)), (u2, .inl (cZ, 320, .inl dr)), (u3, .inl (cJ, 12, .inr (.inl an))), (u4, .inl (cI, 24, .inl (upd (f_twoI 12 fl xfl) k 0))), (u5, .inl (cJ, 24, .inr (.inl (f_twoL 12 sm xsm)))), (u6, .inl (cI, 2, .inl (f_lo z xz))), (u7, .inl (cJ, 128, .inr (.inl lg))), (u8, .inl (cJ, 16, .inr (.inl (vp_updL (f_twoL 8 tf xtf) 5 ((2 : Int32).toInt64)))))]) hx hb hK hP hD hS 8 1 rfl rfl (j := 5) (by decide) (by decide) (by decide) rfl dMO_goes_114 (fun H locs hP hD hS => ?_)
          refine lv_aload_n hx hb dMO_goes_115 rfl (lv_at hl 3 rfl) ?_
          refine va_get (D := (dC, dI)) (ci := 7) (v := .ref u8) (C := RMO) (T := TMO) (N := 11) hx hb hts inMO hown hK hP 0 rfl rfl 8 (by decide) (hts _ m_f_MO_33) (fun _ h9 => h9) rfl dMO_goes_116 ?_
          refine lv_bipush (v := 8) hx hb dMO_goes_119 (by decide) ?_
          refine lv_iload_n hx hb dMO_goes_121 rfl (lv_at hl 4 rfl) ?_
          refine lv_imul hx hb dMO_goes_122 ?_
          refine lv_bipush (v := 6) hx hb dMO_goes_123 (by decide) ?_
          refine lv_iadd hx hb dMO_goes_125 ?_
          refine lv_iload_n hx hb dMO_goes_126 rfl (lv_at hl 5 rfl) ?_
          refine lv_i2l hx hb dMO_goes_127 rfl ?_
          refine k_lst (W1 := [(u0, .inr (7, [.int th, .ref u1, .ref u2, .ref u3, .ref u4, .ref u5, .ref u6, .ref u7, .ref u8, .ref u9, .ref u10])), (u1, .inl (cI, 8, .inl md)), (u2, .inl (cZ, 320, .inl dr)), (u3, .inl (cJ, 12, .inr (.inl an))), (u4, .inl (cI, 24, .inl (upd (f_twoI 12 fl xfl) k 0))), (u5, .inl (cJ, 24, .inr (.inl (f_twoL 12 sm xsm)))), (u6, .inl (cI, 2, .inl (f_lo z xz))), (u7, .inl (cJ, 128, .inr (.inl lg))), (u8, .inl (cJ, 16, .inr (.inl (vp_updL (vp_updL (f_twoL 8 tf xtf) 5 ((2 : Int32).toInt64)) 6 ((nI k).toInt64)))))]) hx hb hK hP hD hS 8 1 rfl rfl (j := 6) (by decide) (by decide) (by decide) rfl dMO_goes_128 (fun H locs hP hD hS => ?_)
          refine lv_aload_n hx hb dMO_goes_129 rfl (lv_at hl 3 rfl) ?_
          refine va_get (D := (dC, dI)) (ci := 7) (v := .ref u8) (C := RMO) (T := TMO) (N := 11) hx hb hts inMO hown hK hP 0 rfl rfl 8 (by decide) (hts _ m_f_MO_33) (fun _ h9 => h9) rfl dMO_goes_130 ?_
          refine lv_bipush (v := 8) hx hb dMO_goes_133 (by decide) ?_
          refine lv_iload_n hx hb dMO_goes_135 rfl (lv_at hl 4 rfl) ?_
          refine lv_imul hx hb dMO_goes_136 ?_
          refine lv_bipush (v := 7) hx hb dMO_goes_137 (by decide) ?_
          refine lv_iadd hx hb dMO_goes_139 ?_
          refine lv_iload_n hx hb dMO_goes_140 rfl (lv_at hl 6 rfl) ?_
          refine lv_i2l hx hb dMO_goes_141 rfl ?_
          refine k_lst (W1 := [(u0, .inr (7, [.int th, .ref u1, .ref u2, .ref u3, .ref u4, .ref u5, .ref u6, .ref u7, .ref u8, .ref u9, .ref u10])), (u1, .inl (cI, 8, .inl md)), (u2, .inl (cZ, 320, .inl dr)), (u3, .inl (cJ, 12, .inr (.inl an))), (u4, .inl (cI, 24, .inl (upd (f_twoI 12 fl xfl) k 0))), (u5, .inl (cJ, 24, .inr (.inl (f_twoL 12 sm xsm)))), (u6, .inl (cI, 2, .inl (f_lo z xz))), (u7, .inl (cJ, 128, .inr (.inl lg))), (u8, .inl (cJ, 16, .inr (.inl (vp_updL (vp_updL (vp_updL (f_twoL 8 tf xtf) 5 ((2 : Int32).toInt64)) 6 ((nI k).toInt64)) 7 n.toInt64))))]) hx hb hK hP hD hS 8 1 rfl rfl (j := 7) (by decide) (by decide) (by decide) rfl dMO_goes_142 (fun H locs hP hD hS => ?_)
          have hP := k_cvP (W1 := [(u0, .inr (7, [.int th, .ref u1, .ref u2, .ref u3, .ref u4, .ref u5, .ref u6, .ref u7, .ref u8, .ref u9, .ref u10])), (u1, .inl (cI, 8, .inl md)), (u2, .inl (cZ, 320, .inl dr)), (u3, .inl (cJ, 12, .inr (.inl an))), (u4, .inl (cI, 24, .inl (upd (f_twoI 12 fl xfl) k 0))), (u5, .inl (cJ, 24, .inr (.inl (f_twoL 12 sm xsm)))), (u6, .inl (cI, 2, .inl (f_lo z xz))), (u7, .inl (cJ, 128, .inr (.inl lg))), (u8, .inl (cJ, 16, .inr (.inl (f_twoL 8 (vp_updL (vp_updL (vp_updL tf 5 ((2 : Int32).toInt64)) 6 ((nI k).toInt64)) 7 (n.toInt64)) xtf))))]) (by rw [show f_twoL 8 (vp_updL (vp_updL (vp_updL tf 5 ((2 : Int32).toInt64)) 6 ((nI k).toInt64)) 7 (n.toInt64)) xtf = vp_updL (vp_updL (vp_updL (f_twoL 8 tf xtf) 5 ((2 : Int32).toInt64)) 6 ((nI k).toInt64)) 7 n.toInt64 by rw [f_uL0 (by decide), f_uL0 (by decide), f_uL0 (by decide)]]) hP
          have hD := k_cvD (W1 := [(u0, .inr (7, [.int th, .ref u1, .ref u2, .ref u3, .ref u4, .ref u5, .ref u6, .ref u7, .ref u8, .ref u9, .ref u10])), (u1, .inl (cI, 8, .inl md)), (u2, .inl (cZ, 320, .inl dr)), (u3, .inl (cJ, 12, .inr (.inl an))), (u4, .inl (cI, 24, .inl (upd (f_twoI 12 fl xfl) k 0))), (u5, .inl (cJ, 24, .inr (.inl (f_twoL 12 sm xsm)))), (u6, .inl (cI, 2, .inl (f_lo z xz))), (u7, .inl (cJ, 128, .inr (.inl lg))), (u8, .inl (cJ, 16, .inr (.inl (f_twoL 8 (vp_updL (vp_updL (vp_updL tf 5 ((2 : Int32).toInt64)) 6 ((nI k).toInt64)) 7 (n.toInt64)) xtf))))]) (by rw [show f_twoL 8 (vp_updL (vp_updL (vp_updL tf 5 ((2 : Int32).toInt64)) 6 ((nI k).toInt64)) 7 (n.toInt64)) xtf = vp_updL (vp_updL (vp_updL (f_twoL 8 tf xtf) 5 ((2 : Int32).toInt64)) 6 ((nI k).toInt64)) 7 n.toInt64 by rw [f_uL0 (by decide), f_uL0 (by decide), f_uL0 (by decide)]]) hD
          refine lv_aload_n hx hb dMO_goes_143 rfl (lv_at hl 3 rfl) ?_
          refine lv_iload_n hx hb dMO_goes_144 rfl (lv_at hl 4 rfl) ?_
          refine lv_ldc2 (v := (-100)) hx hb hown (hts _ m_k_MO_91) dMO_goes_145 ?_
          refine lv_iload hx hb dMO_goes_148 (lv_at hl 0 rfl) ?_
          refine lv_i2l hx hb dMO_goes_150 rfl ?_
          refine lv_lsub hx hb dMO_goes_151 ?_
          refine k_topl (y := (-100 - (2 : Int32)).toInt64) (by decide) ?_
          refine lv_iconst (v := 4) hx hb dMO_goes_152 (by decide) ?_
          refine k_V (wr := [(u1, .inl (cI, 8, .inl md)), (u2, .inl (cZ, 320, .inl dr)), (u3, .inl (cJ, 12, .inr (.inl an))), (u4, .inl (cI, 24, .inl (upd (f_twoI 12 fl xfl) k 0))), (u5, .inl (cJ, 24, .inr (.inl (f_twoL 12 sm xsm))))]) (W1 := [(u0, .inr (7, [.int th, .ref u1, .ref u2, .ref u3, .ref u4, .ref u5, .ref u6, .ref u7, .ref u8, .ref u9, .ref u10])), (u1, .inl (cI, 8, .inl md)), (u2, .inl (cZ, 320, .inl dr)), (u3, .inl (cJ, 12, .inr (.inl an))), (u4, .inl (cI, 24, .inl (upd (f_twoI 12 fl xfl) k 0))), (u5, .inl (cJ, 24, .inr (.inl (f_twoL 12 sm xsm)))), (u6, .inl (cI, 2, .inl (f_lo (f_js z) xz))), (u7, .inl (cJ, 128, .inr (.inl (f_wr lg z ((-100 - (2 : Int32)).toInt64) 0)))), (u8, .inl (cJ, 16, .inr (.inl (f_twoL 8 (vp_updL (vp_updL (vp_updL (vp_updL tf 5 ((2 : Int32).toInt64)) 6 ((nI k).toInt64)) 7 (n.toInt64)) 4 ((vp_updL (vp_updL (vp_updL tf 5 ((2 : Int32).toInt64)) 6 ((nI k).toInt64)) 7 (n.toInt64)) 4 + 1)) xtf))))]) (st1 := [.long ((-100 - (2 : Int32)).toInt64)]) ⟨hx, hb, hml, hown, hts⟩ (k_MO_writes_0 l dC dI cI cJ cG cZ u0 u1 u2 u3 u4 u5 u6 u7 u8 u9 u10 th lg (vp_updL (vp_updL (vp_updL tf 5 ((2 : Int32).toInt64)) 6 ((nI k).toInt64)) 7 (n.toInt64)) xtf z xz 4 ((-100 - (2 : Int32)).toInt64) hz (by decide)) (cwV 3 hts (k_gV m_l_MO_83 m_i_MO_writes m_s_MO_writes m_in_MO m_c_MO_writes) rfl rfl rfl (by decide +kernel) ⟨Nat.le_of_ble_eq_true rfl, Nat.le_of_ble_eq_true rfl⟩) hK hF hP hD hS hA [0, 6, 7, 8] [1, 2, 3, 4, 5] [5, 0, 1, 2, 3, 4, 6, 7, 8] rfl rfl (by decide) (by decide) (by decide) rfl (by decide) rfl rfl rfl rfl hl.1 rfl (Nat.le_of_ble_eq_true rfl) dMO_goes_153 ⟨Nat.le_of_ble_eq_true rfl, Nat.le_of_ble_eq_true rfl⟩ rfl (fun H locs hP hD hS => ?_)
          exact k_lret hx hb hr hlocks hP hK hD hS rfl dMO_goes_156 ⟨Nat.le_of_ble_eq_true rfl, Nat.le_of_ble_eq_true rfl⟩
      · exact absurd c_2 h2
    · exact absurd c_1 (by rw [f_isPart_nI hk]; decide)
  · obtain ⟨h2, hf⟩ := h2
    have hn : ¬ fl k = 0 := by rw [hf]; decide
    have e1 : f_cd md kn (nI k) n = 0 := by unfold f_cd; rw [if_neg (by rw [f_isPart_nI hk]; decide), nI_clamp (by omega), if_neg h1, if_neg h2]
    rw [show f_aS md kn sm fl (nI k) n v = sm by unfold f_aS f_apS; rw [if_pos e1, nI_clamp (by omega), if_neg hn], show f_aF md kn fl (nI k) n = upd fl k 0 by unfold f_aF; rw [if_pos e1, nI_clamp (by omega)], show f_aT md kn tf fl (nI k) n = vp_updL (vp_updL (vp_updL (vp_updL tf 5 ((3 : Int32).toInt64)) 6 ((nI k).toInt64)) 7 (n.toInt64)) 4 ((vp_updL (vp_updL (vp_updL tf 5 ((3 : Int32).toInt64)) 6 ((nI k).toInt64)) 7 (n.toInt64)) 4 + 1) by unfold f_aT f_apT; rw [if_pos e1, nI_clamp (by omega), if_neg hn, hf]; exact f_tellT _ _ _ _, show f_aA md kn an sm fl (nI k) n v = (-100 - (3 : Int32)).toInt64 by unfold f_aA f_apA; rw [if_pos e1, nI_clamp (by omega), if_neg hn, hf]]
    rw [show f_twoI 12 (upd fl k 0) xfl = upd (f_twoI 12 fl xfl) (k) 0 from f_uI0 hk]
    refine k_of (cc := cMO_goes) (maxL := 9) (ret := (some .long)) (by decide) rfl (Nat.le_of_ble_eq_true rfl) ?_
    intro p e s m below meth c A ls hx hb hr hlocks hml hown hts hA hP hD hK hF hl hS
    have hown : s.vm.findClass RMO = some m.cls := hown
    have hl : lv_has ls 9 [(0, .ref u0), (1, .int 0), (2, .int (nI k)), (3, .int n), (4, .long v)] := hl
    refine lv_iload_n hx hb dMO_goes_0 rfl (lv_at hl 2 rfl) ?_
    refine k_S (wr := [(u0, .inr (7, [.int th, .ref u1, .ref u2, .ref u3, .ref u4, .ref u5, .ref u6, .ref u7, .ref u8, .ref u9, .ref u10])), (u1, .inl (cI, 8, .inl md)), (u2, .inl (cZ, 320, .inl dr)), (u3, .inl (cJ, 12, .inr (.inl an))), (u4, .inl (cI, 24, .inl (f_twoI 12 fl xfl))), (u5, .inl (cJ, 24, .inr (.inl (f_twoL 12 sm xsm)))), (u6, .inl (cI, 2, .inl (f_lo z xz))), (u7, .inl (cJ, 128, .inr (.inl lg))), (u8, .inl (cJ, 16, .inr (.inl (f_twoL 8 tf xtf))))]) (W1 := [(u0, .inr (7, [.int th, .ref u1, .ref u2, .ref u3, .ref u4, .ref u5, .ref u6, .ref u7, .ref u8, .ref u9, .ref u10])), (u1, .inl (cI, 8, .inl md)), (u2, .inl (cZ, 320, .inl dr)), (u3, .inl (cJ, 12, .inr (.inl an))), (u4, .inl (cI, 24, .inl (f_twoI 12 fl xfl))), (u5, .inl (cJ, 24, .inr (.inl (f_twoL 12 sm xsm)))), (u6, .inl (cI, 2, .inl (f_lo z xz))), (u7, .inl (cJ, 128, .inr (.inl lg))), (u8, .inl (cJ, 16, .inr (.inl (f_twoL 8 tf xtf))))]) (st1 := [.int (f_isPart (nI k))]) ⟨hx, hb, hml, hown, hts⟩ (k_MO_isPart l dC dI cI cJ cG cZ (nI k)) (va_cwS 1 hts (k_gS m_l_MO_66 m_st_MO_isPart m_in_MO m_c_MO_isPart) rfl rfl rfl (by decide +kernel) ⟨Nat.le_of_ble_eq_true rfl, Nat.le_of_ble_eq_true rfl⟩) hK hF hP hD hS hA [] [0, 1, 2, 3, 4, 5, 6, 7, 8] [0, 1, 2, 3, 4, 5, 6, 7, 8] rfl rfl (by decide) (by decide) (by decide) rfl (by decide) rfl hl.1 rfl (Nat.le_of_ble_eq_true rfl) dMO_goes_1 ⟨Nat.le_of_ble_eq_true rfl, Nat.le_of_ble_eq_true rfl⟩ rfl (fun H locs hP hD hS => ?_)
    refine lv_if_ne (tgt := 17) hx hb dMO_goes_4 (by decide) (fun c_1 => ?_) (fun c_1 => ?_)
    · refine lv_iload_n hx hb dMO_goes_17 rfl (lv_at hl 2 rfl) ?_
      refine lv_bipush (v := 8) hx hb dMO_goes_18 (by decide) ?_
      refine lv_irem hx hb dMO_goes_20 (by decide) ?_
      refine k_topi (y := nI (k % 8)) (pk_rem (a := k) (d := 8) (by omega) (by decide) (by decide)) ?_
      refine lv_istore (lv' := [(6, .int (nI (k % 8))), (0, .ref u0), (1, .int 0), (2, .int (nI k)), (3, .int n), (4, .long v)]) hx hb dMO_goes_21 hl (by decide) rfl (fun ls hl => ?_)
      refine lv_aload_n hx hb dMO_goes_23 rfl (lv_at hl 1 rfl) ?_
      refine lv_iload hx hb dMO_goes_24 (lv_at hl 0 rfl) ?_
      refine lv_iload_n hx hb dMO_goes_26 rfl (lv_at hl 4 rfl) ?_
      refine k_V (wr := [(u3, .inl (cJ, 12, .inr (.inl an))), (u4, .inl (cI, 24, .inl (f_twoI 12 fl xfl))), (u5, .inl (cJ, 24, .inr (.inl (f_twoL 12 sm xsm)))), (u6, .inl (cI, 2, .inl (f_lo z xz))), (u7, .inl (cJ, 128, .inr (.inl lg))), (u8, .inl (cJ, 16, .inr (.inl (f_twoL 8 tf xtf))))]) (W1 := [(u0, .inr (7, [.int th, .ref u1, .ref u2, .ref u3, .ref u4, .ref u5, .ref u6, .ref u7, .ref u8, .ref u9, .ref u10])), (u1, .inl (cI, 8, .inl md)), (u2, .inl (cZ, 320, .inl dr)), (u3, .inl (cJ, 12, .inr (.inl an))), (u4, .inl (cI, 24, .inl (f_twoI 12 fl xfl))), (u5, .inl (cJ, 24, .inr (.inl (f_twoL 12 sm xsm)))), (u6, .inl (cI, 2, .inl (f_lo z xz))), (u7, .inl (cJ, 128, .inr (.inl lg))), (u8, .inl (cJ, 16, .inr (.inl (f_twoL 8 tf xtf))))]) (st1 := [.int (f_isKnown md kn (k % 8) n)]) ⟨hx, hb, hml, hown, hts⟩ (k_MO_isKnown l dC dI cI cJ cG cZ u0 u1 u2 u3 u4 u5 u6 u7 u8 u9 u10 th md dr kn mn (k % 8) n hmn hkd (Nat.mod_lt _ (by decide))) (cwV 2 hts (k_gV m_l_MO_79 m_i_MO_isKnown m_s_MO_isKnown m_in_MO m_c_MO_isKnown) rfl rfl rfl (by decide +kernel) ⟨Nat.le_of_ble_eq_true rfl, Nat.le_of_ble_eq_true rfl⟩) hK hF hP hD hS hA [0, 1, 2] [3, 4, 5, 6, 7, 8] [6, 7, 8, 0, 1, 2, 3, 4, 5] rfl rfl (by decide) (by decide) (by decide) rfl (by decide) rfl rfl rfl rfl hl.1 rfl (Nat.le_of_ble_eq_true rfl) dMO_goes_27 ⟨Nat.le_of_ble_eq_true rfl, Nat.le_of_ble_eq_true rfl⟩ rfl (fun H locs hP hD hS => ?_)
      refine lv_if_ne (tgt := 71) hx hb dMO_goes_30 (by decide) (fun c_2 => ?_) (fun c_2 => ?_)
      · refine lv_bipush (v := 12) hx hb dMO_goes_71 (by decide) ?_
        refine lv_iload_n hx hb dMO_goes_73 rfl (lv_at hl 2 rfl) ?_
        refine lv_imul hx hb dMO_goes_74 ?_
        refine lv_iload_n hx hb dMO_goes_75 rfl (lv_at hl 3 rfl) ?_
        refine lv_iadd hx hb dMO_goes_76 ?_
        refine k_topi (y := nI k) (f_12a k) ?_
        refine lv_istore (lv' := [(7, .int (nI k)), (6, .int (nI (k % 8))), (0, .ref u0), (1, .int 0), (2, .int (nI k)), (3, .int n), (4, .long v)]) hx hb dMO_goes_77 hl (by decide) rfl (fun ls hl => ?_)
        refine lv_aload_n hx hb dMO_goes_79 rfl (lv_at hl 2 rfl) ?_
        refine va_get (D := (dC, dI)) (ci := 7) (v := .ref u4) (C := RMO) (T := TMO) (N := 11) hx hb hts inMO hown hK hP 0 rfl rfl 4 (by decide) (hts _ m_f_MO_21) (fun _ h9 => h9) rfl dMO_goes_80 ?_
        refine lv_iload hx hb dMO_goes_83 (lv_at hl 0 rfl) ?_
        refine k_ild (v := (f_twoI 12 fl xfl) k) hx hb hK hP 4 0 rfl rfl (j := k) rfl (by omega) (by decide) rfl dMO_goes_85 ?_
        refine k_topi (y := 3) ((f_tI0 hk).trans hf) ?_
        refine lv_istore (lv' := [(8, .int 3), (7, .int (nI k)), (6, .int (nI (k % 8))), (0, .ref u0), (1, .int 0), (2, .int (nI k)), (3, .int n), (4, .long v)]) hx hb dMO_goes_86 hl (by decide) rfl (fun ls hl => ?_)
        refine lv_iload hx hb dMO_goes_88 (lv_at hl 0 rfl) ?_
        refine lv_if_le (tgt := 157) hx hb dMO_goes_90 (by decide) (fun c_3 => ?_) (fun c_3 => ?_)
        · exact absurd c_3 (by decide)
        · refine lv_aload_n hx hb dMO_goes_93 rfl (lv_at hl 3 rfl) ?_
          refine va_get (D := (dC, dI)) (ci := 7) (v := .ref u4) (C := RMO) (T := TMO) (N := 11) hx hb hts inMO hown hK hP 0 rfl rfl 4 (by decide) (hts _ m_f_MO_21) (fun _ h9 => h9) rfl dMO_goes_94 ?_
          refine lv_iload hx hb dMO_goes_97 (lv_at hl 1 rfl) ?_
          refine lv_iconst (v := 0) hx hb dMO_goes_99 (by decide) ?_
          refine k_ist (W1 := [(u0, .inr (7, [.int th, .ref u1, .ref u2, .ref u3, .ref u4, .ref u5, .ref u6, .ref u7, .ref u8, .ref u9, .ref u10])), (u1, .inl (cI, 8, .inl md)), (u2, .inl (cZ, 320, .inl dr)), (u3, .inl (cJ, 12, .inr (.inl an))), (u4, .inl (cI, 24, .inl (upd (f_twoI 12 fl xfl) k 0))), (u5, .inl (cJ, 24, .inr (.inl (f_twoL 12 sm xsm)))), (u6, .inl (cI, 2, .inl (f_lo z xz))), (u7, .inl (cJ, 128, .inr (.inl lg))), (u8, .inl (cJ, 16, .inr (.inl (f_twoL 8 tf xtf))))]) hx hb hK hP hD hS 4 0 rfl rfl (j := k) rfl (by omega) (by decide) rfl dMO_goes_100 (fun H locs hP hD hS => ?_)
          refine lv_aload_n hx hb dMO_goes_101 rfl (lv_at hl 3 rfl) ?_
          refine va_get (D := (dC, dI)) (ci := 7) (v := .ref u8) (C := RMO) (T := TMO) (N := 11) hx hb hts inMO hown hK hP 0 rfl rfl 8 (by decide) (hts _ m_f_MO_33) (fun _ h9 => h9) rfl dMO_goes_102 ?_
          refine lv_bipush (v := 8) hx hb dMO_goes_105 (by decide) ?_
          refine lv_iload_n hx hb dMO_goes_107 rfl (lv_at hl 4 rfl) ?_
          refine lv_imul hx hb dMO_goes_108 ?_
          refine lv_iconst (v := 5) hx hb dMO_goes_109 (by decide) ?_
          refine lv_iadd hx hb dMO_goes_110 ?_
          refine lv_iload hx hb dMO_goes_111 (lv_at hl 0 rfl) ?_
          refine lv_i2l hx hb dMO_goes_113 rfl ?_
          refine k_lst (W1 := [(u0, .inr (7, [.int th, .ref u1, .ref u2, .ref u3, .ref u4, .ref u5, .ref u6, .ref u7, .ref u8, .ref u9, .ref u10])), (u1, .inl (cI, 8, .inl md)), (u2, .inl (cZ, 320, .inl dr)), (u3, .inl (cJ, 12, .inr (.inl an))), (u4, .inl (cI, 24, .inl (upd (f_twoI 12 fl xfl) k 0))), (u5, .inl (cJ, 24, .inr (.inl (f_twoL 12 sm xsm)))), (u6, .inl (cI, 2, .inl (f_lo z xz))), (u7, .inl (cJ, 128, .inr (.inl lg))), (u8, .inl (cJ, 16, .inr (.inl (vp_updL (f_twoL 8 tf xtf) 5 ((3 : Int32).toInt64)))))]) hx hb hK hP hD hS 8 1 rfl rfl (j := 5) (by decide) (by decide) (by decide) rfl dMO_goes_114 (fun H locs hP hD hS => ?_)
          refine lv_aload_n hx hb dMO_goes_115 rfl (lv_at hl 3 rfl) ?_
          refine va_get (D := (dC, dI)) (ci := 7) (v := .ref u8) (C := RMO) (T := TMO) (N := 11) hx hb hts inMO hown hK hP 0 rfl rfl 8 (by decide) (hts _ m_f_MO_33) (fun _ h9 => h9) rfl dMO_goes_116 ?_
          refine lv_bipush (v := 8) hx hb dMO_goes_119 (by decide) ?_
          refine lv_iload_n hx hb dMO_goes_121 rfl (lv_at hl 4 rfl) ?_
          refine lv_imul hx hb dMO_goes_122 ?_
          refine lv_bipush (v := 6) hx hb dMO_goes_123 (by decide) ?_
          refine lv_iadd hx hb dMO_goes_125 ?_
          refine lv_iload_n hx hb dMO_goes_126 rfl (lv_at hl 5 rfl) ?_
          refine lv_i2l hx hb dMO_goes_127 rfl ?_
          refine k_lst (W1 := [(u0, .inr (7, [.int th, .ref u1, .ref u2, .ref u3, .ref u4, .ref u5, .ref u6, .ref u7, .ref u8, .ref u9, .ref u10])), (u1, .inl (cI, 8, .inl md)), (u2, .inl (cZ, 320, .inl dr)), (u3, .inl (cJ, 12, .inr (.inl an))), (u4, .inl (cI, 24, .inl (upd (f_twoI 12 fl xfl) k 0))), (u5, .inl (cJ, 24, .inr (.inl (f_twoL 12 sm xsm)))), (u6, .inl (cI, 2, .inl (f_lo z xz))), (u7, .inl (cJ, 128, .inr (.inl lg))), (u8, .inl (cJ, 16, .inr (.inl (vp_updL (vp_updL (f_twoL 8 tf xtf) 5 ((3 : Int32).toInt64)) 6 ((nI k).toInt64)))))]) hx hb hK hP hD hS 8 1 rfl rfl (j := 6) (by decide) (by decide) (by decide) rfl dMO_goes_128 (fun H locs hP hD hS => ?_)
          refine lv_aload_n hx hb dMO_goes_129 rfl (lv_at hl 3 rfl) ?_
          refine va_get (D := (dC, dI)) (ci := 7) (v := .ref u8) (C := RMO) (T := TMO) (N := 11) hx hb hts inMO hown hK hP 0 rfl rfl 8 (by decide) (hts _ m_f_MO_33) (fun _ h9 => h9) rfl dMO_goes_130 ?_
          refine lv_bipush (v := 8) hx hb dMO_goes_133 (by decide) ?_
          refine lv_iload_n hx hb dMO_goes_135 rfl (lv_at hl 4 rfl) ?_
          refine lv_imul hx hb dMO_goes_136 ?_
          refine lv_bipush (v := 7) hx hb dMO_goes_137 (by decide) ?_
          refine lv_iadd hx hb dMO_goes_139 ?_
          refine lv_iload_n hx hb dMO_goes_140 rfl (lv_at hl 6 rfl) ?_
          refine lv_i2l hx hb dMO_goes_141 rfl ?_
          refine k_lst (W1 := [(u0, .inr (7, [.int th, .ref u1, .ref u2, .ref u3, .ref u4, .ref u5, .ref u6, .ref u7, .ref u8, .ref u9, .ref u10])), (u1, .inl (cI, 8, .inl md)), (u2, .inl (cZ, 320, .inl dr)), (u3, .inl (cJ, 12, .inr (.inl an))), (u4, .inl (cI, 24, .inl (upd (f_twoI 12 fl xfl) k 0))), (u5, .inl (cJ, 24, .inr (.inl (f_twoL 12 sm xsm)))), (u6, .inl (cI, 2, .inl (f_lo z xz))), (u7, .inl (cJ, 128, .inr (.inl lg))), (u8, .inl (cJ, 16, .inr (.inl (vp_updL (vp_updL (vp_updL (f_twoL 8 tf xtf) 5 ((3 : Int32).toInt64)) 6 ((nI k).toInt64)) 7 n.toInt64))))]) hx hb hK hP hD hS 8 1 rfl rfl (j := 7) (by decide) (by decide) (by decide) rfl dMO_goes_142 (fun H locs hP hD hS => ?_)
          have hP := k_cvP (W1 := [(u0, .inr (7, [.int th, .ref u1, .ref u2, .ref u3, .ref u4, .ref u5, .ref u6, .ref u7, .ref u8, .ref u9, .ref u10])), (u1, .inl (cI, 8, .inl md)), (u2, .inl (cZ, 320, .inl dr)), (u3, .inl (cJ, 12, .inr (.inl an))), (u4, .inl (cI, 24, .inl (upd (f_twoI 12 fl xfl) k 0))), (u5, .inl (cJ, 24, .inr (.inl (f_twoL 12 sm xsm)))), (u6, .inl (cI, 2, .inl (f_lo z xz))), (u7, .inl (cJ, 128, .inr (.inl lg))), (u8, .inl (cJ, 16, .inr (.inl (f_twoL 8 (vp_updL (vp_updL (vp_updL tf 5 ((3 : Int32).toInt64)) 6 ((nI k).toInt64)) 7 (n.toInt64)) xtf))))]) (by rw [show f_twoL 8 (vp_updL (vp_updL (vp_updL tf 5 ((3 : Int32).toInt64)) 6 ((nI k).toInt64)) 7 (n.toInt64)) xtf = vp_updL (vp_updL (vp_updL (f_twoL 8 tf xtf) 5 ((3 : Int32).toInt64)) 6 ((nI k).toInt64)) 7 n.toInt64 by rw [f_uL0 (by decide), f_uL0 (by decide), f_uL0 (by decide)]]) hP
          have hD := k_cvD (W1 := [(u0, .inr (7, [.int th, .ref u1, .ref u2, .ref u3, .ref u4, .ref u5, .ref u6, .ref u7, .ref u8, .ref u9, .ref u10])), (u1, .inl (cI, 8, .inl md)), (u2, .inl (cZ, 320, .inl dr)), (u3, .inl (cJ, 12, .inr (.inl an))), (u4, .inl (cI, 24, .inl (upd (f_twoI 12 fl xfl) k 0))), (u5, .inl (cJ, 24, .inr (.inl (f_twoL 12 sm xsm)))), (u6, .inl (cI, 2, .inl (f_lo z xz))), (u7, .inl (cJ, 128, .inr (.inl lg))), (u8, .inl (cJ, 16, .inr (.inl (f_twoL 8 (vp_updL (vp_updL (vp_updL tf 5 ((3 : Int32).toInt64)) 6 ((nI k).toInt64)) 7 (n.toInt64)) xtf))))]) (by rw [show f_twoL 8 (vp_updL (vp_updL (vp_updL tf 5 ((3 : Int32).toInt64)) 6 ((nI k).toInt64)) 7 (n.toInt64)) xtf = vp_updL (vp_updL (vp_updL (f_twoL 8 tf xtf) 5 ((3 : Int32).toInt64)) 6 ((nI k).toInt64)) 7 n.toInt64 by rw [f_uL0 (by decide), f_uL0 (by decide), f_uL0 (by decide)]]) hD
          refine lv_aload_n hx hb dMO_goes_143 rfl (lv_at hl 3 rfl) ?_
          refine lv_iload_n hx hb dMO_goes_144 rfl (lv_at hl 4 rfl) ?_
          refine lv_ldc2 (v := (-100)) hx hb hown (hts _ m_k_MO_91) dMO_goes_145 ?_
          refine lv_iload hx hb dMO_goes_148 (lv_at hl 0 rfl) ?_
          refine lv_i2l hx hb dMO_goes_150 rfl ?_
          refine lv_lsub hx hb dMO_goes_151 ?_
          refine k_topl (y := (-100 - (3 : Int32)).toInt64) (by decide) ?_
          refine lv_iconst (v := 4) hx hb dMO_goes_152 (by decide) ?_
          refine k_V (wr := [(u1, .inl (cI, 8, .inl md)), (u2, .inl (cZ, 320, .inl dr)), (u3, .inl (cJ, 12, .inr (.inl an))), (u4, .inl (cI, 24, .inl (upd (f_twoI 12 fl xfl) k 0))), (u5, .inl (cJ, 24, .inr (.inl (f_twoL 12 sm xsm))))]) (W1 := [(u0, .inr (7, [.int th, .ref u1, .ref u2, .ref u3, .ref u4, .ref u5, .ref u6, .ref u7, .ref u8, .ref u9, .ref u10])), (u1, .inl (cI, 8, .inl md)), (u2, .inl (cZ, 320, .inl dr)), (u3, .inl (cJ, 12, .inr (.inl an))), (u4, .inl (cI, 24, .inl (upd (f_twoI 12 fl xfl) k 0))), (u5, .inl (cJ, 24, .inr (.inl (f_twoL 12 sm xsm)))), (u6, .inl (cI, 2, .inl (f_lo (f_js z) xz))), (u7, .inl (cJ, 128, .inr (.inl (f_wr lg z ((-100 - (3 : Int32)).toInt64) 0)))), (u8, .inl (cJ, 16, .inr (.inl (f_twoL 8 (vp_updL (vp_updL (vp_updL (vp_updL tf 5 ((3 : Int32).toInt64)) 6 ((nI k).toInt64)) 7 (n.toInt64)) 4 ((vp_updL (vp_updL (vp_updL tf 5 ((3 : Int32).toInt64)) 6 ((nI k).toInt64)) 7 (n.toInt64)) 4 + 1)) xtf))))]) (st1 := [.long ((-100 - (3 : Int32)).toInt64)]) ⟨hx, hb, hml, hown, hts⟩ (k_MO_writes_0 l dC dI cI cJ cG cZ u0 u1 u2 u3 u4 u5 u6 u7 u8 u9 u10 th lg (vp_updL (vp_updL (vp_updL tf 5 ((3 : Int32).toInt64)) 6 ((nI k).toInt64)) 7 (n.toInt64)) xtf z xz 4 ((-100 - (3 : Int32)).toInt64) hz (by decide)) (cwV 3 hts (k_gV m_l_MO_83 m_i_MO_writes m_s_MO_writes m_in_MO m_c_MO_writes) rfl rfl rfl (by decide +kernel) ⟨Nat.le_of_ble_eq_true rfl, Nat.le_of_ble_eq_true rfl⟩) hK hF hP hD hS hA [0, 6, 7, 8] [1, 2, 3, 4, 5] [5, 0, 1, 2, 3, 4, 6, 7, 8] rfl rfl (by decide) (by decide) (by decide) rfl (by decide) rfl rfl rfl rfl hl.1 rfl (Nat.le_of_ble_eq_true rfl) dMO_goes_153 ⟨Nat.le_of_ble_eq_true rfl, Nat.le_of_ble_eq_true rfl⟩ rfl (fun H locs hP hD hS => ?_)
          exact k_lret hx hb hr hlocks hP hK hD hS rfl dMO_goes_156 ⟨Nat.le_of_ble_eq_true rfl, Nat.le_of_ble_eq_true rfl⟩
      · exact absurd c_2 h2
    · exact absurd c_1 (by rw [f_isPart_nI hk]; decide)
  · obtain ⟨h2, hf⟩ := h2
    have hn : ¬ fl k = 0 := by rw [hf]; decide
    have e1 : f_cd md kn (nI k) n = 0 := by unfold f_cd; rw [if_neg (by rw [f_isPart_nI hk]; decide), nI_clamp (by omega), if_neg h1, if_neg h2]
    rw [show f_aS md kn sm fl (nI k) n v = sm by unfold f_aS f_apS; rw [if_pos e1, nI_clamp (by omega), if_neg hn], show f_aF md kn fl (nI k) n = upd fl k 0 by unfold f_aF; rw [if_pos e1, nI_clamp (by omega)], show f_aT md kn tf fl (nI k) n = vp_updL (vp_updL (vp_updL (vp_updL tf 5 ((4 : Int32).toInt64)) 6 ((nI k).toInt64)) 7 (n.toInt64)) 4 ((vp_updL (vp_updL (vp_updL tf 5 ((4 : Int32).toInt64)) 6 ((nI k).toInt64)) 7 (n.toInt64)) 4 + 1) by unfold f_aT f_apT; rw [if_pos e1, nI_clamp (by omega), if_neg hn, hf]; exact f_tellT _ _ _ _, show f_aA md kn an sm fl (nI k) n v = (-100 - (4 : Int32)).toInt64 by unfold f_aA f_apA; rw [if_pos e1, nI_clamp (by omega), if_neg hn, hf]]
    rw [show f_twoI 12 (upd fl k 0) xfl = upd (f_twoI 12 fl xfl) (k) 0 from f_uI0 hk]
    refine k_of (cc := cMO_goes) (maxL := 9) (ret := (some .long)) (by decide) rfl (Nat.le_of_ble_eq_true rfl) ?_
    intro p e s m below meth c A ls hx hb hr hlocks hml hown hts hA hP hD hK hF hl hS
    have hown : s.vm.findClass RMO = some m.cls := hown
    have hl : lv_has ls 9 [(0, .ref u0), (1, .int 0), (2, .int (nI k)), (3, .int n), (4, .long v)] := hl
    refine lv_iload_n hx hb dMO_goes_0 rfl (lv_at hl 2 rfl) ?_
    refine k_S (wr := [(u0, .inr (7, [.int th, .ref u1, .ref u2, .ref u3, .ref u4, .ref u5, .ref u6, .ref u7, .ref u8, .ref u9, .ref u10])), (u1, .inl (cI, 8, .inl md)), (u2, .inl (cZ, 320, .inl dr)), (u3, .inl (cJ, 12, .inr (.inl an))), (u4, .inl (cI, 24, .inl (f_twoI 12 fl xfl))), (u5, .inl (cJ, 24, .inr (.inl (f_twoL 12 sm xsm)))), (u6, .inl (cI, 2, .inl (f_lo z xz))), (u7, .inl (cJ, 128, .inr (.inl lg))), (u8, .inl (cJ, 16, .inr (.inl (f_twoL 8 tf xtf))))]) (W1 := [(u0, .inr (7, [.int th, .ref u1, .ref u2, .ref u3, .ref u4, .ref u5, .ref u6, .ref u7, .ref u8, .ref u9, .ref u10])), (u1, .inl (cI, 8, .inl md)), (u2, .inl (cZ, 320, .inl dr)), (u3, .inl (cJ, 12, .inr (.inl an))), (u4, .inl (cI, 24, .inl (f_twoI 12 fl xfl))), (u5, .inl (cJ, 24, .inr (.inl (f_twoL 12 sm xsm)))), (u6, .inl (cI, 2, .inl (f_lo z xz))), (u7, .inl (cJ, 128, .inr (.inl lg))), (u8, .inl (cJ, 16, .inr (.inl (f_twoL 8 tf xtf))))]) (st1 := [.int (f_isPart (nI k))]) ⟨hx, hb, hml, hown, hts⟩ (k_MO_isPart l dC dI cI cJ cG cZ (nI k)) (va_cwS 1 hts (k_gS m_l_MO_66 m_st_MO_isPart m_in_MO m_c_MO_isPart) rfl rfl rfl (by decide +kernel) ⟨Nat.le_of_ble_eq_true rfl, Nat.le_of_ble_eq_true rfl⟩) hK hF hP hD hS hA [] [0, 1, 2, 3, 4, 5, 6, 7, 8] [0, 1, 2, 3, 4, 5, 6, 7, 8] rfl rfl (by decide) (by decide) (by decide) rfl (by decide) rfl hl.1 rfl (Nat.le_of_ble_eq_true rfl) dMO_goes_1 ⟨Nat.le_of_ble_eq_true rfl, Nat.le_of_ble_eq_true rfl⟩ rfl (fun H locs hP hD hS => ?_)
    refine lv_if_ne (tgt := 17) hx hb dMO_goes_4 (by decide) (fun c_1 => ?_) (fun c_1 => ?_)
    · refine lv_iload_n hx hb dMO_goes_17 rfl (lv_at hl 2 rfl) ?_
      refine lv_bipush (v := 8) hx hb dMO_goes_18 (by decide) ?_
      refine lv_irem hx hb dMO_goes_20 (by decide) ?_
      refine k_topi (y := nI (k % 8)) (pk_rem (a := k) (d := 8) (by omega) (by decide) (by decide)) ?_
      refine lv_istore (lv' := [(6, .int (nI (k % 8))), (0, .ref u0), (1, .int 0), (2, .int (nI k)), (3, .int n), (4, .long v)]) hx hb dMO_goes_21 hl (by decide) rfl (fun ls hl => ?_)
      refine lv_aload_n hx hb dMO_goes_23 rfl (lv_at hl 1 rfl) ?_
      refine lv_iload hx hb dMO_goes_24 (lv_at hl 0 rfl) ?_
      refine lv_iload_n hx hb dMO_goes_26 rfl (lv_at hl 4 rfl) ?_
      refine k_V (wr := [(u3, .inl (cJ, 12, .inr (.inl an))), (u4, .inl (cI, 24, .inl (f_twoI 12 fl xfl))), (u5, .inl (cJ, 24, .inr (.inl (f_twoL 12 sm xsm)))), (u6, .inl (cI, 2, .inl (f_lo z xz))), (u7, .inl (cJ, 128, .inr (.inl lg))), (u8, .inl (cJ, 16, .inr (.inl (f_twoL 8 tf xtf))))]) (W1 := [(u0, .inr (7, [.int th, .ref u1, .ref u2, .ref u3, .ref u4, .ref u5, .ref u6, .ref u7, .ref u8, .ref u9, .ref u10])), (u1, .inl (cI, 8, .inl md)), (u2, .inl (cZ, 320, .inl dr)), (u3, .inl (cJ, 12, .inr (.inl an))), (u4, .inl (cI, 24, .inl (f_twoI 12 fl xfl))), (u5, .inl (cJ, 24, .inr (.inl (f_twoL 12 sm xsm)))), (u6, .inl (cI, 2, .inl (f_lo z xz))), (u7, .inl (cJ, 128, .inr (.inl lg))), (u8, .inl (cJ, 16, .inr (.inl (f_twoL 8 tf xtf))))]) (st1 := [.int (f_isKnown md kn (k % 8) n)]) ⟨hx, hb, hml, hown, hts⟩ (k_MO_isKnown l dC dI cI cJ cG cZ u0 u1 u2 u3 u4 u5 u6 u7 u8 u9 u10 th md dr kn mn (k % 8) n hmn hkd (Nat.mod_lt _ (by decide))) (cwV 2 hts (k_gV m_l_MO_79 m_i_MO_isKnown m_s_MO_isKnown m_in_MO m_c_MO_isKnown) rfl rfl rfl (by decide +kernel) ⟨Nat.le_of_ble_eq_true rfl, Nat.le_of_ble_eq_true rfl⟩) hK hF hP hD hS hA [0, 1, 2] [3, 4, 5, 6, 7, 8] [6, 7, 8, 0, 1, 2, 3, 4, 5] rfl rfl (by decide) (by decide) (by decide) rfl (by decide) rfl rfl rfl rfl hl.1 rfl (Nat.le_of_ble_eq_true rfl) dMO_goes_27 ⟨Nat.le_of_ble_eq_true rfl, Nat.le_of_ble_eq_true rfl⟩ rfl (fun H locs hP hD hS => ?_)
      refine lv_if_ne (tgt := 71) hx hb dMO_goes_30 (by decide) (fun c_2 => ?_) (fun c_2 => ?_)
      · refine lv_bipush (v := 12) hx hb dMO_goes_71 (by decide) ?_
        refine lv_iload_n hx hb dMO_goes_73 rfl (lv_at hl 2 rfl) ?_
        refine lv_imul hx hb dMO_goes_74 ?_
        refine lv_iload_n hx hb dMO_goes_75 rfl (lv_at hl 3 rfl) ?_
        refine lv_iadd hx hb dMO_goes_76 ?_
        refine k_topi (y := nI k) (f_12a k) ?_
        refine lv_istore (lv' := [(7, .int (nI k)), (6, .int (nI (k % 8))), (0, .ref u0), (1, .int 0), (2, .int (nI k)), (3, .int n), (4, .long v)]) hx hb dMO_goes_77 hl (by decide) rfl (fun ls hl => ?_)
        refine lv_aload_n hx hb dMO_goes_79 rfl (lv_at hl 2 rfl) ?_
        refine va_get (D := (dC, dI)) (ci := 7) (v := .ref u4) (C := RMO) (T := TMO) (N := 11) hx hb hts inMO hown hK hP 0 rfl rfl 4 (by decide) (hts _ m_f_MO_21) (fun _ h9 => h9) rfl dMO_goes_80 ?_
        refine lv_iload hx hb dMO_goes_83 (lv_at hl 0 rfl) ?_
        refine k_ild (v := (f_twoI 12 fl xfl) k) hx hb hK hP 4 0 rfl rfl (j := k) rfl (by omega) (by decide) rfl dMO_goes_85 ?_
        refine k_topi (y := 4) ((f_tI0 hk).trans hf) ?_
        refine lv_istore (lv' := [(8, .int 4), (7, .int (nI k)), (6, .int (nI (k % 8))), (0, .ref u0), (1, .int 0), (2, .int (nI k)), (3, .int n), (4, .long v)]) hx hb dMO_goes_86 hl (by decide) rfl (fun ls hl => ?_)
        refine lv_iload hx hb dMO_goes_88 (lv_at hl 0 rfl) ?_
        refine lv_if_le (tgt := 157) hx hb dMO_goes_90 (by decide) (fun c_3 => ?_) (fun c_3 => ?_)
        · exact absurd c_3 (by decide)
        · refine lv_aload_n hx hb dMO_goes_93 rfl (lv_at hl 3 rfl) ?_
          refine va_get (D := (dC, dI)) (ci := 7) (v := .ref u4) (C := RMO) (T := TMO) (N := 11) hx hb hts inMO hown hK hP 0 rfl rfl 4 (by decide) (hts _ m_f_MO_21) (fun _ h9 => h9) rfl dMO_goes_94 ?_
          refine lv_iload hx hb dMO_goes_97 (lv_at hl 1 rfl) ?_
          refine lv_iconst (v := 0) hx hb dMO_goes_99 (by decide) ?_
          refine k_ist (W1 := [(u0, .inr (7, [.int th, .ref u1, .ref u2, .ref u3, .ref u4, .ref u5, .ref u6, .ref u7, .ref u8, .ref u9, .ref u10])), (u1, .inl (cI, 8, .inl md)), (u2, .inl (cZ, 320, .inl dr)), (u3, .inl (cJ, 12, .inr (.inl an))), (u4, .inl (cI, 24, .inl (upd (f_twoI 12 fl xfl) k 0))), (u5, .inl (cJ, 24, .inr (.inl (f_twoL 12 sm xsm)))), (u6, .inl (cI, 2, .inl (f_lo z xz))), (u7, .inl (cJ, 128, .inr (.inl lg))), (u8, .inl (cJ, 16, .inr (.inl (f_twoL 8 tf xtf))))]) hx hb hK hP hD hS 4 0 rfl rfl (j := k) rfl (by omega) (by decide) rfl dMO_goes_100 (fun H locs hP hD hS => ?_)
          refine lv_aload_n hx hb dMO_goes_101 rfl (lv_at hl 3 rfl) ?_
          refine va_get (D := (dC, dI)) (ci := 7) (v := .ref u8) (C := RMO) (T := TMO) (N := 11) hx hb hts inMO hown hK hP 0 rfl rfl 8 (by decide) (hts _ m_f_MO_33) (fun _ h9 => h9) rfl dMO_goes_102 ?_
          refine lv_bipush (v := 8) hx hb dMO_goes_105 (by decide) ?_
          refine lv_iload_n hx hb dMO_goes_107 rfl (lv_at hl 4 rfl) ?_
          refine lv_imul hx hb dMO_goes_108 ?_
          refine lv_iconst (v := 5) hx hb dMO_goes_109 (by decide) ?_
          refine lv_iadd hx hb dMO_goes_110 ?_
          refine lv_iload hx hb dMO_goes_111 (lv_at hl 0 rfl) ?_
          refine lv_i2l hx hb dMO_goes_113 rfl ?_
          refine k_lst (W1 := [(u0, .inr (7, [.int th, .ref u1, .ref u2, .ref u3, .ref u4, .ref u5, .ref u6, .ref u7, .ref u8, .ref u9, .ref u10])), (u1, .inl (cI, 8, .inl md)), (u2, .inl (cZ, 320, .inl dr)), (u3, .inl (cJ, 12, .inr (.inl an))), (u4, .inl (cI, 24, .inl (upd (f_twoI 12 fl xfl) k 0))), (u5, .inl (cJ, 24, .inr (.inl (f_twoL 12 sm xsm)))), (u6, .inl (cI, 2, .inl (f_lo z xz))), (u7, .inl (cJ, 128, .inr (.inl lg))), (u8, .inl (cJ, 16, .inr (.inl (vp_updL (f_twoL 8 tf xtf) 5 ((4 : Int32).toInt64)))))]) hx hb hK hP hD hS 8 1 rfl rfl (j := 5) (by decide) (by decide) (by decide) rfl dMO_goes_114 (fun H locs hP hD hS => ?_)
          refine lv_aload_n hx hb dMO_goes_115 rfl (lv_at hl 3 rfl) ?_
          refine va_get (D := (dC, dI)) (ci := 7) (v := .ref u8) (C := RMO) (T := TMO) (N := 11) hx hb hts inMO hown hK hP 0 rfl rfl 8 (by decide) (hts _ m_f_MO_33) (fun _ h9 => h9) rfl dMO_goes_116 ?_
          refine lv_bipush (v := 8) hx hb dMO_goes_119 (by decide) ?_
          refine lv_iload_n hx hb dMO_goes_121 rfl (lv_at hl 4 rfl) ?_
          refine lv_imul hx hb dMO_goes_122 ?_
          refine lv_bipush (v := 6) hx hb dMO_goes_123 (by decide) ?_
          refine lv_iadd hx hb dMO_goes_125 ?_
          refine lv_iload_n hx hb dMO_goes_126 rfl (lv_at hl 5 rfl) ?_
          refine lv_i2l hx hb dMO_goes_127 rfl ?_
          refine k_lst (W1 := [(u0, .inr (7, [.int th, .ref u1, .ref u2, .ref u3, .ref u4, .ref u5, .ref u6, .ref u7, .ref u8, .ref u9, .ref u10])), (u1, .inl (cI, 8, .inl md)), (u2, .inl (cZ, 320, .inl dr)), (u3, .inl (cJ, 12, .inr (.inl an))), (u4, .inl (cI, 24, .inl (upd (f_twoI 12 fl xfl) k 0))), (u5, .inl (cJ, 24, .inr (.inl (f_twoL 12 sm xsm)))), (u6, .inl (cI, 2, .inl (f_lo z xz))), (u7, .inl (cJ, 128, .inr (.inl lg))), (u8, .inl (cJ, 16, .inr (.inl (vp_updL (vp_updL (f_twoL 8 tf xtf) 5 ((4 : Int32).toInt64)) 6 ((nI k).toInt64)))))]) hx hb hK hP hD hS 8 1 rfl rfl (j := 6) (by decide) (by decide) (by decide) rfl dMO_goes_128 (fun H locs hP hD hS => ?_)
          refine lv_aload_n hx hb dMO_goes_129 rfl (lv_at hl 3 rfl) ?_
          refine va_get (D := (dC, dI)) (ci := 7) (v := .ref u8) (C := RMO) (T := TMO) (N := 11) hx hb hts inMO hown hK hP 0 rfl rfl 8 (by decide) (hts _ m_f_MO_33) (fun _ h9 => h9) rfl dMO_goes_130 ?_
          refine lv_bipush (v := 8) hx hb dMO_goes_133 (by decide) ?_
          refine lv_iload_n hx hb dMO_goes_135 rfl (lv_at hl 4 rfl) ?_
          refine lv_imul hx hb dMO_goes_136 ?_
          refine lv_bipush (v := 7) hx hb dMO_goes_137 (by decide) ?_
          refine lv_iadd hx hb dMO_goes_139 ?_
          refine lv_iload_n hx hb dMO_goes_140 rfl (lv_at hl 6 rfl) ?_
          refine lv_i2l hx hb dMO_goes_141 rfl ?_
          refine k_lst (W1 := [(u0, .inr (7, [.int th, .ref u1, .ref u2, .ref u3, .ref u4, .ref u5, .ref u6, .ref u7, .ref u8, .ref u9, .ref u10])), (u1, .inl (cI, 8, .inl md)), (u2, .inl (cZ, 320, .inl dr)), (u3, .inl (cJ, 12, .inr (.inl an))), (u4, .inl (cI, 24, .inl (upd (f_twoI 12 fl xfl) k 0))), (u5, .inl (cJ, 24, .inr (.inl (f_twoL 12 sm xsm)))), (u6, .inl (cI, 2, .inl (f_lo z xz))), (u7, .inl (cJ, 128, .inr (.inl lg))), (u8, .inl (cJ, 16, .inr (.inl (vp_updL (vp_updL (vp_updL (f_twoL 8 tf xtf) 5 ((4 : Int32).toInt64)) 6 ((nI k).toInt64)) 7 n.toInt64))))]) hx hb hK hP hD hS 8 1 rfl rfl (j := 7) (by decide) (by decide) (by decide) rfl dMO_goes_142 (fun H locs hP hD hS => ?_)
          have hP := k_cvP (W1 := [(u0, .inr (7, [.int th, .ref u1, .ref u2, .ref u3, .ref u4, .ref u5, .ref u6, .ref u7, .ref u8, .ref u9, .ref u10])), (u1, .inl (cI, 8, .inl md)), (u2, .inl (cZ, 320, .inl dr)), (u3, .inl (cJ, 12, .inr (.inl an))), (u4, .inl (cI, 24, .inl (upd (f_twoI 12 fl xfl) k 0))), (u5, .inl (cJ, 24, .inr (.inl (f_twoL 12 sm xsm)))), (u6, .inl (cI, 2, .inl (f_lo z xz))), (u7, .inl (cJ, 128, .inr (.inl lg))), (u8, .inl (cJ, 16, .inr (.inl (f_twoL 8 (vp_updL (vp_updL (vp_updL tf 5 ((4 : Int32).toInt64)) 6 ((nI k).toInt64)) 7 (n.toInt64)) xtf))))]) (by rw [show f_twoL 8 (vp_updL (vp_updL (vp_updL tf 5 ((4 : Int32).toInt64)) 6 ((nI k).toInt64)) 7 (n.toInt64)) xtf = vp_updL (vp_updL (vp_updL (f_twoL 8 tf xtf) 5 ((4 : Int32).toInt64)) 6 ((nI k).toInt64)) 7 n.toInt64 by rw [f_uL0 (by decide), f_uL0 (by decide), f_uL0 (by decide)]]) hP
          have hD := k_cvD (W1 := [(u0, .inr (7, [.int th, .ref u1, .ref u2, .ref u3, .ref u4, .ref u5, .ref u6, .ref u7, .ref u8, .ref u9, .ref u10])), (u1, .inl (cI, 8, .inl md)), (u2, .inl (cZ, 320, .inl dr)), (u3, .inl (cJ, 12, .inr (.inl an))), (u4, .inl (cI, 24, .inl (upd (f_twoI 12 fl xfl) k 0))), (u5, .inl (cJ, 24, .inr (.inl (f_twoL 12 sm xsm)))), (u6, .inl (cI, 2, .inl (f_lo z xz))), (u7, .inl (cJ, 128, .inr (.inl lg))), (u8, .inl (cJ, 16, .inr (.inl (f_twoL 8 (vp_updL (vp_updL (vp_updL tf 5 ((4 : Int32).toInt64)) 6 ((nI k).toInt64)) 7 (n.toInt64)) xtf))))]) (by rw [show f_twoL 8 (vp_updL (vp_updL (vp_updL tf 5 ((4 : Int32).toInt64)) 6 ((nI k).toInt64)) 7 (n.toInt64)) xtf = vp_updL (vp_updL (vp_updL (f_twoL 8 tf xtf) 5 ((4 : Int32).toInt64)) 6 ((nI k).toInt64)) 7 n.toInt64 by rw [f_uL0 (by decide), f_uL0 (by decide), f_uL0 (by decide)]]) hD
          refine lv_aload_n hx hb dMO_goes_143 rfl (lv_at hl 3 rfl) ?_
          refine lv_iload_n hx hb dMO_goes_144 rfl (lv_at hl 4 rfl) ?_
          refine lv_ldc2 (v := (-100)) hx hb hown (hts _ m_k_MO_91) dMO_goes_145 ?_
          refine lv_iload hx hb dMO_goes_148 (lv_at hl 0 rfl) ?_
          refine lv_i2l hx hb dMO_goes_150 rfl ?_
          refine lv_lsub hx hb dMO_goes_151 ?_
          refine k_topl (y := (-100 - (4 : Int32)).toInt64) (by decide) ?_
          refine lv_iconst (v := 4) hx hb dMO_goes_152 (by decide) ?_
          refine k_V (wr := [(u1, .inl (cI, 8, .inl md)), (u2, .inl (cZ, 320, .inl dr)), (u3, .inl (cJ, 12, .inr (.inl an))), (u4, .inl (cI, 24, .inl (upd (f_twoI 12 fl xfl) k 0))), (u5, .inl (cJ, 24, .inr (.inl (f_twoL 12 sm xsm))))]) (W1 := [(u0, .inr (7, [.int th, .ref u1, .ref u2, .ref u3, .ref u4, .ref u5, .ref u6, .ref u7, .ref u8, .ref u9, .ref u10])), (u1, .inl (cI, 8, .inl md)), (u2, .inl (cZ, 320, .inl dr)), (u3, .inl (cJ, 12, .inr (.inl an))), (u4, .inl (cI, 24, .inl (upd (f_twoI 12 fl xfl) k 0))), (u5, .inl (cJ, 24, .inr (.inl (f_twoL 12 sm xsm)))), (u6, .inl (cI, 2, .inl (f_lo (f_js z) xz))), (u7, .inl (cJ, 128, .inr (.inl (f_wr lg z ((-100 - (4 : Int32)).toInt64) 0)))), (u8, .inl (cJ, 16, .inr (.inl (f_twoL 8 (vp_updL (vp_updL (vp_updL (vp_updL tf 5 ((4 : Int32).toInt64)) 6 ((nI k).toInt64)) 7 (n.toInt64)) 4 ((vp_updL (vp_updL (vp_updL tf 5 ((4 : Int32).toInt64)) 6 ((nI k).toInt64)) 7 (n.toInt64)) 4 + 1)) xtf))))]) (st1 := [.long ((-100 - (4 : Int32)).toInt64)]) ⟨hx, hb, hml, hown, hts⟩ (k_MO_writes_0 l dC dI cI cJ cG cZ u0 u1 u2 u3 u4 u5 u6 u7 u8 u9 u10 th lg (vp_updL (vp_updL (vp_updL tf 5 ((4 : Int32).toInt64)) 6 ((nI k).toInt64)) 7 (n.toInt64)) xtf z xz 4 ((-100 - (4 : Int32)).toInt64) hz (by decide)) (cwV 3 hts (k_gV m_l_MO_83 m_i_MO_writes m_s_MO_writes m_in_MO m_c_MO_writes) rfl rfl rfl (by decide +kernel) ⟨Nat.le_of_ble_eq_true rfl, Nat.le_of_ble_eq_true rfl⟩) hK hF hP hD hS hA [0, 6, 7, 8] [1, 2, 3, 4, 5] [5, 0, 1, 2, 3, 4, 6, 7, 8] rfl rfl (by decide) (by decide) (by decide) rfl (by decide) rfl rfl rfl rfl hl.1 rfl (Nat.le_of_ble_eq_true rfl) dMO_goes_153 ⟨Nat.le_of_ble_eq_true rfl, Nat.le_of_ble_eq_true rfl⟩ rfl (fun H locs hP hD hS => ?_)
          exact k_lret hx hb hr hlocks hP hK hD hS rfl dMO_goes_156 ⟨Nat.le_of_ble_eq_true rfl, Nat.le_of_ble_eq_true rfl⟩
      · exact absurd c_2 h2
    · exact absurd c_1 (by rw [f_isPart_nI hk]; decide)
  · obtain ⟨h2, hf⟩ := h2
    have hn : ¬ fl k = 0 := by rw [hf]; decide
    have e1 : f_cd md kn (nI k) n = 0 := by unfold f_cd; rw [if_neg (by rw [f_isPart_nI hk]; decide), nI_clamp (by omega), if_neg h1, if_neg h2]
    rw [show f_aS md kn sm fl (nI k) n v = sm by unfold f_aS f_apS; rw [if_pos e1, nI_clamp (by omega), if_neg hn], show f_aF md kn fl (nI k) n = upd fl k 0 by unfold f_aF; rw [if_pos e1, nI_clamp (by omega)], show f_aT md kn tf fl (nI k) n = vp_updL (vp_updL (vp_updL (vp_updL tf 5 ((5 : Int32).toInt64)) 6 ((nI k).toInt64)) 7 (n.toInt64)) 4 ((vp_updL (vp_updL (vp_updL tf 5 ((5 : Int32).toInt64)) 6 ((nI k).toInt64)) 7 (n.toInt64)) 4 + 1) by unfold f_aT f_apT; rw [if_pos e1, nI_clamp (by omega), if_neg hn, hf]; exact f_tellT _ _ _ _, show f_aA md kn an sm fl (nI k) n v = (-100 - (5 : Int32)).toInt64 by unfold f_aA f_apA; rw [if_pos e1, nI_clamp (by omega), if_neg hn, hf]]
    rw [show f_twoI 12 (upd fl k 0) xfl = upd (f_twoI 12 fl xfl) (k) 0 from f_uI0 hk]
    refine k_of (cc := cMO_goes) (maxL := 9) (ret := (some .long)) (by decide) rfl (Nat.le_of_ble_eq_true rfl) ?_
    intro p e s m below meth c A ls hx hb hr hlocks hml hown hts hA hP hD hK hF hl hS
    have hown : s.vm.findClass RMO = some m.cls := hown
    have hl : lv_has ls 9 [(0, .ref u0), (1, .int 0), (2, .int (nI k)), (3, .int n), (4, .long v)] := hl
    refine lv_iload_n hx hb dMO_goes_0 rfl (lv_at hl 2 rfl) ?_
    refine k_S (wr := [(u0, .inr (7, [.int th, .ref u1, .ref u2, .ref u3, .ref u4, .ref u5, .ref u6, .ref u7, .ref u8, .ref u9, .ref u10])), (u1, .inl (cI, 8, .inl md)), (u2, .inl (cZ, 320, .inl dr)), (u3, .inl (cJ, 12, .inr (.inl an))), (u4, .inl (cI, 24, .inl (f_twoI 12 fl xfl))), (u5, .inl (cJ, 24, .inr (.inl (f_twoL 12 sm xsm)))), (u6, .inl (cI, 2, .inl (f_lo z xz))), (u7, .inl (cJ, 128, .inr (.inl lg))), (u8, .inl (cJ, 16, .inr (.inl (f_twoL 8 tf xtf))))]) (W1 := [(u0, .inr (7, [.int th, .ref u1, .ref u2, .ref u3, .ref u4, .ref u5, .ref u6, .ref u7, .ref u8, .ref u9, .ref u10])), (u1, .inl (cI, 8, .inl md)), (u2, .inl (cZ, 320, .inl dr)), (u3, .inl (cJ, 12, .inr (.inl an))), (u4, .inl (cI, 24, .inl (f_twoI 12 fl xfl))), (u5, .inl (cJ, 24, .inr (.inl (f_twoL 12 sm xsm)))), (u6, .inl (cI, 2, .inl (f_lo z xz))), (u7, .inl (cJ, 128, .inr (.inl lg))), (u8, .inl (cJ, 16, .inr (.inl (f_twoL 8 tf xtf))))]) (st1 := [.int (f_isPart (nI k))]) ⟨hx, hb, hml, hown, hts⟩ (k_MO_isPart l dC dI cI cJ cG cZ (nI k)) (va_cwS 1 hts (k_gS m_l_MO_66 m_st_MO_isPart m_in_MO m_c_MO_isPart) rfl rfl rfl (by decide +kernel) ⟨Nat.le_of_ble_eq_true rfl, Nat.le_of_ble_eq_true rfl⟩) hK hF hP hD hS hA [] [0, 1, 2, 3, 4, 5, 6, 7, 8] [0, 1, 2, 3, 4, 5, 6, 7, 8] rfl rfl (by decide) (by decide) (by decide) rfl (by decide) rfl hl.1 rfl (Nat.le_of_ble_eq_true rfl) dMO_goes_1 ⟨Nat.le_of_ble_eq_true rfl, Nat.le_of_ble_eq_true rfl⟩ rfl (fun H locs hP hD hS => ?_)
    refine lv_if_ne (tgt := 17) hx hb dMO_goes_4 (by decide) (fun c_1 => ?_) (fun c_1 => ?_)
    · refine lv_iload_n hx hb dMO_goes_17 rfl (lv_at hl 2 rfl) ?_
      refine lv_bipush (v := 8) hx hb dMO_goes_18 (by decide) ?_
      refine lv_irem hx hb dMO_goes_20 (by decide) ?_
      refine k_topi (y := nI (k % 8)) (pk_rem (a := k) (d := 8) (by omega) (by decide) (by decide)) ?_
      refine lv_istore (lv' := [(6, .int (nI (k % 8))), (0, .ref u0), (1, .int 0), (2, .int (nI k)), (3, .int n), (4, .long v)]) hx hb dMO_goes_21 hl (by decide) rfl (fun ls hl => ?_)
      refine lv_aload_n hx hb dMO_goes_23 rfl (lv_at hl 1 rfl) ?_
      refine lv_iload hx hb dMO_goes_24 (lv_at hl 0 rfl) ?_
      refine lv_iload_n hx hb dMO_goes_26 rfl (lv_at hl 4 rfl) ?_
      refine k_V (wr := [(u3, .inl (cJ, 12, .inr (.inl an))), (u4, .inl (cI, 24, .inl (f_twoI 12 fl xfl))), (u5, .inl (cJ, 24, .inr (.inl (f_twoL 12 sm xsm)))), (u6, .inl (cI, 2, .inl (f_lo z xz))), (u7, .inl (cJ, 128, .inr (.inl lg))), (u8, .inl (cJ, 16, .inr (.inl (f_twoL 8 tf xtf))))]) (W1 := [(u0, .inr (7, [.int th, .ref u1, .ref u2, .ref u3, .ref u4, .ref u5, .ref u6, .ref u7, .ref u8, .ref u9, .ref u10])), (u1, .inl (cI, 8, .inl md)), (u2, .inl (cZ, 320, .inl dr)), (u3, .inl (cJ, 12, .inr (.inl an))), (u4, .inl (cI, 24, .inl (f_twoI 12 fl xfl))), (u5, .inl (cJ, 24, .inr (.inl (f_twoL 12 sm xsm)))), (u6, .inl (cI, 2, .inl (f_lo z xz))), (u7, .inl (cJ, 128, .inr (.inl lg))), (u8, .inl (cJ, 16, .inr (.inl (f_twoL 8 tf xtf))))]) (st1 := [.int (f_isKnown md kn (k % 8) n)]) ⟨hx, hb, hml, hown, hts⟩ (k_MO_isKnown l dC dI cI cJ cG cZ u0 u1 u2 u3 u4 u5 u6 u7 u8 u9 u10 th md dr kn mn (k % 8) n hmn hkd (Nat.mod_lt _ (by decide))) (cwV 2 hts (k_gV m_l_MO_79 m_i_MO_isKnown m_s_MO_isKnown m_in_MO m_c_MO_isKnown) rfl rfl rfl (by decide +kernel) ⟨Nat.le_of_ble_eq_true rfl, Nat.le_of_ble_eq_true rfl⟩) hK hF hP hD hS hA [0, 1, 2] [3, 4, 5, 6, 7, 8] [6, 7, 8, 0, 1, 2, 3, 4, 5] rfl rfl (by decide) (by decide) (by decide) rfl (by decide) rfl rfl rfl rfl hl.1 rfl (Nat.le_of_ble_eq_true rfl) dMO_goes_27 ⟨Nat.le_of_ble_eq_true rfl, Nat.le_of_ble_eq_true rfl⟩ rfl (fun H locs hP hD hS => ?_)
      refine lv_if_ne (tgt := 71) hx hb dMO_goes_30 (by decide) (fun c_2 => ?_) (fun c_2 => ?_)
      · refine lv_bipush (v := 12) hx hb dMO_goes_71 (by decide) ?_
        refine lv_iload_n hx hb dMO_goes_73 rfl (lv_at hl 2 rfl) ?_
        refine lv_imul hx hb dMO_goes_74 ?_
        refine lv_iload_n hx hb dMO_goes_75 rfl (lv_at hl 3 rfl) ?_
        refine lv_iadd hx hb dMO_goes_76 ?_
        refine k_topi (y := nI k) (f_12a k) ?_
        refine lv_istore (lv' := [(7, .int (nI k)), (6, .int (nI (k % 8))), (0, .ref u0), (1, .int 0), (2, .int (nI k)), (3, .int n), (4, .long v)]) hx hb dMO_goes_77 hl (by decide) rfl (fun ls hl => ?_)
        refine lv_aload_n hx hb dMO_goes_79 rfl (lv_at hl 2 rfl) ?_
        refine va_get (D := (dC, dI)) (ci := 7) (v := .ref u4) (C := RMO) (T := TMO) (N := 11) hx hb hts inMO hown hK hP 0 rfl rfl 4 (by decide) (hts _ m_f_MO_21) (fun _ h9 => h9) rfl dMO_goes_80 ?_
        refine lv_iload hx hb dMO_goes_83 (lv_at hl 0 rfl) ?_
        refine k_ild (v := (f_twoI 12 fl xfl) k) hx hb hK hP 4 0 rfl rfl (j := k) rfl (by omega) (by decide) rfl dMO_goes_85 ?_
        refine k_topi (y := 5) ((f_tI0 hk).trans hf) ?_
        refine lv_istore (lv' := [(8, .int 5), (7, .int (nI k)), (6, .int (nI (k % 8))), (0, .ref u0), (1, .int 0), (2, .int (nI k)), (3, .int n), (4, .long v)]) hx hb dMO_goes_86 hl (by decide) rfl (fun ls hl => ?_)
        refine lv_iload hx hb dMO_goes_88 (lv_at hl 0 rfl) ?_
        refine lv_if_le (tgt := 157) hx hb dMO_goes_90 (by decide) (fun c_3 => ?_) (fun c_3 => ?_)
        · exact absurd c_3 (by decide)
        · refine lv_aload_n hx hb dMO_goes_93 rfl (lv_at hl 3 rfl) ?_
          refine va_get (D := (dC, dI)) (ci := 7) (v := .ref u4) (C := RMO) (T := TMO) (N := 11) hx hb hts inMO hown hK hP 0 rfl rfl 4 (by decide) (hts _ m_f_MO_21) (fun _ h9 => h9) rfl dMO_goes_94 ?_
          refine lv_iload hx hb dMO_goes_97 (lv_at hl 1 rfl) ?_
          refine lv_iconst (v := 0) hx hb dMO_goes_99 (by decide) ?_
          refine k_ist (W1 := [(u0, .inr (7, [.int th, .ref u1, .ref u2, .ref u3, .ref u4, .ref u5, .ref u6, .ref u7, .ref u8, .ref u9, .ref u10])), (u1, .inl (cI, 8, .inl md)), (u2, .inl (cZ, 320, .inl dr)), (u3, .inl (cJ, 12, .inr (.inl an))), (u4, .inl (cI, 24, .inl (upd (f_twoI 12 fl xfl) k 0))), (u5, .inl (cJ, 24, .inr (.inl (f_twoL 12 sm xsm)))), (u6, .inl (cI, 2, .inl (f_lo z xz))), (u7, .inl (cJ, 128, .inr (.inl lg))), (u8, .inl (cJ, 16, .inr (.inl (f_twoL 8 tf xtf))))]) hx hb hK hP hD hS 4 0 rfl rfl (j := k) rfl (by omega) (by decide) rfl dMO_goes_100 (fun H locs hP hD hS => ?_)
          refine lv_aload_n hx hb dMO_goes_101 rfl (lv_at hl 3 rfl) ?_
          refine va_get (D := (dC, dI)) (ci := 7) (v := .ref u8) (C := RMO) (T := TMO) (N := 11) hx hb hts inMO hown hK hP 0 rfl rfl 8 (by decide) (hts _ m_f_MO_33) (fun _ h9 => h9) rfl dMO_goes_102 ?_
          refine lv_bipush (v := 8) hx hb dMO_goes_105 (by decide) ?_
          refine lv_iload_n hx hb dMO_goes_107 rfl (lv_at hl 4 rfl) ?_
          refine lv_imul hx hb dMO_goes_108 ?_
          refine lv_iconst (v := 5) hx hb dMO_goes_109 (by decide) ?_
          refine lv_iadd hx hb dMO_goes_110 ?_
          refine lv_iload hx hb dMO_goes_111 (lv_at hl 0 rfl) ?_
          refine lv_i2l hx hb dMO_goes_113 rfl ?_
          refine k_lst (W1 := [(u0, .inr (7, [.int th, .ref u1, .ref u2, .ref u3, .ref u4, .ref u5, .ref u6, .ref u7, .ref u8, .ref u9, .ref u10])), (u1, .inl (cI, 8, .inl md)), (u2, .inl (cZ, 320, .inl dr)), (u3, .inl (cJ, 12, .inr (.inl an))), (u4, .inl (cI, 24, .inl (upd (f_twoI 12 fl xfl) k 0))), (u5, .inl (cJ, 24, .inr (.inl (f_twoL 12 sm xsm)))), (u6, .inl (cI, 2, .inl (f_lo z xz))), (u7, .inl (cJ, 128, .inr (.inl lg))), (u8, .inl (cJ, 16, .inr (.inl (vp_updL (f_twoL 8 tf xtf) 5 ((5 : Int32).toInt64)))))]) hx hb hK hP hD hS 8 1 rfl rfl (j := 5) (by decide) (by decide) (by decide) rfl dMO_goes_114 (fun H locs hP hD hS => ?_)
          refine lv_aload_n hx hb dMO_goes_115 rfl (lv_at hl 3 rfl) ?_
          refine va_get (D := (dC, dI)) (ci := 7) (v := .ref u8) (C := RMO) (T := TMO) (N := 11) hx hb hts inMO hown hK hP 0 rfl rfl 8 (by decide) (hts _ m_f_MO_33) (fun _ h9 => h9) rfl dMO_goes_116 ?_
          refine lv_bipush (v := 8) hx hb dMO_goes_119 (by decide) ?_
          refine lv_iload_n hx hb dMO_goes_121 rfl (lv_at hl 4 rfl) ?_
          refine lv_imul hx hb dMO_goes_122 ?_
          refine lv_bipush (v := 6) hx hb dMO_goes_123 (by decide) ?_
          refine lv_iadd hx hb dMO_goes_125 ?_
          refine lv_iload_n hx hb dMO_goes_126 rfl (lv_at hl 5 rfl) ?_
          refine lv_i2l hx hb dMO_goes_127 rfl ?_
          refine k_lst (W1 := [(u0, .inr (7, [.int th, .ref u1, .ref u2, .ref u3, .ref u4, .ref u5, .ref u6, .ref u7, .ref u8, .ref u9, .ref u10])), (u1, .inl (cI, 8, .inl md)), (u2, .inl (cZ, 320, .inl dr)), (u3, .inl (cJ, 12, .inr (.inl an))), (u4, .inl (cI, 24, .inl (upd (f_twoI 12 fl xfl) k 0))), (u5, .inl (cJ, 24, .inr (.inl (f_twoL 12 sm xsm)))), (u6, .inl (cI, 2, .inl (f_lo z xz))), (u7, .inl (cJ, 128, .inr (.inl lg))), (u8, .inl (cJ, 16, .inr (.inl (vp_updL (vp_updL (f_twoL 8 tf xtf) 5 ((5 : Int32).toInt64)) 6 ((nI k).toInt64)))))]) hx hb hK hP hD hS 8 1 rfl rfl (j := 6) (by decide) (by decide) (by decide) rfl dMO_goes_128 (fun H locs hP hD hS => ?_)
          refine lv_aload_n hx hb dMO_goes_129 rfl (lv_at hl 3 rfl) ?_
          refine va_get (D := (dC, dI)) (ci := 7) (v := .ref u8) (C := RMO) (T := TMO) (N := 11) hx hb hts inMO hown hK hP 0 rfl rfl 8 (by decide) (hts _ m_f_MO_33) (fun _ h9 => h9) rfl dMO_goes_130 ?_
          refine lv_bipush (v := 8) hx hb dMO_goes_133 (by decide) ?_
          refine lv_iload_n hx hb dMO_goes_135 rfl (lv_at hl 4 rfl) ?_
          refine lv_imul hx hb dMO_goes_136 ?_
          refine lv_bipush (v := 7) hx hb dMO_goes_137 (by decide) ?_
          refine lv_iadd hx hb dMO_goes_139 ?_
          refine lv_iload_n hx hb dMO_goes_140 rfl (lv_at hl 6 rfl) ?_
          refine lv_i2l hx hb dMO_goes_141 rfl ?_
          refine k_lst (W1 := [(u0, .inr (7, [.int th, .ref u1, .ref u2, .ref u3, .ref u4, .ref u5, .ref u6, .ref u7, .ref u8, .ref u9, .ref u10])), (u1, .inl (cI, 8, .inl md)), (u2, .inl (cZ, 320, .inl dr)), (u3, .inl (cJ, 12, .inr (.inl an))), (u4, .inl (cI, 24, .inl (upd (f_twoI 12 fl xfl) k 0))), (u5, .inl (cJ, 24, .inr (.inl (f_twoL 12 sm xsm)))), (u6, .inl (cI, 2, .inl (f_lo z xz))), (u7, .inl (cJ, 128, .inr (.inl lg))), (u8, .inl (cJ, 16, .inr (.inl (vp_updL (vp_updL (vp_updL (f_twoL 8 tf xtf) 5 ((5 : Int32).toInt64)) 6 ((nI k).toInt64)) 7 n.toInt64))))]) hx hb hK hP hD hS 8 1 rfl rfl (j := 7) (by decide) (by decide) (by decide) rfl dMO_goes_142 (fun H locs hP hD hS => ?_)
          have hP := k_cvP (W1 := [(u0, .inr (7, [.int th, .ref u1, .ref u2, .ref u3, .ref u4, .ref u5, .ref u6, .ref u7, .ref u8, .ref u9, .ref u10])), (u1, .inl (cI, 8, .inl md)), (u2, .inl (cZ, 320, .inl dr)), (u3, .inl (cJ, 12, .inr (.inl an))), (u4, .inl (cI, 24, .inl (upd (f_twoI 12 fl xfl) k 0))), (u5, .inl (cJ, 24, .inr (.inl (f_twoL 12 sm xsm)))), (u6, .inl (cI, 2, .inl (f_lo z xz))), (u7, .inl (cJ, 128, .inr (.inl lg))), (u8, .inl (cJ, 16, .inr (.inl (f_twoL 8 (vp_updL (vp_updL (vp_updL tf 5 ((5 : Int32).toInt64)) 6 ((nI k).toInt64)) 7 (n.toInt64)) xtf))))]) (by rw [show f_twoL 8 (vp_updL (vp_updL (vp_updL tf 5 ((5 : Int32).toInt64)) 6 ((nI k).toInt64)) 7 (n.toInt64)) xtf = vp_updL (vp_updL (vp_updL (f_twoL 8 tf xtf) 5 ((5 : Int32).toInt64)) 6 ((nI k).toInt64)) 7 n.toInt64 by rw [f_uL0 (by decide), f_uL0 (by decide), f_uL0 (by decide)]]) hP
          have hD := k_cvD (W1 := [(u0, .inr (7, [.int th, .ref u1, .ref u2, .ref u3, .ref u4, .ref u5, .ref u6, .ref u7, .ref u8, .ref u9, .ref u10])), (u1, .inl (cI, 8, .inl md)), (u2, .inl (cZ, 320, .inl dr)), (u3, .inl (cJ, 12, .inr (.inl an))), (u4, .inl (cI, 24, .inl (upd (f_twoI 12 fl xfl) k 0))), (u5, .inl (cJ, 24, .inr (.inl (f_twoL 12 sm xsm)))), (u6, .inl (cI, 2, .inl (f_lo z xz))), (u7, .inl (cJ, 128, .inr (.inl lg))), (u8, .inl (cJ, 16, .inr (.inl (f_twoL 8 (vp_updL (vp_updL (vp_updL tf 5 ((5 : Int32).toInt64)) 6 ((nI k).toInt64)) 7 (n.toInt64)) xtf))))]) (by rw [show f_twoL 8 (vp_updL (vp_updL (vp_updL tf 5 ((5 : Int32).toInt64)) 6 ((nI k).toInt64)) 7 (n.toInt64)) xtf = vp_updL (vp_updL (vp_updL (f_twoL 8 tf xtf) 5 ((5 : Int32).toInt64)) 6 ((nI k).toInt64)) 7 n.toInt64 by rw [f_uL0 (by decide), f_uL0 (by decide), f_uL0 (by decide)]]) hD
          refine lv_aload_n hx hb dMO_goes_143 rfl (lv_at hl 3 rfl) ?_
          refine lv_iload_n hx hb dMO_goes_144 rfl (lv_at hl 4 rfl) ?_
          refine lv_ldc2 (v := (-100)) hx hb hown (hts _ m_k_MO_91) dMO_goes_145 ?_
          refine lv_iload hx hb dMO_goes_148 (lv_at hl 0 rfl) ?_
          refine lv_i2l hx hb dMO_goes_150 rfl ?_
          refine lv_lsub hx hb dMO_goes_151 ?_
          refine k_topl (y := (-100 - (5 : Int32)).toInt64) (by decide) ?_
          refine lv_iconst (v := 4) hx hb dMO_goes_152 (by decide) ?_
          refine k_V (wr := [(u1, .inl (cI, 8, .inl md)), (u2, .inl (cZ, 320, .inl dr)), (u3, .inl (cJ, 12, .inr (.inl an))), (u4, .inl (cI, 24, .inl (upd (f_twoI 12 fl xfl) k 0))), (u5, .inl (cJ, 24, .inr (.inl (f_twoL 12 sm xsm))))]) (W1 := [(u0, .inr (7, [.int th, .ref u1, .ref u2, .ref u3, .ref u4, .ref u5, .ref u6, .ref u7, .ref u8, .ref u9, .ref u10])), (u1, .inl (cI, 8, .inl md)), (u2, .inl (cZ, 320, .inl dr)), (u3, .inl (cJ, 12, .inr (.inl an))), (u4, .inl (cI, 24, .inl (upd (f_twoI 12 fl xfl) k 0))), (u5, .inl (cJ, 24, .inr (.inl (f_twoL 12 sm xsm)))), (u6, .inl (cI, 2, .inl (f_lo (f_js z) xz))), (u7, .inl (cJ, 128, .inr (.inl (f_wr lg z ((-100 - (5 : Int32)).toInt64) 0)))), (u8, .inl (cJ, 16, .inr (.inl (f_twoL 8 (vp_updL (vp_updL (vp_updL (vp_updL tf 5 ((5 : Int32).toInt64)) 6 ((nI k).toInt64)) 7 (n.toInt64)) 4 ((vp_updL (vp_updL (vp_updL tf 5 ((5 : Int32).toInt64)) 6 ((nI k).toInt64)) 7 (n.toInt64)) 4 + 1)) xtf))))]) (st1 := [.long ((-100 - (5 : Int32)).toInt64)]) ⟨hx, hb, hml, hown, hts⟩ (k_MO_writes_0 l dC dI cI cJ cG cZ u0 u1 u2 u3 u4 u5 u6 u7 u8 u9 u10 th lg (vp_updL (vp_updL (vp_updL tf 5 ((5 : Int32).toInt64)) 6 ((nI k).toInt64)) 7 (n.toInt64)) xtf z xz 4 ((-100 - (5 : Int32)).toInt64) hz (by decide)) (cwV 3 hts (k_gV m_l_MO_83 m_i_MO_writes m_s_MO_writes m_in_MO m_c_MO_writes) rfl rfl rfl (by decide +kernel) ⟨Nat.le_of_ble_eq_true rfl, Nat.le_of_ble_eq_true rfl⟩) hK hF hP hD hS hA [0, 6, 7, 8] [1, 2, 3, 4, 5] [5, 0, 1, 2, 3, 4, 6, 7, 8] rfl rfl (by decide) (by decide) (by decide) rfl (by decide) rfl rfl rfl rfl hl.1 rfl (Nat.le_of_ble_eq_true rfl) dMO_goes_153 ⟨Nat.le_of_ble_eq_true rfl, Nat.le_of_ble_eq_true rfl⟩ rfl (fun H locs hP hD hS => ?_)
          exact k_lret hx hb hr hlocks hP hK hD hS rfl dMO_goes_156 ⟨Nat.le_of_ble_eq_true rfl, Nat.le_of_ble_eq_true rfl⟩
      · exact absurd c_2 h2
    · exact absurd c_1 (by rw [f_isPart_nI hk]; decide)

set_option maxHeartbeats 4000000 in
set_option maxRecDepth 100000 in
theorem k_MO_goes_1 (l : Launch) (dC : Nat → ClassId) (dI : Nat → Nat → Nat) (cI cJ cG cZ : ClassId) (u0 : Nat) (u1 : Nat) (u2 : Nat) (u3 : Nat) (u4 : Nat) (u5 : Nat) (u6 : Nat) (u7 : Nat) (u8 : Nat) (u9 : Nat) (u10 : Nat) (th : Int32) (md : Nat → Int32) (dr : Nat → Int32) (kn : Nat → Int64) (an : Nat → Int64) (fl : Nat → Int32) (xfl : Nat → Int32) (sm : Nat → Int64) (xsm : Nat → Int64) (tf : Nat → Int64) (xtf : Nat → Int64) (lg : Nat → Int64) (z : Nat) (xz : Nat) (mn : Nat → Nat) (x : Int32) (n : Int32) (v : Int64) (hmn : ∀ k : Nat, k < 8 → md k = nI (mn k) ∧ mn k ≤ 40) (hkd : ∀ k : Nat, k < 8 → ∀ j : Nat, j < mn k → (dr (40 * k + j) = 0 ↔ f_kb (kn k) j = true)) (hg : ∀ k : Nat, k < 12 → xfl k = 0 ∨ xfl k = 1 ∨ xfl k = 2 ∨ xfl k = 3 ∨ xfl k = 4 ∨ xfl k = 5) (hz : xz ≤ 64) : k_M l yMO_goes wsMO_goes rm_MO_goes (dC, dI) vwCl [(cI, .int), (cJ, .long), (cG, .array .long), (cZ, .boolean)] [.ref u0, .int 1, .int x, .int n, .long v] [(u0, .inr (7, [.int th, .ref u1, .ref u2, .ref u3, .ref u4, .ref u5, .ref u6, .ref u7, .ref u8, .ref u9, .ref u10])), (u1, .inl (cI, 8, .inl md)), (u2, .inl (cZ, 320, .inl dr)), (u3, .inl (cJ, 12, .inr (.inl an))), (u4, .inl (cI, 24, .inl (f_twoI 12 fl xfl))), (u5, .inl (cJ, 24, .inr (.inl (f_twoL 12 sm xsm)))), (u6, .inl (cI, 2, .inl (f_lo z xz))), (u7, .inl (cJ, 128, .inr (.inl lg))), (u8, .inl (cJ, 16, .inr (.inl (f_twoL 8 tf xtf))))] (some (.long (f_aA md kn an xsm xfl x n v))) [(u0, .inr (7, [.int th, .ref u1, .ref u2, .ref u3, .ref u4, .ref u5, .ref u6, .ref u7, .ref u8, .ref u9, .ref u10])), (u1, .inl (cI, 8, .inl md)), (u2, .inl (cZ, 320, .inl dr)), (u3, .inl (cJ, 12, .inr (.inl an))), (u4, .inl (cI, 24, .inl (f_twoI 12 fl (f_aF md kn xfl x n)))), (u5, .inl (cJ, 24, .inr (.inl (f_twoL 12 sm (f_aS md kn xsm xfl x n v))))), (u6, .inl (cI, 2, .inl (f_lo z (f_js xz)))), (u7, .inl (cJ, 128, .inr (.inl (f_wr lg xz (f_aA md kn an xsm xfl x n v) 64)))), (u8, .inl (cJ, 16, .inr (.inl (f_twoL 8 tf (f_aT md kn xtf xfl x n)))))] := by
  rcases (show f_isPart x = 0 ∨ (∃ k : Nat, k < 12 ∧ x = nI k ∧ f_wasMade md (k % 8) n = 0) ∨ (∃ k : Nat, k < 12 ∧ x = nI k ∧ ¬ f_wasMade md (k % 8) n = 0 ∧ f_isKnown md kn (k % 8) n = 0) ∨ (∃ k : Nat, k < 12 ∧ x = nI k ∧ ¬ f_wasMade md (k % 8) n = 0 ∧ (¬ f_isKnown md kn (k % 8) n = 0 ∧ xfl k = 0)) ∨ (∃ k : Nat, k < 12 ∧ x = nI k ∧ ¬ f_wasMade md (k % 8) n = 0 ∧ (¬ f_isKnown md kn (k % 8) n = 0 ∧ xfl k = 1)) ∨ (∃ k : Nat, k < 12 ∧ x = nI k ∧ ¬ f_wasMade md (k % 8) n = 0 ∧ (¬ f_isKnown md kn (k % 8) n = 0 ∧ xfl k = 2)) ∨ (∃ k : Nat, k < 12 ∧ x = nI k ∧ ¬ f_wasMade md (k % 8) n = 0 ∧ (¬ f_isKnown md kn (k % 8) n = 0 ∧ xfl k = 3)) ∨ (∃ k : Nat, k < 12 ∧ x = nI k ∧ ¬ f_wasMade md (k % 8) n = 0 ∧ (¬ f_isKnown md kn (k % 8) n = 0 ∧ xfl k = 4)) ∨ (∃ k : Nat, k < 12 ∧ x = nI k ∧ ¬ f_wasMade md (k % 8) n = 0 ∧ (¬ f_isKnown md kn (k % 8) n = 0 ∧ xfl k = 5)) from f_cases9 hg) with h0 | ⟨k, hk, rfl, h1⟩ | ⟨k, hk, rfl, h1, h2⟩ | ⟨k, hk, rfl, h1, h2⟩ | ⟨k, hk, rfl, h1, h2⟩ | ⟨k, hk, rfl, h1, h2⟩ | ⟨k, hk, rfl, h1, h2⟩ | ⟨k, hk, rfl, h1, h2⟩ | ⟨k, hk, rfl, h1, h2⟩
  · have e1 : f_cd md kn x n = 1 := if_pos h0
    rw [show f_aS md kn xsm xfl x n v = xsm by unfold f_aS; rw [e1]; rfl, show f_aF md kn xfl x n = xfl by unfold f_aF; rw [e1]; rfl, show f_aT md kn xtf xfl x n = vp_updL xtf 1 (xtf 1 + 1) by unfold f_aT; rw [e1]; rfl, show f_aA md kn an xsm xfl x n v = -1 by unfold f_aA; rw [e1, if_neg (by decide)]; decide]
    refine k_of (cc := cMO_goes) (maxL := 9) (ret := (some .long)) (by decide) rfl (Nat.le_of_ble_eq_true rfl) ?_
    intro p e s m below meth c A ls hx hb hr hlocks hml hown hts hA hP hD hK hF hl hS
    have hown : s.vm.findClass RMO = some m.cls := hown
    have hl : lv_has ls 9 [(0, .ref u0), (1, .int 1), (2, .int x), (3, .int n), (4, .long v)] := hl
    refine lv_iload_n hx hb dMO_goes_0 rfl (lv_at hl 2 rfl) ?_
    refine k_S (wr := [(u0, .inr (7, [.int th, .ref u1, .ref u2, .ref u3, .ref u4, .ref u5, .ref u6, .ref u7, .ref u8, .ref u9, .ref u10])), (u1, .inl (cI, 8, .inl md)), (u2, .inl (cZ, 320, .inl dr)), (u3, .inl (cJ, 12, .inr (.inl an))), (u4, .inl (cI, 24, .inl (f_twoI 12 fl xfl))), (u5, .inl (cJ, 24, .inr (.inl (f_twoL 12 sm xsm)))), (u6, .inl (cI, 2, .inl (f_lo z xz))), (u7, .inl (cJ, 128, .inr (.inl lg))), (u8, .inl (cJ, 16, .inr (.inl (f_twoL 8 tf xtf))))]) (W1 := [(u0, .inr (7, [.int th, .ref u1, .ref u2, .ref u3, .ref u4, .ref u5, .ref u6, .ref u7, .ref u8, .ref u9, .ref u10])), (u1, .inl (cI, 8, .inl md)), (u2, .inl (cZ, 320, .inl dr)), (u3, .inl (cJ, 12, .inr (.inl an))), (u4, .inl (cI, 24, .inl (f_twoI 12 fl xfl))), (u5, .inl (cJ, 24, .inr (.inl (f_twoL 12 sm xsm)))), (u6, .inl (cI, 2, .inl (f_lo z xz))), (u7, .inl (cJ, 128, .inr (.inl lg))), (u8, .inl (cJ, 16, .inr (.inl (f_twoL 8 tf xtf))))]) (st1 := [.int (f_isPart x)]) ⟨hx, hb, hml, hown, hts⟩ (k_MO_isPart l dC dI cI cJ cG cZ x) (va_cwS 1 hts (k_gS m_l_MO_66 m_st_MO_isPart m_in_MO m_c_MO_isPart) rfl rfl rfl (by decide +kernel) ⟨Nat.le_of_ble_eq_true rfl, Nat.le_of_ble_eq_true rfl⟩) hK hF hP hD hS hA [] [0, 1, 2, 3, 4, 5, 6, 7, 8] [0, 1, 2, 3, 4, 5, 6, 7, 8] rfl rfl (by decide) (by decide) (by decide) rfl (by decide) rfl hl.1 rfl (Nat.le_of_ble_eq_true rfl) dMO_goes_1 ⟨Nat.le_of_ble_eq_true rfl, Nat.le_of_ble_eq_true rfl⟩ rfl (fun H locs hP hD hS => ?_)
    refine lv_if_ne (tgt := 17) hx hb dMO_goes_4 (by decide) (fun c_1 => ?_) (fun c_1 => ?_)
    · exact absurd h0 c_1
    · refine lv_aload_n hx hb dMO_goes_7 rfl (lv_at hl 0 rfl) ?_
      refine lv_iload_n hx hb dMO_goes_8 rfl (lv_at hl 1 rfl) ?_
      refine lv_ldc2 (v := (-1)) hx hb hown (hts _ m_k_MO_42) dMO_goes_9 ?_
      refine lv_iconst (v := 1) hx hb dMO_goes_12 (by decide) ?_
      refine k_V (wr := [(u1, .inl (cI, 8, .inl md)), (u2, .inl (cZ, 320, .inl dr)), (u3, .inl (cJ, 12, .inr (.inl an))), (u4, .inl (cI, 24, .inl (f_twoI 12 fl xfl))), (u5, .inl (cJ, 24, .inr (.inl (f_twoL 12 sm xsm))))]) (W1 := [(u0, .inr (7, [.int th, .ref u1, .ref u2, .ref u3, .ref u4, .ref u5, .ref u6, .ref u7, .ref u8, .ref u9, .ref u10])), (u1, .inl (cI, 8, .inl md)), (u2, .inl (cZ, 320, .inl dr)), (u3, .inl (cJ, 12, .inr (.inl an))), (u4, .inl (cI, 24, .inl (f_twoI 12 fl xfl))), (u5, .inl (cJ, 24, .inr (.inl (f_twoL 12 sm xsm)))), (u6, .inl (cI, 2, .inl (f_lo z (f_js xz)))), (u7, .inl (cJ, 128, .inr (.inl (f_wr lg xz (-1) 64)))), (u8, .inl (cJ, 16, .inr (.inl (f_twoL 8 tf (vp_updL xtf 1 (xtf 1 + 1))))))]) (st1 := [.long (-1)]) ⟨hx, hb, hml, hown, hts⟩ (k_MO_writes_1 l dC dI cI cJ cG cZ u0 u1 u2 u3 u4 u5 u6 u7 u8 u9 u10 th lg tf xtf z xz 1 (-1) hz (by decide)) (cwV 3 hts (k_gV m_l_MO_83 m_i_MO_writes m_s_MO_writes m_in_MO m_c_MO_writes) rfl rfl rfl (by decide +kernel) ⟨Nat.le_of_ble_eq_true rfl, Nat.le_of_ble_eq_true rfl⟩) hK hF hP hD hS hA [0, 6, 7, 8] [1, 2, 3, 4, 5] [5, 0, 1, 2, 3, 4, 6, 7, 8] rfl rfl (by decide) (by decide) (by decide) rfl (by decide) rfl rfl rfl rfl hl.1 rfl (Nat.le_of_ble_eq_true rfl) dMO_goes_13 ⟨Nat.le_of_ble_eq_true rfl, Nat.le_of_ble_eq_true rfl⟩ rfl (fun H locs hP hD hS => ?_)
      exact k_lret hx hb hr hlocks hP hK hD hS rfl dMO_goes_16 ⟨Nat.le_of_ble_eq_true rfl, Nat.le_of_ble_eq_true rfl⟩
  · have e1 : f_cd md kn (nI k) n = 2 := by unfold f_cd; rw [if_neg (by rw [f_isPart_nI hk]; decide), nI_clamp (by omega), if_pos h1]
    rw [show f_aS md kn xsm xfl (nI k) n v = xsm by unfold f_aS; rw [e1]; rfl, show f_aF md kn xfl (nI k) n = xfl by unfold f_aF; rw [e1]; rfl, show f_aT md kn xtf xfl (nI k) n = vp_updL xtf 2 (xtf 2 + 1) by unfold f_aT; rw [e1]; rfl, show f_aA md kn an xsm xfl (nI k) n v = -2 by unfold f_aA; rw [e1, if_neg (by decide)]; decide]
    refine k_of (cc := cMO_goes) (maxL := 9) (ret := (some .long)) (by decide) rfl (Nat.le_of_ble_eq_true rfl) ?_
    intro p e s m below meth c A ls hx hb hr hlocks hml hown hts hA hP hD hK hF hl hS
    have hown : s.vm.findClass RMO = some m.cls := hown
    have hl : lv_has ls 9 [(0, .ref u0), (1, .int 1), (2, .int (nI k)), (3, .int n), (4, .long v)] := hl
    refine lv_iload_n hx hb dMO_goes_0 rfl (lv_at hl 2 rfl) ?_
    refine k_S (wr := [(u0, .inr (7, [.int th, .ref u1, .ref u2, .ref u3, .ref u4, .ref u5, .ref u6, .ref u7, .ref u8, .ref u9, .ref u10])), (u1, .inl (cI, 8, .inl md)), (u2, .inl (cZ, 320, .inl dr)), (u3, .inl (cJ, 12, .inr (.inl an))), (u4, .inl (cI, 24, .inl (f_twoI 12 fl xfl))), (u5, .inl (cJ, 24, .inr (.inl (f_twoL 12 sm xsm)))), (u6, .inl (cI, 2, .inl (f_lo z xz))), (u7, .inl (cJ, 128, .inr (.inl lg))), (u8, .inl (cJ, 16, .inr (.inl (f_twoL 8 tf xtf))))]) (W1 := [(u0, .inr (7, [.int th, .ref u1, .ref u2, .ref u3, .ref u4, .ref u5, .ref u6, .ref u7, .ref u8, .ref u9, .ref u10])), (u1, .inl (cI, 8, .inl md)), (u2, .inl (cZ, 320, .inl dr)), (u3, .inl (cJ, 12, .inr (.inl an))), (u4, .inl (cI, 24, .inl (f_twoI 12 fl xfl))), (u5, .inl (cJ, 24, .inr (.inl (f_twoL 12 sm xsm)))), (u6, .inl (cI, 2, .inl (f_lo z xz))), (u7, .inl (cJ, 128, .inr (.inl lg))), (u8, .inl (cJ, 16, .inr (.inl (f_twoL 8 tf xtf))))]) (st1 := [.int (f_isPart (nI k))]) ⟨hx, hb, hml, hown, hts⟩ (k_MO_isPart l dC dI cI cJ cG cZ (nI k)) (va_cwS 1 hts (k_gS m_l_MO_66 m_st_MO_isPart m_in_MO m_c_MO_isPart) rfl rfl rfl (by decide +kernel) ⟨Nat.le_of_ble_eq_true rfl, Nat.le_of_ble_eq_true rfl⟩) hK hF hP hD hS hA [] [0, 1, 2, 3, 4, 5, 6, 7, 8] [0, 1, 2, 3, 4, 5, 6, 7, 8] rfl rfl (by decide) (by decide) (by decide) rfl (by decide) rfl hl.1 rfl (Nat.le_of_ble_eq_true rfl) dMO_goes_1 ⟨Nat.le_of_ble_eq_true rfl, Nat.le_of_ble_eq_true rfl⟩ rfl (fun H locs hP hD hS => ?_)
    refine lv_if_ne (tgt := 17) hx hb dMO_goes_4 (by decide) (fun c_1 => ?_) (fun c_1 => ?_)
    · refine lv_iload_n hx hb dMO_goes_17 rfl (lv_at hl 2 rfl) ?_
      refine lv_bipush (v := 8) hx hb dMO_goes_18 (by decide) ?_
      refine lv_irem hx hb dMO_goes_20 (by decide) ?_
      refine k_topi (y := nI (k % 8)) (pk_rem (a := k) (d := 8) (by omega) (by decide) (by decide)) ?_
      refine lv_istore (lv' := [(6, .int (nI (k % 8))), (0, .ref u0), (1, .int 1), (2, .int (nI k)), (3, .int n), (4, .long v)]) hx hb dMO_goes_21 hl (by decide) rfl (fun ls hl => ?_)
      refine lv_aload_n hx hb dMO_goes_23 rfl (lv_at hl 1 rfl) ?_
      refine lv_iload hx hb dMO_goes_24 (lv_at hl 0 rfl) ?_
      refine lv_iload_n hx hb dMO_goes_26 rfl (lv_at hl 4 rfl) ?_
      refine k_V (wr := [(u3, .inl (cJ, 12, .inr (.inl an))), (u4, .inl (cI, 24, .inl (f_twoI 12 fl xfl))), (u5, .inl (cJ, 24, .inr (.inl (f_twoL 12 sm xsm)))), (u6, .inl (cI, 2, .inl (f_lo z xz))), (u7, .inl (cJ, 128, .inr (.inl lg))), (u8, .inl (cJ, 16, .inr (.inl (f_twoL 8 tf xtf))))]) (W1 := [(u0, .inr (7, [.int th, .ref u1, .ref u2, .ref u3, .ref u4, .ref u5, .ref u6, .ref u7, .ref u8, .ref u9, .ref u10])), (u1, .inl (cI, 8, .inl md)), (u2, .inl (cZ, 320, .inl dr)), (u3, .inl (cJ, 12, .inr (.inl an))), (u4, .inl (cI, 24, .inl (f_twoI 12 fl xfl))), (u5, .inl (cJ, 24, .inr (.inl (f_twoL 12 sm xsm)))), (u6, .inl (cI, 2, .inl (f_lo z xz))), (u7, .inl (cJ, 128, .inr (.inl lg))), (u8, .inl (cJ, 16, .inr (.inl (f_twoL 8 tf xtf))))]) (st1 := [.int (f_isKnown md kn (k % 8) n)]) ⟨hx, hb, hml, hown, hts⟩ (k_MO_isKnown l dC dI cI cJ cG cZ u0 u1 u2 u3 u4 u5 u6 u7 u8 u9 u10 th md dr kn mn (k % 8) n hmn hkd (Nat.mod_lt _ (by decide))) (cwV 2 hts (k_gV m_l_MO_79 m_i_MO_isKnown m_s_MO_isKnown m_in_MO m_c_MO_isKnown) rfl rfl rfl (by decide +kernel) ⟨Nat.le_of_ble_eq_true rfl, Nat.le_of_ble_eq_true rfl⟩) hK hF hP hD hS hA [0, 1, 2] [3, 4, 5, 6, 7, 8] [6, 7, 8, 0, 1, 2, 3, 4, 5] rfl rfl (by decide) (by decide) (by decide) rfl (by decide) rfl rfl rfl rfl hl.1 rfl (Nat.le_of_ble_eq_true rfl) dMO_goes_27 ⟨Nat.le_of_ble_eq_true rfl, Nat.le_of_ble_eq_true rfl⟩ rfl (fun H locs hP hD hS => ?_)
      refine lv_if_ne (tgt := 71) hx hb dMO_goes_30 (by decide) (fun c_2 => ?_) (fun c_2 => ?_)
      · exact absurd (f_kn0 h1) c_2
      · refine lv_iload_n hx hb dMO_goes_33 rfl (lv_at hl 4 rfl) ?_
        refine lv_iconst (v := 1) hx hb dMO_goes_34 (by decide) ?_
        refine lv_icmp_lt (tgt := 49) hx hb dMO_goes_35 (by decide) (fun c_3 => ?_) (fun c_3 => ?_)
        · refine lv_aload_n hx hb dMO_goes_49 rfl (lv_at hl 1 rfl) ?_
          refine lv_iload_n hx hb dMO_goes_50 rfl (lv_at hl 2 rfl) ?_
          refine lv_ldc2 (v := (-2)) hx hb hown (hts _ m_k_MO_87) dMO_goes_51 ?_
          refine lv_iconst (v := 2) hx hb dMO_goes_54 (by decide) ?_
          refine k_V (wr := [(u1, .inl (cI, 8, .inl md)), (u2, .inl (cZ, 320, .inl dr)), (u3, .inl (cJ, 12, .inr (.inl an))), (u4, .inl (cI, 24, .inl (f_twoI 12 fl xfl))), (u5, .inl (cJ, 24, .inr (.inl (f_twoL 12 sm xsm))))]) (W1 := [(u0, .inr (7, [.int th, .ref u1, .ref u2, .ref u3, .ref u4, .ref u5, .ref u6, .ref u7, .ref u8, .ref u9, .ref u10])), (u1, .inl (cI, 8, .inl md)), (u2, .inl (cZ, 320, .inl dr)), (u3, .inl (cJ, 12, .inr (.inl an))), (u4, .inl (cI, 24, .inl (f_twoI 12 fl xfl))), (u5, .inl (cJ, 24, .inr (.inl (f_twoL 12 sm xsm)))), (u6, .inl (cI, 2, .inl (f_lo z (f_js xz)))), (u7, .inl (cJ, 128, .inr (.inl (f_wr lg xz (-2) 64)))), (u8, .inl (cJ, 16, .inr (.inl (f_twoL 8 tf (vp_updL xtf 2 (xtf 2 + 1))))))]) (st1 := [.long (-2)]) ⟨hx, hb, hml, hown, hts⟩ (k_MO_writes_1 l dC dI cI cJ cG cZ u0 u1 u2 u3 u4 u5 u6 u7 u8 u9 u10 th lg tf xtf z xz 2 (-2) hz (by decide)) (cwV 3 hts (k_gV m_l_MO_83 m_i_MO_writes m_s_MO_writes m_in_MO m_c_MO_writes) rfl rfl rfl (by decide +kernel) ⟨Nat.le_of_ble_eq_true rfl, Nat.le_of_ble_eq_true rfl⟩) hK hF hP hD hS hA [0, 6, 7, 8] [1, 2, 3, 4, 5] [5, 0, 1, 2, 3, 4, 6, 7, 8] rfl rfl (by decide) (by decide) (by decide) rfl (by decide) rfl rfl rfl rfl hl.1 rfl (Nat.le_of_ble_eq_true rfl) dMO_goes_55 ⟨Nat.le_of_ble_eq_true rfl, Nat.le_of_ble_eq_true rfl⟩ rfl (fun H locs hP hD hS => ?_)
          refine lv_goto (tgt := 70) hx hb dMO_goes_58 (by decide) ?_
          exact k_lret hx hb hr hlocks hP hK hD hS rfl dMO_goes_70 ⟨Nat.le_of_ble_eq_true rfl, Nat.le_of_ble_eq_true rfl⟩
        · refine lv_iload_n hx hb dMO_goes_38 rfl (lv_at hl 4 rfl) ?_
          refine lv_aload_n hx hb dMO_goes_39 rfl (lv_at hl 1 rfl) ?_
          refine va_get (D := (dC, dI)) (ci := 7) (v := .ref u1) (C := RMO) (T := TMO) (N := 11) hx hb hts inMO hown hK hP 0 rfl rfl 1 (by decide) (hts _ m_f_MO_7) (fun _ h9 => h9) rfl dMO_goes_40 ?_
          refine lv_iload hx hb dMO_goes_43 (lv_at hl 0 rfl) ?_
          refine k_ild (v := md (k % 8)) hx hb hK hP 1 0 rfl rfl (j := (k % 8)) rfl (Nat.mod_lt _ (by decide)) (by decide) rfl dMO_goes_45 ?_
          refine lv_icmp_le (tgt := 61) hx hb dMO_goes_46 (by decide) (fun c_4 => ?_) (fun c_4 => ?_)
          · exact absurd h1 (f_wm c_3 c_4)
          · refine lv_aload_n hx hb dMO_goes_49 rfl (lv_at hl 1 rfl) ?_
            refine lv_iload_n hx hb dMO_goes_50 rfl (lv_at hl 2 rfl) ?_
            refine lv_ldc2 (v := (-2)) hx hb hown (hts _ m_k_MO_87) dMO_goes_51 ?_
            refine lv_iconst (v := 2) hx hb dMO_goes_54 (by decide) ?_
            refine k_V (wr := [(u1, .inl (cI, 8, .inl md)), (u2, .inl (cZ, 320, .inl dr)), (u3, .inl (cJ, 12, .inr (.inl an))), (u4, .inl (cI, 24, .inl (f_twoI 12 fl xfl))), (u5, .inl (cJ, 24, .inr (.inl (f_twoL 12 sm xsm))))]) (W1 := [(u0, .inr (7, [.int th, .ref u1, .ref u2, .ref u3, .ref u4, .ref u5, .ref u6, .ref u7, .ref u8, .ref u9, .ref u10])), (u1, .inl (cI, 8, .inl md)), (u2, .inl (cZ, 320, .inl dr)), (u3, .inl (cJ, 12, .inr (.inl an))), (u4, .inl (cI, 24, .inl (f_twoI 12 fl xfl))), (u5, .inl (cJ, 24, .inr (.inl (f_twoL 12 sm xsm)))), (u6, .inl (cI, 2, .inl (f_lo z (f_js xz)))), (u7, .inl (cJ, 128, .inr (.inl (f_wr lg xz (-2) 64)))), (u8, .inl (cJ, 16, .inr (.inl (f_twoL 8 tf (vp_updL xtf 2 (xtf 2 + 1))))))]) (st1 := [.long (-2)]) ⟨hx, hb, hml, hown, hts⟩ (k_MO_writes_1 l dC dI cI cJ cG cZ u0 u1 u2 u3 u4 u5 u6 u7 u8 u9 u10 th lg tf xtf z xz 2 (-2) hz (by decide)) (cwV 3 hts (k_gV m_l_MO_83 m_i_MO_writes m_s_MO_writes m_in_MO m_c_MO_writes) rfl rfl rfl (by decide +kernel) ⟨Nat.le_of_ble_eq_true rfl, Nat.le_of_ble_eq_true rfl⟩) hK hF hP hD hS hA [0, 6, 7, 8] [1, 2, 3, 4, 5] [5, 0, 1, 2, 3, 4, 6, 7, 8] rfl rfl (by decide) (by decide) (by decide) rfl (by decide) rfl rfl rfl rfl hl.1 rfl (Nat.le_of_ble_eq_true rfl) dMO_goes_55 ⟨Nat.le_of_ble_eq_true rfl, Nat.le_of_ble_eq_true rfl⟩ rfl (fun H locs hP hD hS => ?_)
            refine lv_goto (tgt := 70) hx hb dMO_goes_58 (by decide) ?_
            exact k_lret hx hb hr hlocks hP hK hD hS rfl dMO_goes_70 ⟨Nat.le_of_ble_eq_true rfl, Nat.le_of_ble_eq_true rfl⟩
    · exact absurd c_1 (by rw [f_isPart_nI hk]; decide)
  · have e1 : f_cd md kn (nI k) n = 3 := by unfold f_cd; rw [if_neg (by rw [f_isPart_nI hk]; decide), nI_clamp (by omega), if_neg h1, if_pos h2]
    rw [show f_aS md kn xsm xfl (nI k) n v = xsm by unfold f_aS; rw [e1]; rfl, show f_aF md kn xfl (nI k) n = xfl by unfold f_aF; rw [e1]; rfl, show f_aT md kn xtf xfl (nI k) n = vp_updL xtf 3 (xtf 3 + 1) by unfold f_aT; rw [e1]; rfl, show f_aA md kn an xsm xfl (nI k) n v = -3 by unfold f_aA; rw [e1, if_neg (by decide)]; decide]
    refine k_of (cc := cMO_goes) (maxL := 9) (ret := (some .long)) (by decide) rfl (Nat.le_of_ble_eq_true rfl) ?_
    intro p e s m below meth c A ls hx hb hr hlocks hml hown hts hA hP hD hK hF hl hS
    have hown : s.vm.findClass RMO = some m.cls := hown
    have hl : lv_has ls 9 [(0, .ref u0), (1, .int 1), (2, .int (nI k)), (3, .int n), (4, .long v)] := hl
    refine lv_iload_n hx hb dMO_goes_0 rfl (lv_at hl 2 rfl) ?_
    refine k_S (wr := [(u0, .inr (7, [.int th, .ref u1, .ref u2, .ref u3, .ref u4, .ref u5, .ref u6, .ref u7, .ref u8, .ref u9, .ref u10])), (u1, .inl (cI, 8, .inl md)), (u2, .inl (cZ, 320, .inl dr)), (u3, .inl (cJ, 12, .inr (.inl an))), (u4, .inl (cI, 24, .inl (f_twoI 12 fl xfl))), (u5, .inl (cJ, 24, .inr (.inl (f_twoL 12 sm xsm)))), (u6, .inl (cI, 2, .inl (f_lo z xz))), (u7, .inl (cJ, 128, .inr (.inl lg))), (u8, .inl (cJ, 16, .inr (.inl (f_twoL 8 tf xtf))))]) (W1 := [(u0, .inr (7, [.int th, .ref u1, .ref u2, .ref u3, .ref u4, .ref u5, .ref u6, .ref u7, .ref u8, .ref u9, .ref u10])), (u1, .inl (cI, 8, .inl md)), (u2, .inl (cZ, 320, .inl dr)), (u3, .inl (cJ, 12, .inr (.inl an))), (u4, .inl (cI, 24, .inl (f_twoI 12 fl xfl))), (u5, .inl (cJ, 24, .inr (.inl (f_twoL 12 sm xsm)))), (u6, .inl (cI, 2, .inl (f_lo z xz))), (u7, .inl (cJ, 128, .inr (.inl lg))), (u8, .inl (cJ, 16, .inr (.inl (f_twoL 8 tf xtf))))]) (st1 := [.int (f_isPart (nI k))]) ⟨hx, hb, hml, hown, hts⟩ (k_MO_isPart l dC dI cI cJ cG cZ (nI k)) (va_cwS 1 hts (k_gS m_l_MO_66 m_st_MO_isPart m_in_MO m_c_MO_isPart) rfl rfl rfl (by decide +kernel) ⟨Nat.le_of_ble_eq_true rfl, Nat.le_of_ble_eq_true rfl⟩) hK hF hP hD hS hA [] [0, 1, 2, 3, 4, 5, 6, 7, 8] [0, 1, 2, 3, 4, 5, 6, 7, 8] rfl rfl (by decide) (by decide) (by decide) rfl (by decide) rfl hl.1 rfl (Nat.le_of_ble_eq_true rfl) dMO_goes_1 ⟨Nat.le_of_ble_eq_true rfl, Nat.le_of_ble_eq_true rfl⟩ rfl (fun H locs hP hD hS => ?_)
    refine lv_if_ne (tgt := 17) hx hb dMO_goes_4 (by decide) (fun c_1 => ?_) (fun c_1 => ?_)
    · refine lv_iload_n hx hb dMO_goes_17 rfl (lv_at hl 2 rfl) ?_
      refine lv_bipush (v := 8) hx hb dMO_goes_18 (by decide) ?_
      refine lv_irem hx hb dMO_goes_20 (by decide) ?_
      refine k_topi (y := nI (k % 8)) (pk_rem (a := k) (d := 8) (by omega) (by decide) (by decide)) ?_
      refine lv_istore (lv' := [(6, .int (nI (k % 8))), (0, .ref u0), (1, .int 1), (2, .int (nI k)), (3, .int n), (4, .long v)]) hx hb dMO_goes_21 hl (by decide) rfl (fun ls hl => ?_)
      refine lv_aload_n hx hb dMO_goes_23 rfl (lv_at hl 1 rfl) ?_
      refine lv_iload hx hb dMO_goes_24 (lv_at hl 0 rfl) ?_
      refine lv_iload_n hx hb dMO_goes_26 rfl (lv_at hl 4 rfl) ?_
      refine k_V (wr := [(u3, .inl (cJ, 12, .inr (.inl an))), (u4, .inl (cI, 24, .inl (f_twoI 12 fl xfl))), (u5, .inl (cJ, 24, .inr (.inl (f_twoL 12 sm xsm)))), (u6, .inl (cI, 2, .inl (f_lo z xz))), (u7, .inl (cJ, 128, .inr (.inl lg))), (u8, .inl (cJ, 16, .inr (.inl (f_twoL 8 tf xtf))))]) (W1 := [(u0, .inr (7, [.int th, .ref u1, .ref u2, .ref u3, .ref u4, .ref u5, .ref u6, .ref u7, .ref u8, .ref u9, .ref u10])), (u1, .inl (cI, 8, .inl md)), (u2, .inl (cZ, 320, .inl dr)), (u3, .inl (cJ, 12, .inr (.inl an))), (u4, .inl (cI, 24, .inl (f_twoI 12 fl xfl))), (u5, .inl (cJ, 24, .inr (.inl (f_twoL 12 sm xsm)))), (u6, .inl (cI, 2, .inl (f_lo z xz))), (u7, .inl (cJ, 128, .inr (.inl lg))), (u8, .inl (cJ, 16, .inr (.inl (f_twoL 8 tf xtf))))]) (st1 := [.int (f_isKnown md kn (k % 8) n)]) ⟨hx, hb, hml, hown, hts⟩ (k_MO_isKnown l dC dI cI cJ cG cZ u0 u1 u2 u3 u4 u5 u6 u7 u8 u9 u10 th md dr kn mn (k % 8) n hmn hkd (Nat.mod_lt _ (by decide))) (cwV 2 hts (k_gV m_l_MO_79 m_i_MO_isKnown m_s_MO_isKnown m_in_MO m_c_MO_isKnown) rfl rfl rfl (by decide +kernel) ⟨Nat.le_of_ble_eq_true rfl, Nat.le_of_ble_eq_true rfl⟩) hK hF hP hD hS hA [0, 1, 2] [3, 4, 5, 6, 7, 8] [6, 7, 8, 0, 1, 2, 3, 4, 5] rfl rfl (by decide) (by decide) (by decide) rfl (by decide) rfl rfl rfl rfl hl.1 rfl (Nat.le_of_ble_eq_true rfl) dMO_goes_27 ⟨Nat.le_of_ble_eq_true rfl, Nat.le_of_ble_eq_true rfl⟩ rfl (fun H locs hP hD hS => ?_)
      refine lv_if_ne (tgt := 71) hx hb dMO_goes_30 (by decide) (fun c_2 => ?_) (fun c_2 => ?_)
      · exact absurd h2 c_2
      · refine lv_iload_n hx hb dMO_goes_33 rfl (lv_at hl 4 rfl) ?_
        refine lv_iconst (v := 1) hx hb dMO_goes_34 (by decide) ?_
        refine lv_icmp_lt (tgt := 49) hx hb dMO_goes_35 (by decide) (fun c_3 => ?_) (fun c_3 => ?_)
        · exact absurd c_3 (f_wm1 h1).1
        · refine lv_iload_n hx hb dMO_goes_38 rfl (lv_at hl 4 rfl) ?_
          refine lv_aload_n hx hb dMO_goes_39 rfl (lv_at hl 1 rfl) ?_
          refine va_get (D := (dC, dI)) (ci := 7) (v := .ref u1) (C := RMO) (T := TMO) (N := 11) hx hb hts inMO hown hK hP 0 rfl rfl 1 (by decide) (hts _ m_f_MO_7) (fun _ h9 => h9) rfl dMO_goes_40 ?_
          refine lv_iload hx hb dMO_goes_43 (lv_at hl 0 rfl) ?_
          refine k_ild (v := md (k % 8)) hx hb hK hP 1 0 rfl rfl (j := (k % 8)) rfl (Nat.mod_lt _ (by decide)) (by decide) rfl dMO_goes_45 ?_
          refine lv_icmp_le (tgt := 61) hx hb dMO_goes_46 (by decide) (fun c_4 => ?_) (fun c_4 => ?_)
          · refine lv_aload_n hx hb dMO_goes_61 rfl (lv_at hl 1 rfl) ?_
            refine lv_iload_n hx hb dMO_goes_62 rfl (lv_at hl 2 rfl) ?_
            refine lv_ldc2 (v := (-3)) hx hb hown (hts _ m_k_MO_89) dMO_goes_63 ?_
            refine lv_iconst (v := 3) hx hb dMO_goes_66 (by decide) ?_
            refine k_V (wr := [(u1, .inl (cI, 8, .inl md)), (u2, .inl (cZ, 320, .inl dr)), (u3, .inl (cJ, 12, .inr (.inl an))), (u4, .inl (cI, 24, .inl (f_twoI 12 fl xfl))), (u5, .inl (cJ, 24, .inr (.inl (f_twoL 12 sm xsm))))]) (W1 := [(u0, .inr (7, [.int th, .ref u1, .ref u2, .ref u3, .ref u4, .ref u5, .ref u6, .ref u7, .ref u8, .ref u9, .ref u10])), (u1, .inl (cI, 8, .inl md)), (u2, .inl (cZ, 320, .inl dr)), (u3, .inl (cJ, 12, .inr (.inl an))), (u4, .inl (cI, 24, .inl (f_twoI 12 fl xfl))), (u5, .inl (cJ, 24, .inr (.inl (f_twoL 12 sm xsm)))), (u6, .inl (cI, 2, .inl (f_lo z (f_js xz)))), (u7, .inl (cJ, 128, .inr (.inl (f_wr lg xz (-3) 64)))), (u8, .inl (cJ, 16, .inr (.inl (f_twoL 8 tf (vp_updL xtf 3 (xtf 3 + 1))))))]) (st1 := [.long (-3)]) ⟨hx, hb, hml, hown, hts⟩ (k_MO_writes_1 l dC dI cI cJ cG cZ u0 u1 u2 u3 u4 u5 u6 u7 u8 u9 u10 th lg tf xtf z xz 3 (-3) hz (by decide)) (cwV 3 hts (k_gV m_l_MO_83 m_i_MO_writes m_s_MO_writes m_in_MO m_c_MO_writes) rfl rfl rfl (by decide +kernel) ⟨Nat.le_of_ble_eq_true rfl, Nat.le_of_ble_eq_true rfl⟩) hK hF hP hD hS hA [0, 6, 7, 8] [1, 2, 3, 4, 5] [5, 0, 1, 2, 3, 4, 6, 7, 8] rfl rfl (by decide) (by decide) (by decide) rfl (by decide) rfl rfl rfl rfl hl.1 rfl (Nat.le_of_ble_eq_true rfl) dMO_goes_67 ⟨Nat.le_of_ble_eq_true rfl, Nat.le_of_ble_eq_true rfl⟩ rfl (fun H locs hP hD hS => ?_)
            exact k_lret hx hb hr hlocks hP hK hD hS rfl dMO_goes_70 ⟨Nat.le_of_ble_eq_true rfl, Nat.le_of_ble_eq_true rfl⟩
          · exact absurd (f_wm1 h1).2 c_4
    · exact absurd c_1 (by rw [f_isPart_nI hk]; decide)
  · obtain ⟨h2, hf⟩ := h2
    have e1 : f_cd md kn (nI k) n = 0 := by unfold f_cd; rw [if_neg (by rw [f_isPart_nI hk]; decide), nI_clamp (by omega), if_neg h1, if_neg h2]
    rw [show f_aS md kn xsm xfl (nI k) n v = vp_updL xsm k (xsm k + v) by unfold f_aS f_apS; rw [if_pos e1, nI_clamp (by omega), if_pos hf], show f_aF md kn xfl (nI k) n = upd xfl k 0 by unfold f_aF; rw [if_pos e1, nI_clamp (by omega)], show f_aT md kn xtf xfl (nI k) n = vp_updL xtf 0 (xtf 0 + 1) by unfold f_aT f_apT; rw [if_pos e1, nI_clamp (by omega), if_pos hf], show f_aA md kn an xsm xfl (nI k) n v = an k + 3 * n.toInt64 + (xsm k + v) by unfold f_aA f_apA; rw [if_pos e1, nI_clamp (by omega), if_pos hf]]
    rw [show upd xfl k 0 = xfl by rw [← hf]; exact f_self]
    rw [show f_twoL 12 sm (vp_updL xsm k (xsm k + v)) = vp_updL (f_twoL 12 sm xsm) (12 + k) (f_twoL 12 sm xsm (12 + k) + v) by rw [f_uL1, f_tL1]]
    refine k_of (cc := cMO_goes) (maxL := 9) (ret := (some .long)) (by decide) rfl (Nat.le_of_ble_eq_true rfl) ?_
    intro p e s m below meth c A ls hx hb hr hlocks hml hown hts hA hP hD hK hF hl hS
    have hown : s.vm.findClass RMO = some m.cls := hown
    have hl : lv_has ls 9 [(0, .ref u0), (1, .int 1), (2, .int (nI k)), (3, .int n), (4, .long v)] := hl
    refine lv_iload_n hx hb dMO_goes_0 rfl (lv_at hl 2 rfl) ?_
    refine k_S (wr := [(u0, .inr (7, [.int th, .ref u1, .ref u2, .ref u3, .ref u4, .ref u5, .ref u6, .ref u7, .ref u8, .ref u9, .ref u10])), (u1, .inl (cI, 8, .inl md)), (u2, .inl (cZ, 320, .inl dr)), (u3, .inl (cJ, 12, .inr (.inl an))), (u4, .inl (cI, 24, .inl (f_twoI 12 fl xfl))), (u5, .inl (cJ, 24, .inr (.inl (f_twoL 12 sm xsm)))), (u6, .inl (cI, 2, .inl (f_lo z xz))), (u7, .inl (cJ, 128, .inr (.inl lg))), (u8, .inl (cJ, 16, .inr (.inl (f_twoL 8 tf xtf))))]) (W1 := [(u0, .inr (7, [.int th, .ref u1, .ref u2, .ref u3, .ref u4, .ref u5, .ref u6, .ref u7, .ref u8, .ref u9, .ref u10])), (u1, .inl (cI, 8, .inl md)), (u2, .inl (cZ, 320, .inl dr)), (u3, .inl (cJ, 12, .inr (.inl an))), (u4, .inl (cI, 24, .inl (f_twoI 12 fl xfl))), (u5, .inl (cJ, 24, .inr (.inl (f_twoL 12 sm xsm)))), (u6, .inl (cI, 2, .inl (f_lo z xz))), (u7, .inl (cJ, 128, .inr (.inl lg))), (u8, .inl (cJ, 16, .inr (.inl (f_twoL 8 tf xtf))))]) (st1 := [.int (f_isPart (nI k))]) ⟨hx, hb, hml, hown, hts⟩ (k_MO_isPart l dC dI cI cJ cG cZ (nI k)) (va_cwS 1 hts (k_gS m_l_MO_66 m_st_MO_isPart m_in_MO m_c_MO_isPart) rfl rfl rfl (by decide +kernel) ⟨Nat.le_of_ble_eq_true rfl, Nat.le_of_ble_eq_true rfl⟩) hK hF hP hD hS hA [] [0, 1, 2, 3, 4, 5, 6, 7, 8] [0, 1, 2, 3, 4, 5, 6, 7, 8] rfl rfl (by decide) (by decide) (by decide) rfl (by decide) rfl hl.1 rfl (Nat.le_of_ble_eq_true rfl) dMO_goes_1 ⟨Nat.le_of_ble_eq_true rfl, Nat.le_of_ble_eq_true rfl⟩ rfl (fun H locs hP hD hS => ?_)
    refine lv_if_ne (tgt := 17) hx hb dMO_goes_4 (by decide) (fun c_1 => ?_) (fun c_1 => ?_)
    · refine lv_iload_n hx hb dMO_goes_17 rfl (lv_at hl 2 rfl) ?_
      refine lv_bipush (v := 8) hx hb dMO_goes_18 (by decide) ?_
      refine lv_irem hx hb dMO_goes_20 (by decide) ?_
      refine k_topi (y := nI (k % 8)) (pk_rem (a := k) (d := 8) (by omega) (by decide) (by decide)) ?_
      refine lv_istore (lv' := [(6, .int (nI (k % 8))), (0, .ref u0), (1, .int 1), (2, .int (nI k)), (3, .int n), (4, .long v)]) hx hb dMO_goes_21 hl (by decide) rfl (fun ls hl => ?_)
      refine lv_aload_n hx hb dMO_goes_23 rfl (lv_at hl 1 rfl) ?_
      refine lv_iload hx hb dMO_goes_24 (lv_at hl 0 rfl) ?_
      refine lv_iload_n hx hb dMO_goes_26 rfl (lv_at hl 4 rfl) ?_
      refine k_V (wr := [(u3, .inl (cJ, 12, .inr (.inl an))), (u4, .inl (cI, 24, .inl (f_twoI 12 fl xfl))), (u5, .inl (cJ, 24, .inr (.inl (f_twoL 12 sm xsm)))), (u6, .inl (cI, 2, .inl (f_lo z xz))), (u7, .inl (cJ, 128, .inr (.inl lg))), (u8, .inl (cJ, 16, .inr (.inl (f_twoL 8 tf xtf))))]) (W1 := [(u0, .inr (7, [.int th, .ref u1, .ref u2, .ref u3, .ref u4, .ref u5, .ref u6, .ref u7, .ref u8, .ref u9, .ref u10])), (u1, .inl (cI, 8, .inl md)), (u2, .inl (cZ, 320, .inl dr)), (u3, .inl (cJ, 12, .inr (.inl an))), (u4, .inl (cI, 24, .inl (f_twoI 12 fl xfl))), (u5, .inl (cJ, 24, .inr (.inl (f_twoL 12 sm xsm)))), (u6, .inl (cI, 2, .inl (f_lo z xz))), (u7, .inl (cJ, 128, .inr (.inl lg))), (u8, .inl (cJ, 16, .inr (.inl (f_twoL 8 tf xtf))))]) (st1 := [.int (f_isKnown md kn (k % 8) n)]) ⟨hx, hb, hml, hown, hts⟩ (k_MO_isKnown l dC dI cI cJ cG cZ u0 u1 u2 u3 u4 u5 u6 u7 u8 u9 u10 th md dr kn mn (k % 8) n hmn hkd (Nat.mod_lt _ (by decide))) (cwV 2 hts (k_gV m_l_MO_79 m_i_MO_isKnown m_s_MO_isKnown m_in_MO m_c_MO_isKnown) rfl rfl rfl (by decide +kernel) ⟨Nat.le_of_ble_eq_true rfl, Nat.le_of_ble_eq_true rfl⟩) hK hF hP hD hS hA [0, 1, 2] [3, 4, 5, 6, 7, 8] [6, 7, 8, 0, 1, 2, 3, 4, 5] rfl rfl (by decide) (by decide) (by decide) rfl (by decide) rfl rfl rfl rfl hl.1 rfl (Nat.le_of_ble_eq_true rfl) dMO_goes_27 ⟨Nat.le_of_ble_eq_true rfl, Nat.le_of_ble_eq_true rfl⟩ rfl (fun H locs hP hD hS => ?_)
      refine lv_if_ne (tgt := 71) hx hb dMO_goes_30 (by decide) (fun c_2 => ?_) (fun c_2 => ?_)
      · refine lv_bipush (v := 12) hx hb dMO_goes_71 (by decide) ?_
        refine lv_iload_n hx hb dMO_goes_73 rfl (lv_at hl 2 rfl) ?_
        refine lv_imul hx hb dMO_goes_74 ?_
        refine lv_iload_n hx hb dMO_goes_75 rfl (lv_at hl 3 rfl) ?_
        refine lv_iadd hx hb dMO_goes_76 ?_
        refine k_topi (y := nI (12 + k)) (f_12b k) ?_
        refine lv_istore (lv' := [(7, .int (nI (12 + k))), (6, .int (nI (k % 8))), (0, .ref u0), (1, .int 1), (2, .int (nI k)), (3, .int n), (4, .long v)]) hx hb dMO_goes_77 hl (by decide) rfl (fun ls hl => ?_)
        refine lv_aload_n hx hb dMO_goes_79 rfl (lv_at hl 2 rfl) ?_
        refine va_get (D := (dC, dI)) (ci := 7) (v := .ref u4) (C := RMO) (T := TMO) (N := 11) hx hb hts inMO hown hK hP 0 rfl rfl 4 (by decide) (hts _ m_f_MO_21) (fun _ h9 => h9) rfl dMO_goes_80 ?_
        refine lv_iload hx hb dMO_goes_83 (lv_at hl 0 rfl) ?_
        refine k_ild (v := (f_twoI 12 fl xfl) (12 + k)) hx hb hK hP 4 0 rfl rfl (j := (12 + k)) rfl (by omega) (by decide) rfl dMO_goes_85 ?_
        refine k_topi (y := 0) ((f_tI1).trans hf) ?_
        refine lv_istore (lv' := [(8, .int 0), (7, .int (nI (12 + k))), (6, .int (nI (k % 8))), (0, .ref u0), (1, .int 1), (2, .int (nI k)), (3, .int n), (4, .long v)]) hx hb dMO_goes_86 hl (by decide) rfl (fun ls hl => ?_)
        refine lv_iload hx hb dMO_goes_88 (lv_at hl 0 rfl) ?_
        refine lv_if_le (tgt := 157) hx hb dMO_goes_90 (by decide) (fun c_3 => ?_) (fun c_3 => ?_)
        · refine lv_aload_n hx hb dMO_goes_157 rfl (lv_at hl 3 rfl) ?_
          refine va_get (D := (dC, dI)) (ci := 7) (v := .ref u5) (C := RMO) (T := TMO) (N := 11) hx hb hts inMO hown hK hP 0 rfl rfl 5 (by decide) (hts _ m_f_MO_24) (fun _ h9 => h9) rfl dMO_goes_158 ?_
          refine lv_iload hx hb dMO_goes_161 (lv_at hl 1 rfl) ?_
          refine lv_dup2_11 hx hb dMO_goes_163 rfl rfl ?_
          refine k_lld (v := (f_twoL 12 sm xsm) (12 + k)) hx hb hK hP 5 1 rfl rfl (j := (12 + k)) rfl (by omega) (by decide) rfl dMO_goes_164 ?_
          refine lv_lload hx hb dMO_goes_165 (lv_at hl 7 rfl) ?_
          refine lv_ladd hx hb dMO_goes_167 ?_
          refine k_lst (W1 := [(u0, .inr (7, [.int th, .ref u1, .ref u2, .ref u3, .ref u4, .ref u5, .ref u6, .ref u7, .ref u8, .ref u9, .ref u10])), (u1, .inl (cI, 8, .inl md)), (u2, .inl (cZ, 320, .inl dr)), (u3, .inl (cJ, 12, .inr (.inl an))), (u4, .inl (cI, 24, .inl (f_twoI 12 fl xfl))), (u5, .inl (cJ, 24, .inr (.inl (vp_updL (f_twoL 12 sm xsm) (12 + k) (((f_twoL 12 sm xsm) (12 + k)) + v))))), (u6, .inl (cI, 2, .inl (f_lo z xz))), (u7, .inl (cJ, 128, .inr (.inl lg))), (u8, .inl (cJ, 16, .inr (.inl (f_twoL 8 tf xtf))))]) hx hb hK hP hD hS 5 1 rfl rfl (j := (12 + k)) rfl (by omega) (by decide) rfl dMO_goes_168 (fun H locs hP hD hS => ?_)
          refine lv_aload_n hx hb dMO_goes_169 rfl (lv_at hl 3 rfl) ?_
          refine lv_iload_n hx hb dMO_goes_170 rfl (lv_at hl 4 rfl) ?_
          refine lv_aload_n hx hb dMO_goes_171 rfl (lv_at hl 3 rfl) ?_
          refine va_get (D := (dC, dI)) (ci := 7) (v := .ref u3) (C := RMO) (T := TMO) (N := 11) hx hb hts inMO hown hK hP 0 rfl rfl 3 (by decide) (hts _ m_f_MO_17) (fun _ h9 => h9) rfl dMO_goes_172 ?_
          refine lv_iload_n hx hb dMO_goes_175 rfl (lv_at hl 5 rfl) ?_
          refine k_lld (v := an k) hx hb hK hP 3 1 rfl rfl (j := k) rfl hk (by decide) rfl dMO_goes_176 ?_
          refine lv_ldc2 (v := 3) hx hb hown (hts _ m_k_MO_60) dMO_goes_177 ?_
          refine lv_iload_n hx hb dMO_goes_180 rfl (lv_at hl 6 rfl) ?_
          refine lv_i2l hx hb dMO_goes_181 rfl ?_
          refine lv_lmul hx hb dMO_goes_182 ?_
          refine lv_ladd hx hb dMO_goes_183 ?_
          refine lv_aload_n hx hb dMO_goes_184 rfl (lv_at hl 3 rfl) ?_
          refine va_get (D := (dC, dI)) (ci := 7) (v := .ref u5) (C := RMO) (T := TMO) (N := 11) hx hb hts inMO hown hK hP 0 rfl rfl 5 (by decide) (hts _ m_f_MO_24) (fun _ h9 => h9) rfl dMO_goes_185 ?_
          refine lv_iload hx hb dMO_goes_188 (lv_at hl 1 rfl) ?_
          refine k_lld (v := (((f_twoL 12 sm xsm) (12 + k)) + v)) hx hb hK hP 5 1 rfl rfl (j := (12 + k)) rfl (by omega) (by decide) pk_uLs dMO_goes_190 ?_
          refine lv_ladd hx hb dMO_goes_191 ?_
          refine k_topl (y := an k + 3 * n.toInt64 + (xsm k + v)) (by rw [f_tL1]) ?_
          refine lv_iconst (v := 0) hx hb dMO_goes_192 (by decide) ?_
          refine k_V (wr := [(u1, .inl (cI, 8, .inl md)), (u2, .inl (cZ, 320, .inl dr)), (u3, .inl (cJ, 12, .inr (.inl an))), (u4, .inl (cI, 24, .inl (f_twoI 12 fl xfl))), (u5, .inl (cJ, 24, .inr (.inl (vp_updL (f_twoL 12 sm xsm) (12 + k) (((f_twoL 12 sm xsm) (12 + k)) + v)))))]) (W1 := [(u0, .inr (7, [.int th, .ref u1, .ref u2, .ref u3, .ref u4, .ref u5, .ref u6, .ref u7, .ref u8, .ref u9, .ref u10])), (u1, .inl (cI, 8, .inl md)), (u2, .inl (cZ, 320, .inl dr)), (u3, .inl (cJ, 12, .inr (.inl an))), (u4, .inl (cI, 24, .inl (f_twoI 12 fl xfl))), (u5, .inl (cJ, 24, .inr (.inl (vp_updL (f_twoL 12 sm xsm) (12 + k) (((f_twoL 12 sm xsm) (12 + k)) + v))))), (u6, .inl (cI, 2, .inl (f_lo z (f_js xz)))), (u7, .inl (cJ, 128, .inr (.inl (f_wr lg xz (an k + 3 * n.toInt64 + (xsm k + v)) 64)))), (u8, .inl (cJ, 16, .inr (.inl (f_twoL 8 tf (vp_updL xtf 0 (xtf 0 + 1))))))]) (st1 := [.long (an k + 3 * n.toInt64 + (xsm k + v))]) ⟨hx, hb, hml, hown, hts⟩ (k_MO_writes_1 l dC dI cI cJ cG cZ u0 u1 u2 u3 u4 u5 u6 u7 u8 u9 u10 th lg tf xtf z xz 0 (an k + 3 * n.toInt64 + (xsm k + v)) hz (by decide)) (cwV 3 hts (k_gV m_l_MO_83 m_i_MO_writes m_s_MO_writes m_in_MO m_c_MO_writes) rfl rfl rfl (by decide +kernel) ⟨Nat.le_of_ble_eq_true rfl, Nat.le_of_ble_eq_true rfl⟩) hK hF hP hD hS hA [0, 6, 7, 8] [1, 2, 3, 4, 5] [5, 0, 1, 2, 3, 4, 6, 7, 8] rfl rfl (by decide) (by decide) (by decide) rfl (by decide) rfl rfl rfl rfl hl.1 rfl (Nat.le_of_ble_eq_true rfl) dMO_goes_193 ⟨Nat.le_of_ble_eq_true rfl, Nat.le_of_ble_eq_true rfl⟩ rfl (fun H locs hP hD hS => ?_)
          exact k_lret hx hb hr hlocks hP hK hD hS rfl dMO_goes_196 ⟨Nat.le_of_ble_eq_true rfl, Nat.le_of_ble_eq_true rfl⟩
        · exact absurd (by decide) c_3
      · exact absurd c_2 h2
    · exact absurd c_1 (by rw [f_isPart_nI hk]; decide)
  · obtain ⟨h2, hf⟩ := h2
    have hn : ¬ xfl k = 0 := by rw [hf]; decide
    have e1 : f_cd md kn (nI k) n = 0 := by unfold f_cd; rw [if_neg (by rw [f_isPart_nI hk]; decide), nI_clamp (by omega), if_neg h1, if_neg h2]
    rw [show f_aS md kn xsm xfl (nI k) n v = xsm by unfold f_aS f_apS; rw [if_pos e1, nI_clamp (by omega), if_neg hn], show f_aF md kn xfl (nI k) n = upd xfl k 0 by unfold f_aF; rw [if_pos e1, nI_clamp (by omega)], show f_aT md kn xtf xfl (nI k) n = vp_updL (vp_updL (vp_updL (vp_updL xtf 5 ((1 : Int32).toInt64)) 6 ((nI k).toInt64)) 7 (n.toInt64)) 4 ((vp_updL (vp_updL (vp_updL xtf 5 ((1 : Int32).toInt64)) 6 ((nI k).toInt64)) 7 (n.toInt64)) 4 + 1) by unfold f_aT f_apT; rw [if_pos e1, nI_clamp (by omega), if_neg hn, hf]; exact f_tellT _ _ _ _, show f_aA md kn an xsm xfl (nI k) n v = (-100 - (1 : Int32)).toInt64 by unfold f_aA f_apA; rw [if_pos e1, nI_clamp (by omega), if_neg hn, hf]]
    rw [show f_twoI 12 fl (upd xfl k 0) = upd (f_twoI 12 fl xfl) (12 + k) 0 from f_uI1]
    refine k_of (cc := cMO_goes) (maxL := 9) (ret := (some .long)) (by decide) rfl (Nat.le_of_ble_eq_true rfl) ?_
    intro p e s m below meth c A ls hx hb hr hlocks hml hown hts hA hP hD hK hF hl hS
    have hown : s.vm.findClass RMO = some m.cls := hown
    have hl : lv_has ls 9 [(0, .ref u0), (1, .int 1), (2, .int (nI k)), (3, .int n), (4, .long v)] := hl
    refine lv_iload_n hx hb dMO_goes_0 rfl (lv_at hl 2 rfl) ?_
    refine k_S (wr := [(u0, .inr (7, [.int th, .ref u1, .ref u2, .ref u3, .ref u4, .ref u5, .ref u6, .ref u7, .ref u8, .ref u9, .ref u10])), (u1, .inl (cI, 8, .inl md)), (u2, .inl (cZ, 320, .inl dr)), (u3, .inl (cJ, 12, .inr (.inl an))), (u4, .inl (cI, 24, .inl (f_twoI 12 fl xfl))), (u5, .inl (cJ, 24, .inr (.inl (f_twoL 12 sm xsm)))), (u6, .inl (cI, 2, .inl (f_lo z xz))), (u7, .inl (cJ, 128, .inr (.inl lg))), (u8, .inl (cJ, 16, .inr (.inl (f_twoL 8 tf xtf))))]) (W1 := [(u0, .inr (7, [.int th, .ref u1, .ref u2, .ref u3, .ref u4, .ref u5, .ref u6, .ref u7, .ref u8, .ref u9, .ref u10])), (u1, .inl (cI, 8, .inl md)), (u2, .inl (cZ, 320, .inl dr)), (u3, .inl (cJ, 12, .inr (.inl an))), (u4, .inl (cI, 24, .inl (f_twoI 12 fl xfl))), (u5, .inl (cJ, 24, .inr (.inl (f_twoL 12 sm xsm)))), (u6, .inl (cI, 2, .inl (f_lo z xz))), (u7, .inl (cJ, 128, .inr (.inl lg))), (u8, .inl (cJ, 16, .inr (.inl (f_twoL 8 tf xtf))))]) (st1 := [.int (f_isPart (nI k))]) ⟨hx, hb, hml, hown, hts⟩ (k_MO_isPart l dC dI cI cJ cG cZ (nI k)) (va_cwS 1 hts (k_gS m_l_MO_66 m_st_MO_isPart m_in_MO m_c_MO_isPart) rfl rfl rfl (by decide +kernel) ⟨Nat.le_of_ble_eq_true rfl, Nat.le_of_ble_eq_true rfl⟩) hK hF hP hD hS hA [] [0, 1, 2, 3, 4, 5, 6, 7, 8] [0, 1, 2, 3, 4, 5, 6, 7, 8] rfl rfl (by decide) (by decide) (by decide) rfl (by decide) rfl hl.1 rfl (Nat.le_of_ble_eq_true rfl) dMO_goes_1 ⟨Nat.le_of_ble_eq_true rfl, Nat.le_of_ble_eq_true rfl⟩ rfl (fun H locs hP hD hS => ?_)
    refine lv_if_ne (tgt := 17) hx hb dMO_goes_4 (by decide) (fun c_1 => ?_) (fun c_1 => ?_)
    · refine lv_iload_n hx hb dMO_goes_17 rfl (lv_at hl 2 rfl) ?_
      refine lv_bipush (v := 8) hx hb dMO_goes_18 (by decide) ?_
      refine lv_irem hx hb dMO_goes_20 (by decide) ?_
      refine k_topi (y := nI (k % 8)) (pk_rem (a := k) (d := 8) (by omega) (by decide) (by decide)) ?_
      refine lv_istore (lv' := [(6, .int (nI (k % 8))), (0, .ref u0), (1, .int 1), (2, .int (nI k)), (3, .int n), (4, .long v)]) hx hb dMO_goes_21 hl (by decide) rfl (fun ls hl => ?_)
      refine lv_aload_n hx hb dMO_goes_23 rfl (lv_at hl 1 rfl) ?_
      refine lv_iload hx hb dMO_goes_24 (lv_at hl 0 rfl) ?_
      refine lv_iload_n hx hb dMO_goes_26 rfl (lv_at hl 4 rfl) ?_
      refine k_V (wr := [(u3, .inl (cJ, 12, .inr (.inl an))), (u4, .inl (cI, 24, .inl (f_twoI 12 fl xfl))), (u5, .inl (cJ, 24, .inr (.inl (f_twoL 12 sm xsm)))), (u6, .inl (cI, 2, .inl (f_lo z xz))), (u7, .inl (cJ, 128, .inr (.inl lg))), (u8, .inl (cJ, 16, .inr (.inl (f_twoL 8 tf xtf))))]) (W1 := [(u0, .inr (7, [.int th, .ref u1, .ref u2, .ref u3, .ref u4, .ref u5, .ref u6, .ref u7, .ref u8, .ref u9, .ref u10])), (u1, .inl (cI, 8, .inl md)), (u2, .inl (cZ, 320, .inl dr)), (u3, .inl (cJ, 12, .inr (.inl an))), (u4, .inl (cI, 24, .inl (f_twoI 12 fl xfl))), (u5, .inl (cJ, 24, .inr (.inl (f_twoL 12 sm xsm)))), (u6, .inl (cI, 2, .inl (f_lo z xz))), (u7, .inl (cJ, 128, .inr (.inl lg))), (u8, .inl (cJ, 16, .inr (.inl (f_twoL 8 tf xtf))))]) (st1 := [.int (f_isKnown md kn (k % 8) n)]) ⟨hx, hb, hml, hown, hts⟩ (k_MO_isKnown l dC dI cI cJ cG cZ u0 u1 u2 u3 u4 u5 u6 u7 u8 u9 u10 th md dr kn mn (k % 8) n hmn hkd (Nat.mod_lt _ (by decide))) (cwV 2 hts (k_gV m_l_MO_79 m_i_MO_isKnown m_s_MO_isKnown m_in_MO m_c_MO_isKnown) rfl rfl rfl (by decide +kernel) ⟨Nat.le_of_ble_eq_true rfl, Nat.le_of_ble_eq_true rfl⟩) hK hF hP hD hS hA [0, 1, 2] [3, 4, 5, 6, 7, 8] [6, 7, 8, 0, 1, 2, 3, 4, 5] rfl rfl (by decide) (by decide) (by decide) rfl (by decide) rfl rfl rfl rfl hl.1 rfl (Nat.le_of_ble_eq_true rfl) dMO_goes_27 ⟨Nat.le_of_ble_eq_true rfl, Nat.le_of_ble_eq_true rfl⟩ rfl (fun H locs hP hD hS => ?_)
      refine lv_if_ne (tgt := 71) hx hb dMO_goes_30 (by decide) (fun c_2 => ?_) (fun c_2 => ?_)
      · refine lv_bipush (v := 12) hx hb dMO_goes_71 (by decide) ?_
        refine lv_iload_n hx hb dMO_goes_73 rfl (lv_at hl 2 rfl) ?_
        refine lv_imul hx hb dMO_goes_74 ?_
        refine lv_iload_n hx hb dMO_goes_75 rfl (lv_at hl 3 rfl) ?_
        refine lv_iadd hx hb dMO_goes_76 ?_
        refine k_topi (y := nI (12 + k)) (f_12b k) ?_
        refine lv_istore (lv' := [(7, .int (nI (12 + k))), (6, .int (nI (k % 8))), (0, .ref u0), (1, .int 1), (2, .int (nI k)), (3, .int n), (4, .long v)]) hx hb dMO_goes_77 hl (by decide) rfl (fun ls hl => ?_)
        refine lv_aload_n hx hb dMO_goes_79 rfl (lv_at hl 2 rfl) ?_
        refine va_get (D := (dC, dI)) (ci := 7) (v := .ref u4) (C := RMO) (T := TMO) (N := 11) hx hb hts inMO hown hK hP 0 rfl rfl 4 (by decide) (hts _ m_f_MO_21) (fun _ h9 => h9) rfl dMO_goes_80 ?_
        refine lv_iload hx hb dMO_goes_83 (lv_at hl 0 rfl) ?_
        refine k_ild (v := (f_twoI 12 fl xfl) (12 + k)) hx hb hK hP 4 0 rfl rfl (j := (12 + k)) rfl (by omega) (by decide) rfl dMO_goes_85 ?_
        refine k_topi (y := 1) ((f_tI1).trans hf) ?_
        refine lv_istore (lv' := [(8, .int 1), (7, .int (nI (12 + k))), (6, .int (nI (k % 8))), (0, .ref u0), (1, .int 1), (2, .int (nI k)), (3, .int n), (4, .long v)]) hx hb dMO_goes_86 hl (by decide) rfl (fun ls hl => ?_)
        refine lv_iload hx hb dMO_goes_88 (lv_at hl 0 rfl) ?_
        refine lv_if_le (tgt := 157) hx hb dMO_goes_90 (by decide) (fun c_3 => ?_) (fun c_3 => ?_)
        · exact absurd c_3 (by decide)
        · refine lv_aload_n hx hb dMO_goes_93 rfl (lv_at hl 3 rfl) ?_
          refine va_get (D := (dC, dI)) (ci := 7) (v := .ref u4) (C := RMO) (T := TMO) (N := 11) hx hb hts inMO hown hK hP 0 rfl rfl 4 (by decide) (hts _ m_f_MO_21) (fun _ h9 => h9) rfl dMO_goes_94 ?_
          refine lv_iload hx hb dMO_goes_97 (lv_at hl 1 rfl) ?_
          refine lv_iconst (v := 0) hx hb dMO_goes_99 (by decide) ?_
          refine k_ist (W1 := [(u0, .inr (7, [.int th, .ref u1, .ref u2, .ref u3, .ref u4, .ref u5, .ref u6, .ref u7, .ref u8, .ref u9, .ref u10])), (u1, .inl (cI, 8, .inl md)), (u2, .inl (cZ, 320, .inl dr)), (u3, .inl (cJ, 12, .inr (.inl an))), (u4, .inl (cI, 24, .inl (upd (f_twoI 12 fl xfl) (12 + k) 0))), (u5, .inl (cJ, 24, .inr (.inl (f_twoL 12 sm xsm)))), (u6, .inl (cI, 2, .inl (f_lo z xz))), (u7, .inl (cJ, 128, .inr (.inl lg))), (u8, .inl (cJ, 16, .inr (.inl (f_twoL 8 tf xtf))))]) hx hb hK hP hD hS 4 0 rfl rfl (j := (12 + k)) rfl (by omega) (by decide) rfl dMO_goes_100 (fun H locs hP hD hS => ?_)
          refine lv_aload_n hx hb dMO_goes_101 rfl (lv_at hl 3 rfl) ?_
          refine va_get (D := (dC, dI)) (ci := 7) (v := .ref u8) (C := RMO) (T := TMO) (N := 11) hx hb hts inMO hown hK hP 0 rfl rfl 8 (by decide) (hts _ m_f_MO_33) (fun _ h9 => h9) rfl dMO_goes_102 ?_
          refine lv_bipush (v := 8) hx hb dMO_goes_105 (by decide) ?_
          refine lv_iload_n hx hb dMO_goes_107 rfl (lv_at hl 4 rfl) ?_
          refine lv_imul hx hb dMO_goes_108 ?_
          refine lv_iconst (v := 5) hx hb dMO_goes_109 (by decide) ?_
          refine lv_iadd hx hb dMO_goes_110 ?_
          refine lv_iload hx hb dMO_goes_111 (lv_at hl 0 rfl) ?_
          refine lv_i2l hx hb dMO_goes_113 rfl ?_
          refine k_lst (W1 := [(u0, .inr (7, [.int th, .ref u1, .ref u2, .ref u3, .ref u4, .ref u5, .ref u6, .ref u7, .ref u8, .ref u9, .ref u10])), (u1, .inl (cI, 8, .inl md)), (u2, .inl (cZ, 320, .inl dr)), (u3, .inl (cJ, 12, .inr (.inl an))), (u4, .inl (cI, 24, .inl (upd (f_twoI 12 fl xfl) (12 + k) 0))), (u5, .inl (cJ, 24, .inr (.inl (f_twoL 12 sm xsm)))), (u6, .inl (cI, 2, .inl (f_lo z xz))), (u7, .inl (cJ, 128, .inr (.inl lg))), (u8, .inl (cJ, 16, .inr (.inl (vp_updL (f_twoL 8 tf xtf) (8 + 5) ((1 : Int32).toInt64)))))]) hx hb hK hP hD hS 8 1 rfl rfl (j := (8 + 5)) (by decide) (by decide) (by decide) rfl dMO_goes_114 (fun H locs hP hD hS => ?_)
          refine lv_aload_n hx hb dMO_goes_115 rfl (lv_at hl 3 rfl) ?_
          refine va_get (D := (dC, dI)) (ci := 7) (v := .ref u8) (C := RMO) (T := TMO) (N := 11) hx hb hts inMO hown hK hP 0 rfl rfl 8 (by decide) (hts _ m_f_MO_33) (fun _ h9 => h9) rfl dMO_goes_116 ?_
          refine lv_bipush (v := 8) hx hb dMO_goes_119 (by decide) ?_
          refine lv_iload_n hx hb dMO_goes_121 rfl (lv_at hl 4 rfl) ?_
          refine lv_imul hx hb dMO_goes_122 ?_
          refine lv_bipush (v := 6) hx hb dMO_goes_123 (by decide) ?_
          refine lv_iadd hx hb dMO_goes_125 ?_
          refine lv_iload_n hx hb dMO_goes_126 rfl (lv_at hl 5 rfl) ?_
          refine lv_i2l hx hb dMO_goes_127 rfl ?_
          refine k_lst (W1 := [(u0, .inr (7, [.int th, .ref u1, .ref u2, .ref u3, .ref u4, .ref u5, .ref u6, .ref u7, .ref u8, .ref u9, .ref u10])), (u1, .inl (cI, 8, .inl md)), (u2, .inl (cZ, 320, .inl dr)), (u3, .inl (cJ, 12, .inr (.inl an))), (u4, .inl (cI, 24, .inl (upd (f_twoI 12 fl xfl) (12 + k) 0))), (u5, .inl (cJ, 24, .inr (.inl (f_twoL 12 sm xsm)))), (u6, .inl (cI, 2, .inl (f_lo z xz))), (u7, .inl (cJ, 128, .inr (.inl lg))), (u8, .inl (cJ, 16, .inr (.inl (vp_updL (vp_updL (f_twoL 8 tf xtf) (8 + 5) ((1 : Int32).toInt64)) (8 + 6) ((nI k).toInt64)))))]) hx hb hK hP hD hS 8 1 rfl rfl (j := (8 + 6)) (by decide) (by decide) (by decide) rfl dMO_goes_128 (fun H locs hP hD hS => ?_)
          refine lv_aload_n hx hb dMO_goes_129 rfl (lv_at hl 3 rfl) ?_
          refine va_get (D := (dC, dI)) (ci := 7) (v := .ref u8) (C := RMO) (T := TMO) (N := 11) hx hb hts inMO hown hK hP 0 rfl rfl 8 (by decide) (hts _ m_f_MO_33) (fun _ h9 => h9) rfl dMO_goes_130 ?_
          refine lv_bipush (v := 8) hx hb dMO_goes_133 (by decide) ?_
          refine lv_iload_n hx hb dMO_goes_135 rfl (lv_at hl 4 rfl) ?_
          refine lv_imul hx hb dMO_goes_136 ?_
          refine lv_bipush (v := 7) hx hb dMO_goes_137 (by decide) ?_
          refine lv_iadd hx hb dMO_goes_139 ?_
          refine lv_iload_n hx hb dMO_goes_140 rfl (lv_at hl 6 rfl) ?_
          refine lv_i2l hx hb dMO_goes_141 rfl ?_
          refine k_lst (W1 := [(u0, .inr (7, [.int th, .ref u1, .ref u2, .ref u3, .ref u4, .ref u5, .ref u6, .ref u7, .ref u8, .ref u9, .ref u10])), (u1, .inl (cI, 8, .inl md)), (u2, .inl (cZ, 320, .inl dr)), (u3, .inl (cJ, 12, .inr (.inl an))), (u4, .inl (cI, 24, .inl (upd (f_twoI 12 fl xfl) (12 + k) 0))), (u5, .inl (cJ, 24, .inr (.inl (f_twoL 12 sm xsm)))), (u6, .inl (cI, 2, .inl (f_lo z xz))), (u7, .inl (cJ, 128, .inr (.inl lg))), (u8, .inl (cJ, 16, .inr (.inl (vp_updL (vp_updL (vp_updL (f_twoL 8 tf xtf) (8 + 5) ((1 : Int32).toInt64)) (8 + 6) ((nI k).toInt64)) (8 + 7) n.toInt64))))]) hx hb hK hP hD hS 8 1 rfl rfl (j := (8 + 7)) (by decide) (by decide) (by decide) rfl dMO_goes_142 (fun H locs hP hD hS => ?_)
          have hP := k_cvP (W1 := [(u0, .inr (7, [.int th, .ref u1, .ref u2, .ref u3, .ref u4, .ref u5, .ref u6, .ref u7, .ref u8, .ref u9, .ref u10])), (u1, .inl (cI, 8, .inl md)), (u2, .inl (cZ, 320, .inl dr)), (u3, .inl (cJ, 12, .inr (.inl an))), (u4, .inl (cI, 24, .inl (upd (f_twoI 12 fl xfl) (12 + k) 0))), (u5, .inl (cJ, 24, .inr (.inl (f_twoL 12 sm xsm)))), (u6, .inl (cI, 2, .inl (f_lo z xz))), (u7, .inl (cJ, 128, .inr (.inl lg))), (u8, .inl (cJ, 16, .inr (.inl (f_twoL 8 tf (vp_updL (vp_updL (vp_updL xtf 5 ((1 : Int32).toInt64)) 6 ((nI k).toInt64)) 7 (n.toInt64))))))]) (by rw [show f_twoL 8 tf (vp_updL (vp_updL (vp_updL xtf 5 ((1 : Int32).toInt64)) 6 ((nI k).toInt64)) 7 (n.toInt64)) = vp_updL (vp_updL (vp_updL (f_twoL 8 tf xtf) (8 + 5) ((1 : Int32).toInt64)) (8 + 6) ((nI k).toInt64)) (8 + 7) n.toInt64 by rw [f_uL1, f_uL1, f_uL1]]) hP
          have hD := k_cvD (W1 := [(u0, .inr (7, [.int th, .ref u1, .ref u2, .ref u3, .ref u4, .ref u5, .ref u6, .ref u7, .ref u8, .ref u9, .ref u10])), (u1, .inl (cI, 8, .inl md)), (u2, .inl (cZ, 320, .inl dr)), (u3, .inl (cJ, 12, .inr (.inl an))), (u4, .inl (cI, 24, .inl (upd (f_twoI 12 fl xfl) (12 + k) 0))), (u5, .inl (cJ, 24, .inr (.inl (f_twoL 12 sm xsm)))), (u6, .inl (cI, 2, .inl (f_lo z xz))), (u7, .inl (cJ, 128, .inr (.inl lg))), (u8, .inl (cJ, 16, .inr (.inl (f_twoL 8 tf (vp_updL (vp_updL (vp_updL xtf 5 ((1 : Int32).toInt64)) 6 ((nI k).toInt64)) 7 (n.toInt64))))))]) (by rw [show f_twoL 8 tf (vp_updL (vp_updL (vp_updL xtf 5 ((1 : Int32).toInt64)) 6 ((nI k).toInt64)) 7 (n.toInt64)) = vp_updL (vp_updL (vp_updL (f_twoL 8 tf xtf) (8 + 5) ((1 : Int32).toInt64)) (8 + 6) ((nI k).toInt64)) (8 + 7) n.toInt64 by rw [f_uL1, f_uL1, f_uL1]]) hD
          refine lv_aload_n hx hb dMO_goes_143 rfl (lv_at hl 3 rfl) ?_
          refine lv_iload_n hx hb dMO_goes_144 rfl (lv_at hl 4 rfl) ?_
          refine lv_ldc2 (v := (-100)) hx hb hown (hts _ m_k_MO_91) dMO_goes_145 ?_
          refine lv_iload hx hb dMO_goes_148 (lv_at hl 0 rfl) ?_
          refine lv_i2l hx hb dMO_goes_150 rfl ?_
          refine lv_lsub hx hb dMO_goes_151 ?_
          refine k_topl (y := (-100 - (1 : Int32)).toInt64) (by decide) ?_
          refine lv_iconst (v := 4) hx hb dMO_goes_152 (by decide) ?_
          refine k_V (wr := [(u1, .inl (cI, 8, .inl md)), (u2, .inl (cZ, 320, .inl dr)), (u3, .inl (cJ, 12, .inr (.inl an))), (u4, .inl (cI, 24, .inl (upd (f_twoI 12 fl xfl) (12 + k) 0))), (u5, .inl (cJ, 24, .inr (.inl (f_twoL 12 sm xsm))))]) (W1 := [(u0, .inr (7, [.int th, .ref u1, .ref u2, .ref u3, .ref u4, .ref u5, .ref u6, .ref u7, .ref u8, .ref u9, .ref u10])), (u1, .inl (cI, 8, .inl md)), (u2, .inl (cZ, 320, .inl dr)), (u3, .inl (cJ, 12, .inr (.inl an))), (u4, .inl (cI, 24, .inl (upd (f_twoI 12 fl xfl) (12 + k) 0))), (u5, .inl (cJ, 24, .inr (.inl (f_twoL 12 sm xsm)))), (u6, .inl (cI, 2, .inl (f_lo z (f_js xz)))), (u7, .inl (cJ, 128, .inr (.inl (f_wr lg xz ((-100 - (1 : Int32)).toInt64) 64)))), (u8, .inl (cJ, 16, .inr (.inl (f_twoL 8 tf (vp_updL (vp_updL (vp_updL (vp_updL xtf 5 ((1 : Int32).toInt64)) 6 ((nI k).toInt64)) 7 (n.toInt64)) 4 ((vp_updL (vp_updL (vp_updL xtf 5 ((1 : Int32).toInt64)) 6 ((nI k).toInt64)) 7 (n.toInt64)) 4 + 1))))))]) (st1 := [.long ((-100 - (1 : Int32)).toInt64)]) ⟨hx, hb, hml, hown, hts⟩ (k_MO_writes_1 l dC dI cI cJ cG cZ u0 u1 u2 u3 u4 u5 u6 u7 u8 u9 u10 th lg tf (vp_updL (vp_updL (vp_updL xtf 5 ((1 : Int32).toInt64)) 6 ((nI k).toInt64)) 7 (n.toInt64)) z xz 4 ((-100 - (1 : Int32)).toInt64) hz (by decide)) (cwV 3 hts (k_gV m_l_MO_83 m_i_MO_writes m_s_MO_writes m_in_MO m_c_MO_writes) rfl rfl rfl (by decide +kernel) ⟨Nat.le_of_ble_eq_true rfl, Nat.le_of_ble_eq_true rfl⟩) hK hF hP hD hS hA [0, 6, 7, 8] [1, 2, 3, 4, 5] [5, 0, 1, 2, 3, 4, 6, 7, 8] rfl rfl (by decide) (by decide) (by decide) rfl (by decide) rfl rfl rfl rfl hl.1 rfl (Nat.le_of_ble_eq_true rfl) dMO_goes_153 ⟨Nat.le_of_ble_eq_true rfl, Nat.le_of_ble_eq_true rfl⟩ rfl (fun H locs hP hD hS => ?_)
          exact k_lret hx hb hr hlocks hP hK hD hS rfl dMO_goes_156 ⟨Nat.le_of_ble_eq_true rfl, Nat.le_of_ble_eq_true rfl⟩
      · exact absurd c_2 h2
    · exact absurd c_1 (by rw [f_isPart_nI hk]; decide)
  · obtain ⟨h2, hf⟩ := h2
    have hn : ¬ xfl k = 0 := by rw [hf]; decide
    have e1 : f_cd md kn (nI k) n = 0 := by unfold f_cd; rw [if_neg (by rw [f_isPart_nI hk]; decide), nI_clamp (by omega), if_neg h1, if_neg h2]
    rw [show f_aS md kn xsm xfl (nI k) n v = xsm by unfold f_aS f_apS; rw [if_pos e1, nI_clamp (by omega), if_neg hn], show f_aF md kn xfl (nI k) n = upd xfl k 0 by unfold f_aF; rw [if_pos e1, nI_clamp (by omega)], show f_aT md kn xtf xfl (nI k) n = vp_updL (vp_updL (vp_updL (vp_updL xtf 5 ((2 : Int32).toInt64)) 6 ((nI k).toInt64)) 7 (n.toInt64)) 4 ((vp_updL (vp_updL (vp_updL xtf 5 ((2 : Int32).toInt64)) 6 ((nI k).toInt64)) 7 (n.toInt64)) 4 + 1) by unfold f_aT f_apT; rw [if_pos e1, nI_clamp (by omega), if_neg hn, hf]; exact f_tellT _ _ _ _, show f_aA md kn an xsm xfl (nI k) n v = (-100 - (2 : Int32)).toInt64 by unfold f_aA f_apA; rw [if_pos e1, nI_clamp (by omega), if_neg hn, hf]]
    rw [show f_twoI 12 fl (upd xfl k 0) = upd (f_twoI 12 fl xfl) (12 + k) 0 from f_uI1]
    refine k_of (cc := cMO_goes) (maxL := 9) (ret := (some .long)) (by decide) rfl (Nat.le_of_ble_eq_true rfl) ?_
    intro p e s m below meth c A ls hx hb hr hlocks hml hown hts hA hP hD hK hF hl hS
    have hown : s.vm.findClass RMO = some m.cls := hown
    have hl : lv_has ls 9 [(0, .ref u0), (1, .int 1), (2, .int (nI k)), (3, .int n), (4, .long v)] := hl
    refine lv_iload_n hx hb dMO_goes_0 rfl (lv_at hl 2 rfl) ?_
    refine k_S (wr := [(u0, .inr (7, [.int th, .ref u1, .ref u2, .ref u3, .ref u4, .ref u5, .ref u6, .ref u7, .ref u8, .ref u9, .ref u10])), (u1, .inl (cI, 8, .inl md)), (u2, .inl (cZ, 320, .inl dr)), (u3, .inl (cJ, 12, .inr (.inl an))), (u4, .inl (cI, 24, .inl (f_twoI 12 fl xfl))), (u5, .inl (cJ, 24, .inr (.inl (f_twoL 12 sm xsm)))), (u6, .inl (cI, 2, .inl (f_lo z xz))), (u7, .inl (cJ, 128, .inr (.inl lg))), (u8, .inl (cJ, 16, .inr (.inl (f_twoL 8 tf xtf))))]) (W1 := [(u0, .inr (7, [.int th, .ref u1, .ref u2, .ref u3, .ref u4, .ref u5, .ref u6, .ref u7, .ref u8, .ref u9, .ref u10])), (u1, .inl (cI, 8, .inl md)), (u2, .inl (cZ, 320, .inl dr)), (u3, .inl (cJ, 12, .inr (.inl an))), (u4, .inl (cI, 24, .inl (f_twoI 12 fl xfl))), (u5, .inl (cJ, 24, .inr (.inl (f_twoL 12 sm xsm)))), (u6, .inl (cI, 2, .inl (f_lo z xz))), (u7, .inl (cJ, 128, .inr (.inl lg))), (u8, .inl (cJ, 16, .inr (.inl (f_twoL 8 tf xtf))))]) (st1 := [.int (f_isPart (nI k))]) ⟨hx, hb, hml, hown, hts⟩ (k_MO_isPart l dC dI cI cJ cG cZ (nI k)) (va_cwS 1 hts (k_gS m_l_MO_66 m_st_MO_isPart m_in_MO m_c_MO_isPart) rfl rfl rfl (by decide +kernel) ⟨Nat.le_of_ble_eq_true rfl, Nat.le_of_ble_eq_true rfl⟩) hK hF hP hD hS hA [] [0, 1, 2, 3, 4, 5, 6, 7, 8] [0, 1, 2, 3, 4, 5, 6, 7, 8] rfl rfl (by decide) (by decide) (by decide) rfl (by decide) rfl hl.1 rfl (Nat.le_of_ble_eq_true rfl) dMO_goes_1 ⟨Nat.le_of_ble_eq_true rfl, Nat.le_of_ble_eq_true rfl⟩ rfl (fun H locs hP hD hS => ?_)
    refine lv_if_ne (tgt := 17) hx hb dMO_goes_4 (by decide) (fun c_1 => ?_) (fun c_1 => ?_)
    · refine lv_iload_n hx hb dMO_goes_17 rfl (lv_at hl 2 rfl) ?_
      refine lv_bipush (v := 8) hx hb dMO_goes_18 (by decide) ?_
      refine lv_irem hx hb dMO_goes_20 (by decide) ?_
      refine k_topi (y := nI (k % 8)) (pk_rem (a := k) (d := 8) (by omega) (by decide) (by decide)) ?_
      refine lv_istore (lv' := [(6, .int (nI (k % 8))), (0, .ref u0), (1, .int 1), (2, .int (nI k)), (3, .int n), (4, .long v)]) hx hb dMO_goes_21 hl (by decide) rfl (fun ls hl => ?_)
      refine lv_aload_n hx hb dMO_goes_23 rfl (lv_at hl 1 rfl) ?_
      refine lv_iload hx hb dMO_goes_24 (lv_at hl 0 rfl) ?_
      refine lv_iload_n hx hb dMO_goes_26 rfl (lv_at hl 4 rfl) ?_
      refine k_V (wr := [(u3, .inl (cJ, 12, .inr (.inl an))), (u4, .inl (cI, 24, .inl (f_twoI 12 fl xfl))), (u5, .inl (cJ, 24, .inr (.inl (f_twoL 12 sm xsm)))), (u6, .inl (cI, 2, .inl (f_lo z xz))), (u7, .inl (cJ, 128, .inr (.inl lg))), (u8, .inl (cJ, 16, .inr (.inl (f_twoL 8 tf xtf))))]) (W1 := [(u0, .inr (7, [.int th, .ref u1, .ref u2, .ref u3, .ref u4, .ref u5, .ref u6, .ref u7, .ref u8, .ref u9, .ref u10])), (u1, .inl (cI, 8, .inl md)), (u2, .inl (cZ, 320, .inl dr)), (u3, .inl (cJ, 12, .inr (.inl an))), (u4, .inl (cI, 24, .inl (f_twoI 12 fl xfl))), (u5, .inl (cJ, 24, .inr (.inl (f_twoL 12 sm xsm)))), (u6, .inl (cI, 2, .inl (f_lo z xz))), (u7, .inl (cJ, 128, .inr (.inl lg))), (u8, .inl (cJ, 16, .inr (.inl (f_twoL 8 tf xtf))))]) (st1 := [.int (f_isKnown md kn (k % 8) n)]) ⟨hx, hb, hml, hown, hts⟩ (k_MO_isKnown l dC dI cI cJ cG cZ u0 u1 u2 u3 u4 u5 u6 u7 u8 u9 u10 th md dr kn mn (k % 8) n hmn hkd (Nat.mod_lt _ (by decide))) (cwV 2 hts (k_gV m_l_MO_79 m_i_MO_isKnown m_s_MO_isKnown m_in_MO m_c_MO_isKnown) rfl rfl rfl (by decide +kernel) ⟨Nat.le_of_ble_eq_true rfl, Nat.le_of_ble_eq_true rfl⟩) hK hF hP hD hS hA [0, 1, 2] [3, 4, 5, 6, 7, 8] [6, 7, 8, 0, 1, 2, 3, 4, 5] rfl rfl (by decide) (by decide) (by decide) rfl (by decide) rfl rfl rfl rfl hl.1 rfl (Nat.le_of_ble_eq_true rfl) dMO_goes_27 ⟨Nat.le_of_ble_eq_true rfl, Nat.le_of_ble_eq_true rfl⟩ rfl (fun H locs hP hD hS => ?_)
      refine lv_if_ne (tgt := 71) hx hb dMO_goes_30 (by decide) (fun c_2 => ?_) (fun c_2 => ?_)
      · refine lv_bipush (v := 12) hx hb dMO_goes_71 (by decide) ?_
        refine lv_iload_n hx hb dMO_goes_73 rfl (lv_at hl 2 rfl) ?_
        refine lv_imul hx hb dMO_goes_74 ?_
        refine lv_iload_n hx hb dMO_goes_75 rfl (lv_at hl 3 rfl) ?_
        refine lv_iadd hx hb dMO_goes_76 ?_
        refine k_topi (y := nI (12 + k)) (f_12b k) ?_
        refine lv_istore (lv' := [(7, .int (nI (12 + k))), (6, .int (nI (k % 8))), (0, .ref u0), (1, .int 1), (2, .int (nI k)), (3, .int n), (4, .long v)]) hx hb dMO_goes_77 hl (by decide) rfl (fun ls hl => ?_)
        refine lv_aload_n hx hb dMO_goes_79 rfl (lv_at hl 2 rfl) ?_
        refine va_get (D := (dC, dI)) (ci := 7) (v := .ref u4) (C := RMO) (T := TMO) (N := 11) hx hb hts inMO hown hK hP 0 rfl rfl 4 (by decide) (hts _ m_f_MO_21) (fun _ h9 => h9) rfl dMO_goes_80 ?_
        refine lv_iload hx hb dMO_goes_83 (lv_at hl 0 rfl) ?_
        refine k_ild (v := (f_twoI 12 fl xfl) (12 + k)) hx hb hK hP 4 0 rfl rfl (j := (12 + k)) rfl (by omega) (by decide) rfl dMO_goes_85 ?_
        refine k_topi (y := 2) ((f_tI1).trans hf) ?_
        refine lv_istore (lv' := [(8, .int 2), (7, .int (nI (12 + k))), (6, .int (nI (k % 8))), (0, .ref u0), (1, .int 1), (2, .int (nI k)), (3, .int n), (4, .long v)]) hx hb dMO_goes_86 hl (by decide) rfl (fun ls hl => ?_)
        refine lv_iload hx hb dMO_goes_88 (lv_at hl 0 rfl) ?_
        refine lv_if_le (tgt := 157) hx hb dMO_goes_90 (by decide) (fun c_3 => ?_) (fun c_3 => ?_)
        · exact absurd c_3 (by decide)
        · refine lv_aload_n hx hb dMO_goes_93 rfl (lv_at hl 3 rfl) ?_
          refine va_get (D := (dC, dI)) (ci := 7) (v := .ref u4) (C := RMO) (T := TMO) (N := 11) hx hb hts inMO hown hK hP 0 rfl rfl 4 (by decide) (hts _ m_f_MO_21) (fun _ h9 => h9) rfl dMO_goes_94 ?_
          refine lv_iload hx hb dMO_goes_97 (lv_at hl 1 rfl) ?_
          refine lv_iconst (v := 0) hx hb dMO_goes_99 (by decide) ?_
          refine k_ist (W1 := [(u0, .inr (7, [.int th, .ref u1, .ref u2, .ref u3, .ref u4, .ref u5, .ref u6, .ref u7, .ref u8, .ref u9, .ref u10])), (u1, .inl (cI, 8, .inl md)), (u2, .inl (cZ, 320, .inl dr)), (u3, .inl (cJ, 12, .inr (.inl an))), (u4, .inl (cI, 24, .inl (upd (f_twoI 12 fl xfl) (12 + k) 0))), (u5, .inl (cJ, 24, .inr (.inl (f_twoL 12 sm xsm)))), (u6, .inl (cI, 2, .inl (f_lo z xz))), (u7, .inl (cJ, 128, .inr (.inl lg))), (u8, .inl (cJ, 16, .inr (.inl (f_twoL 8 tf xtf))))]) hx hb hK hP hD hS 4 0 rfl rfl (j := (12 + k)) rfl (by omega) (by decide) rfl dMO_goes_100 (fun H locs hP hD hS => ?_)
          refine lv_aload_n hx hb dMO_goes_101 rfl (lv_at hl 3 rfl) ?_
          refine va_get (D := (dC, dI)) (ci := 7) (v := .ref u8) (C := RMO) (T := TMO) (N := 11) hx hb hts inMO hown hK hP 0 rfl rfl 8 (by decide) (hts _ m_f_MO_33) (fun _ h9 => h9) rfl dMO_goes_102 ?_
          refine lv_bipush (v := 8) hx hb dMO_goes_105 (by decide) ?_
          refine lv_iload_n hx hb dMO_goes_107 rfl (lv_at hl 4 rfl) ?_
          refine lv_imul hx hb dMO_goes_108 ?_
          refine lv_iconst (v := 5) hx hb dMO_goes_109 (by decide) ?_
          refine lv_iadd hx hb dMO_goes_110 ?_
          refine lv_iload hx hb dMO_goes_111 (lv_at hl 0 rfl) ?_
          refine lv_i2l hx hb dMO_goes_113 rfl ?_
          refine k_lst (W1 := [(u0, .inr (7, [.int th, .ref u1, .ref u2, .ref u3, .ref u4, .ref u5, .ref u6, .ref u7, .ref u8, .ref u9, .ref u10])), (u1, .inl (cI, 8, .inl md)), (u2, .inl (cZ, 320, .inl dr)), (u3, .inl (cJ, 12, .inr (.inl an))), (u4, .inl (cI, 24, .inl (upd (f_twoI 12 fl xfl) (12 + k) 0))), (u5, .inl (cJ, 24, .inr (.inl (f_twoL 12 sm xsm)))), (u6, .inl (cI, 2, .inl (f_lo z xz))), (u7, .inl (cJ, 128, .inr (.inl lg))), (u8, .inl (cJ, 16, .inr (.inl (vp_updL (f_twoL 8 tf xtf) (8 + 5) ((2 : Int32).toInt64)))))]) hx hb hK hP hD hS 8 1 rfl rfl (j := (8 + 5)) (by decide) (by decide) (by decide) rfl dMO_goes_114 (fun H locs hP hD hS => ?_)
          refine lv_aload_n hx hb dMO_goes_115 rfl (lv_at hl 3 rfl) ?_
          refine va_get (D := (dC, dI)) (ci := 7) (v := .ref u8) (C := RMO) (T := TMO) (N := 11) hx hb hts inMO hown hK hP 0 rfl rfl 8 (by decide) (hts _ m_f_MO_33) (fun _ h9 => h9) rfl dMO_goes_116 ?_
          refine lv_bipush (v := 8) hx hb dMO_goes_119 (by decide) ?_
          refine lv_iload_n hx hb dMO_goes_121 rfl (lv_at hl 4 rfl) ?_
          refine lv_imul hx hb dMO_goes_122 ?_
          refine lv_bipush (v := 6) hx hb dMO_goes_123 (by decide) ?_
          refine lv_iadd hx hb dMO_goes_125 ?_
          refine lv_iload_n hx hb dMO_goes_126 rfl (lv_at hl 5 rfl) ?_
          refine lv_i2l hx hb dMO_goes_127 rfl ?_
          refine k_lst (W1 := [(u0, .inr (7, [.int th, .ref u1, .ref u2, .ref u3, .ref u4, .ref u5, .ref u6, .ref u7, .ref u8, .ref u9, .ref u10])), (u1, .inl (cI, 8, .inl md)), (u2, .inl (cZ, 320, .inl dr)), (u3, .inl (cJ, 12, .inr (.inl an))), (u4, .inl (cI, 24, .inl (upd (f_twoI 12 fl xfl) (12 + k) 0))), (u5, .inl (cJ, 24, .inr (.inl (f_twoL 12 sm xsm)))), (u6, .inl (cI, 2, .inl (f_lo z xz))), (u7, .inl (cJ, 128, .inr (.inl lg))), (u8, .inl (cJ, 16, .inr (.inl (vp_updL (vp_updL (f_twoL 8 tf xtf) (8 + 5) ((2 : Int32).toInt64)) (8 + 6) ((nI k).toInt64)))))]) hx hb hK hP hD hS 8 1 rfl rfl (j := (8 + 6)) (by decide) (by decide) (by decide) rfl dMO_goes_128 (fun H locs hP hD hS => ?_)
          refine lv_aload_n hx hb dMO_goes_129 rfl (lv_at hl 3 rfl) ?_
          refine va_get (D := (dC, dI)) (ci := 7) (v := .ref u8) (C := RMO) (T := TMO) (N := 11) hx hb hts inMO hown hK hP 0 rfl rfl 8 (by decide) (hts _ m_f_MO_33) (fun _ h9 => h9) rfl dMO_goes_130 ?_
          refine lv_bipush (v := 8) hx hb dMO_goes_133 (by decide) ?_
          refine lv_iload_n hx hb dMO_goes_135 rfl (lv_at hl 4 rfl) ?_
          refine lv_imul hx hb dMO_goes_136 ?_
          refine lv_bipush (v := 7) hx hb dMO_goes_137 (by decide) ?_
          refine lv_iadd hx hb dMO_goes_139 ?_
          refine lv_iload_n hx hb dMO_goes_140 rfl (lv_at hl 6 rfl) ?_
          refine lv_i2l hx hb dMO_goes_141 rfl ?_
          refine k_lst (W1 := [(u0, .inr (7, [.int th, .ref u1, .ref u2, .ref u3, .ref u4, .ref u5, .ref u6, .ref u7, .ref u8, .ref u9, .ref u10])), (u1, .inl (cI, 8, .inl md)), (u2, .inl (cZ, 320, .inl dr)), (u3, .inl (cJ, 12, .inr (.inl an))), (u4, .inl (cI, 24, .inl (upd (f_twoI 12 fl xfl) (12 + k) 0))), (u5, .inl (cJ, 24, .inr (.inl (f_twoL 12 sm xsm)))), (u6, .inl (cI, 2, .inl (f_lo z xz))), (u7, .inl (cJ, 128, .inr (.inl lg))), (u8, .inl (cJ, 16, .inr (.inl (vp_updL (vp_updL (vp_updL (f_twoL 8 tf xtf) (8 + 5) ((2 : Int32).toInt64)) (8 + 6) ((nI k).toInt64)) (8 + 7) n.toInt64))))]) hx hb hK hP hD hS 8 1 rfl rfl (j := (8 + 7)) (by decide) (by decide) (by decide) rfl dMO_goes_142 (fun H locs hP hD hS => ?_)
          have hP := k_cvP (W1 := [(u0, .inr (7, [.int th, .ref u1, .ref u2, .ref u3, .ref u4, .ref u5, .ref u6, .ref u7, .ref u8, .ref u9, .ref u10])), (u1, .inl (cI, 8, .inl md)), (u2, .inl (cZ, 320, .inl dr)), (u3, .inl (cJ, 12, .inr (.inl an))), (u4, .inl (cI, 24, .inl (upd (f_twoI 12 fl xfl) (12 + k) 0))), (u5, .inl (cJ, 24, .inr (.inl (f_twoL 12 sm xsm)))), (u6, .inl (cI, 2, .inl (f_lo z xz))), (u7, .inl (cJ, 128, .inr (.inl lg))), (u8, .inl (cJ, 16, .inr (.inl (f_twoL 8 tf (vp_updL (vp_updL (vp_updL xtf 5 ((2 : Int32).toInt64)) 6 ((nI k).toInt64)) 7 (n.toInt64))))))]) (by rw [show f_twoL 8 tf (vp_updL (vp_updL (vp_updL xtf 5 ((2 : Int32).toInt64)) 6 ((nI k).toInt64)) 7 (n.toInt64)) = vp_updL (vp_updL (vp_updL (f_twoL 8 tf xtf) (8 + 5) ((2 : Int32).toInt64)) (8 + 6) ((nI k).toInt64)) (8 + 7) n.toInt64 by rw [f_uL1, f_uL1, f_uL1]]) hP
          have hD := k_cvD (W1 := [(u0, .inr (7, [.int th, .ref u1, .ref u2, .ref u3, .ref u4, .ref u5, .ref u6, .ref u7, .ref u8, .ref u9, .ref u10])), (u1, .inl (cI, 8, .inl md)), (u2, .inl (cZ, 320, .inl dr)), (u3, .inl (cJ, 12, .inr (.inl an))), (u4, .inl (cI, 24, .inl (upd (f_twoI 12 fl xfl) (12 + k) 0))), (u5, .inl (cJ, 24, .inr (.inl (f_twoL 12 sm xsm)))), (u6, .inl (cI, 2, .inl (f_lo z xz))), (u7, .inl (cJ, 128, .inr (.inl lg))), (u8, .inl (cJ, 16, .inr (.inl (f_twoL 8 tf (vp_updL (vp_updL (vp_updL xtf 5 ((2 : Int32).toInt64)) 6 ((nI k).toInt64)) 7 (n.toInt64))))))]) (by rw [show f_twoL 8 tf (vp_updL (vp_updL (vp_updL xtf 5 ((2 : Int32).toInt64)) 6 ((nI k).toInt64)) 7 (n.toInt64)) = vp_updL (vp_updL (vp_updL (f_twoL 8 tf xtf) (8 + 5) ((2 : Int32).toInt64)) (8 + 6) ((nI k).toInt64)) (8 + 7) n.toInt64 by rw [f_uL1, f_uL1, f_uL1]]) hD
          refine lv_aload_n hx hb dMO_goes_143 rfl (lv_at hl 3 rfl) ?_
          refine lv_iload_n hx hb dMO_goes_144 rfl (lv_at hl 4 rfl) ?_
          refine lv_ldc2 (v := (-100)) hx hb hown (hts _ m_k_MO_91) dMO_goes_145 ?_
          refine lv_iload hx hb dMO_goes_148 (lv_at hl 0 rfl) ?_
          refine lv_i2l hx hb dMO_goes_150 rfl ?_
          refine lv_lsub hx hb dMO_goes_151 ?_
          refine k_topl (y := (-100 - (2 : Int32)).toInt64) (by decide) ?_
          refine lv_iconst (v := 4) hx hb dMO_goes_152 (by decide) ?_
          refine k_V (wr := [(u1, .inl (cI, 8, .inl md)), (u2, .inl (cZ, 320, .inl dr)), (u3, .inl (cJ, 12, .inr (.inl an))), (u4, .inl (cI, 24, .inl (upd (f_twoI 12 fl xfl) (12 + k) 0))), (u5, .inl (cJ, 24, .inr (.inl (f_twoL 12 sm xsm))))]) (W1 := [(u0, .inr (7, [.int th, .ref u1, .ref u2, .ref u3, .ref u4, .ref u5, .ref u6, .ref u7, .ref u8, .ref u9, .ref u10])), (u1, .inl (cI, 8, .inl md)), (u2, .inl (cZ, 320, .inl dr)), (u3, .inl (cJ, 12, .inr (.inl an))), (u4, .inl (cI, 24, .inl (upd (f_twoI 12 fl xfl) (12 + k) 0))), (u5, .inl (cJ, 24, .inr (.inl (f_twoL 12 sm xsm)))), (u6, .inl (cI, 2, .inl (f_lo z (f_js xz)))), (u7, .inl (cJ, 128, .inr (.inl (f_wr lg xz ((-100 - (2 : Int32)).toInt64) 64)))), (u8, .inl (cJ, 16, .inr (.inl (f_twoL 8 tf (vp_updL (vp_updL (vp_updL (vp_updL xtf 5 ((2 : Int32).toInt64)) 6 ((nI k).toInt64)) 7 (n.toInt64)) 4 ((vp_updL (vp_updL (vp_updL xtf 5 ((2 : Int32).toInt64)) 6 ((nI k).toInt64)) 7 (n.toInt64)) 4 + 1))))))]) (st1 := [.long ((-100 - (2 : Int32)).toInt64)]) ⟨hx, hb, hml, hown, hts⟩ (k_MO_writes_1 l dC dI cI cJ cG cZ u0 u1 u2 u3 u4 u5 u6 u7 u8 u9 u10 th lg tf (vp_updL (vp_updL (vp_updL xtf 5 ((2 : Int32).toInt64)) 6 ((nI k).toInt64)) 7 (n.toInt64)) z xz 4 ((-100 - (2 : Int32)).toInt64) hz (by decide)) (cwV 3 hts (k_gV m_l_MO_83 m_i_MO_writes m_s_MO_writes m_in_MO m_c_MO_writes) rfl rfl rfl (by decide +kernel) ⟨Nat.le_of_ble_eq_true rfl, Nat.le_of_ble_eq_true rfl⟩) hK hF hP hD hS hA [0, 6, 7, 8] [1, 2, 3, 4, 5] [5, 0, 1, 2, 3, 4, 6, 7, 8] rfl rfl (by decide) (by decide) (by decide) rfl (by decide) rfl rfl rfl rfl hl.1 rfl (Nat.le_of_ble_eq_true rfl) dMO_goes_153 ⟨Nat.le_of_ble_eq_true rfl, Nat.le_of_ble_eq_true rfl⟩ rfl (fun H locs hP hD hS => ?_)
          exact k_lret hx hb hr hlocks hP hK hD hS rfl dMO_goes_156 ⟨Nat.le_of_ble_eq_true rfl, Nat.le_of_ble_eq_true rfl⟩
      · exact absurd c_2 h2
    · exact absurd c_1 (by rw [f_isPart_nI hk]; decide)
  · obtain ⟨h2, hf⟩ := h2
    have hn : ¬ xfl k = 0 := by rw [hf]; decide
    have e1 : f_cd md kn (nI k) n = 0 := by unfold f_cd; rw [if_neg (by rw [f_isPart_nI hk]; decide), nI_clamp (by omega), if_neg h1, if_neg h2]
    rw [show f_aS md kn xsm xfl (nI k) n v = xsm by unfold f_aS f_apS; rw [if_pos e1, nI_clamp (by omega), if_neg hn], show f_aF md kn xfl (nI k) n = upd xfl k 0 by unfold f_aF; rw [if_pos e1, nI_clamp (by omega)], show f_aT md kn xtf xfl (nI k) n = vp_updL (vp_updL (vp_updL (vp_updL xtf 5 ((3 : Int32).toInt64)) 6 ((nI k).toInt64)) 7 (n.toInt64)) 4 ((vp_updL (vp_updL (vp_updL xtf 5 ((3 : Int32).toInt64)) 6 ((nI k).toInt64)) 7 (n.toInt64)) 4 + 1) by unfold f_aT f_apT; rw [if_pos e1, nI_clamp (by omega), if_neg hn, hf]; exact f_tellT _ _ _ _, show f_aA md kn an xsm xfl (nI k) n v = (-100 - (3 : Int32)).toInt64 by unfold f_aA f_apA; rw [if_pos e1, nI_clamp (by omega), if_neg hn, hf]]
    rw [show f_twoI 12 fl (upd xfl k 0) = upd (f_twoI 12 fl xfl) (12 + k) 0 from f_uI1]
    refine k_of (cc := cMO_goes) (maxL := 9) (ret := (some .long)) (by decide) rfl (Nat.le_of_ble_eq_true rfl) ?_
    intro p e s m below meth c A ls hx hb hr hlocks hml hown hts hA hP hD hK hF hl hS
    have hown : s.vm.findClass RMO = some m.cls := hown
    have hl : lv_has ls 9 [(0, .ref u0), (1, .int 1), (2, .int (nI k)), (3, .int n), (4, .long v)] := hl
    refine lv_iload_n hx hb dMO_goes_0 rfl (lv_at hl 2 rfl) ?_
    refine k_S (wr := [(u0, .inr (7, [.int th, .ref u1, .ref u2, .ref u3, .ref u4, .ref u5, .ref u6, .ref u7, .ref u8, .ref u9, .ref u10])), (u1, .inl (cI, 8, .inl md)), (u2, .inl (cZ, 320, .inl dr)), (u3, .inl (cJ, 12, .inr (.inl an))), (u4, .inl (cI, 24, .inl (f_twoI 12 fl xfl))), (u5, .inl (cJ, 24, .inr (.inl (f_twoL 12 sm xsm)))), (u6, .inl (cI, 2, .inl (f_lo z xz))), (u7, .inl (cJ, 128, .inr (.inl lg))), (u8, .inl (cJ, 16, .inr (.inl (f_twoL 8 tf xtf))))]) (W1 := [(u0, .inr (7, [.int th, .ref u1, .ref u2, .ref u3, .ref u4, .ref u5, .ref u6, .ref u7, .ref u8, .ref u9, .ref u10])), (u1, .inl (cI, 8, .inl md)), (u2, .inl (cZ, 320, .inl dr)), (u3, .inl (cJ, 12, .inr (.inl an))), (u4, .inl (cI, 24, .inl (f_twoI 12 fl xfl))), (u5, .inl (cJ, 24, .inr (.inl (f_twoL 12 sm xsm)))), (u6, .inl (cI, 2, .inl (f_lo z xz))), (u7, .inl (cJ, 128, .inr (.inl lg))), (u8, .inl (cJ, 16, .inr (.inl (f_twoL 8 tf xtf))))]) (st1 := [.int (f_isPart (nI k))]) ⟨hx, hb, hml, hown, hts⟩ (k_MO_isPart l dC dI cI cJ cG cZ (nI k)) (va_cwS 1 hts (k_gS m_l_MO_66 m_st_MO_isPart m_in_MO m_c_MO_isPart) rfl rfl rfl (by decide +kernel) ⟨Nat.le_of_ble_eq_true rfl, Nat.le_of_ble_eq_true rfl⟩) hK hF hP hD hS hA [] [0, 1, 2, 3, 4, 5, 6, 7, 8] [0, 1, 2, 3, 4, 5, 6, 7, 8] rfl rfl (by decide) (by decide) (by decide) rfl (by decide) rfl hl.1 rfl (Nat.le_of_ble_eq_true rfl) dMO_goes_1 ⟨Nat.le_of_ble_eq_true rfl, Nat.le_of_ble_eq_true rfl⟩ rfl (fun H locs hP hD hS => ?_)
    refine lv_if_ne (tgt := 17) hx hb dMO_goes_4 (by decide) (fun c_1 => ?_) (fun c_1 => ?_)
    · refine lv_iload_n hx hb dMO_goes_17 rfl (lv_at hl 2 rfl) ?_
      refine lv_bipush (v := 8) hx hb dMO_goes_18 (by decide) ?_
      refine lv_irem hx hb dMO_goes_20 (by decide) ?_
      refine k_topi (y := nI (k % 8)) (pk_rem (a := k) (d := 8) (by omega) (by decide) (by decide)) ?_
      refine lv_istore (lv' := [(6, .int (nI (k % 8))), (0, .ref u0), (1, .int 1), (2, .int (nI k)), (3, .int n), (4, .long v)]) hx hb dMO_goes_21 hl (by decide) rfl (fun ls hl => ?_)
      refine lv_aload_n hx hb dMO_goes_23 rfl (lv_at hl 1 rfl) ?_
      refine lv_iload hx hb dMO_goes_24 (lv_at hl 0 rfl) ?_
      refine lv_iload_n hx hb dMO_goes_26 rfl (lv_at hl 4 rfl) ?_
      refine k_V (wr := [(u3, .inl (cJ, 12, .inr (.inl an))), (u4, .inl (cI, 24, .inl (f_twoI 12 fl xfl))), (u5, .inl (cJ, 24, .inr (.inl (f_twoL 12 sm xsm)))), (u6, .inl (cI, 2, .inl (f_lo z xz))), (u7, .inl (cJ, 128, .inr (.inl lg))), (u8, .inl (cJ, 16, .inr (.inl (f_twoL 8 tf xtf))))]) (W1 := [(u0, .inr (7, [.int th, .ref u1, .ref u2, .ref u3, .ref u4, .ref u5, .ref u6, .ref u7, .ref u8, .ref u9, .ref u10])), (u1, .inl (cI, 8, .inl md)), (u2, .inl (cZ, 320, .inl dr)), (u3, .inl (cJ, 12, .inr (.inl an))), (u4, .inl (cI, 24, .inl (f_twoI 12 fl xfl))), (u5, .inl (cJ, 24, .inr (.inl (f_twoL 12 sm xsm)))), (u6, .inl (cI, 2, .inl (f_lo z xz))), (u7, .inl (cJ, 128, .inr (.inl lg))), (u8, .inl (cJ, 16, .inr (.inl (f_twoL 8 tf xtf))))]) (st1 := [.int (f_isKnown md kn (k % 8) n)]) ⟨hx, hb, hml, hown, hts⟩ (k_MO_isKnown l dC dI cI cJ cG cZ u0 u1 u2 u3 u4 u5 u6 u7 u8 u9 u10 th md dr kn mn (k % 8) n hmn hkd (Nat.mod_lt _ (by decide))) (cwV 2 hts (k_gV m_l_MO_79 m_i_MO_isKnown m_s_MO_isKnown m_in_MO m_c_MO_isKnown) rfl rfl rfl (by decide +kernel) ⟨Nat.le_of_ble_eq_true rfl, Nat.le_of_ble_eq_true rfl⟩) hK hF hP hD hS hA [0, 1, 2] [3, 4, 5, 6, 7, 8] [6, 7, 8, 0, 1, 2, 3, 4, 5] rfl rfl (by decide) (by decide) (by decide) rfl (by decide) rfl rfl rfl rfl hl.1 rfl (Nat.le_of_ble_eq_true rfl) dMO_goes_27 ⟨Nat.le_of_ble_eq_true rfl, Nat.le_of_ble_eq_true rfl⟩ rfl (fun H locs hP hD hS => ?_)
      refine lv_if_ne (tgt := 71) hx hb dMO_goes_30 (by decide) (fun c_2 => ?_) (fun c_2 => ?_)
      · refine lv_bipush (v := 12) hx hb dMO_goes_71 (by decide) ?_
        refine lv_iload_n hx hb dMO_goes_73 rfl (lv_at hl 2 rfl) ?_
        refine lv_imul hx hb dMO_goes_74 ?_
        refine lv_iload_n hx hb dMO_goes_75 rfl (lv_at hl 3 rfl) ?_
        refine lv_iadd hx hb dMO_goes_76 ?_
        refine k_topi (y := nI (12 + k)) (f_12b k) ?_
        refine lv_istore (lv' := [(7, .int (nI (12 + k))), (6, .int (nI (k % 8))), (0, .ref u0), (1, .int 1), (2, .int (nI k)), (3, .int n), (4, .long v)]) hx hb dMO_goes_77 hl (by decide) rfl (fun ls hl => ?_)
        refine lv_aload_n hx hb dMO_goes_79 rfl (lv_at hl 2 rfl) ?_
        refine va_get (D := (dC, dI)) (ci := 7) (v := .ref u4) (C := RMO) (T := TMO) (N := 11) hx hb hts inMO hown hK hP 0 rfl rfl 4 (by decide) (hts _ m_f_MO_21) (fun _ h9 => h9) rfl dMO_goes_80 ?_
        refine lv_iload hx hb dMO_goes_83 (lv_at hl 0 rfl) ?_
        refine k_ild (v := (f_twoI 12 fl xfl) (12 + k)) hx hb hK hP 4 0 rfl rfl (j := (12 + k)) rfl (by omega) (by decide) rfl dMO_goes_85 ?_
        refine k_topi (y := 3) ((f_tI1).trans hf) ?_
        refine lv_istore (lv' := [(8, .int 3), (7, .int (nI (12 + k))), (6, .int (nI (k % 8))), (0, .ref u0), (1, .int 1), (2, .int (nI k)), (3, .int n), (4, .long v)]) hx hb dMO_goes_86 hl (by decide) rfl (fun ls hl => ?_)
        refine lv_iload hx hb dMO_goes_88 (lv_at hl 0 rfl) ?_
        refine lv_if_le (tgt := 157) hx hb dMO_goes_90 (by decide) (fun c_3 => ?_) (fun c_3 => ?_)
        · exact absurd c_3 (by decide)
        · refine lv_aload_n hx hb dMO_goes_93 rfl (lv_at hl 3 rfl) ?_
          refine va_get (D := (dC, dI)) (ci := 7) (v := .ref u4) (C := RMO) (T := TMO) (N := 11) hx hb hts inMO hown hK hP 0 rfl rfl 4 (by decide) (hts _ m_f_MO_21) (fun _ h9 => h9) rfl dMO_goes_94 ?_
          refine lv_iload hx hb dMO_goes_97 (lv_at hl 1 rfl) ?_
          refine lv_iconst (v := 0) hx hb dMO_goes_99 (by decide) ?_
          refine k_ist (W1 := [(u0, .inr (7, [.int th, .ref u1, .ref u2, .ref u3, .ref u4, .ref u5, .ref u6, .ref u7, .ref u8, .ref u9, .ref u10])), (u1, .inl (cI, 8, .inl md)), (u2, .inl (cZ, 320, .inl dr)), (u3, .inl (cJ, 12, .inr (.inl an))), (u4, .inl (cI, 24, .inl (upd (f_twoI 12 fl xfl) (12 + k) 0))), (u5, .inl (cJ, 24, .inr (.inl (f_twoL 12 sm xsm)))), (u6, .inl (cI, 2, .inl (f_lo z xz))), (u7, .inl (cJ, 128, .inr (.inl lg))), (u8, .inl (cJ, 16, .inr (.inl (f_twoL 8 tf xtf))))]) hx hb hK hP hD hS 4 0 rfl rfl (j := (12 + k)) rfl (by omega) (by decide) rfl dMO_goes_100 (fun H locs hP hD hS => ?_)
          refine lv_aload_n hx hb dMO_goes_101 rfl (lv_at hl 3 rfl) ?_
          refine va_get (D := (dC, dI)) (ci := 7) (v := .ref u8) (C := RMO) (T := TMO) (N := 11) hx hb hts inMO hown hK hP 0 rfl rfl 8 (by decide) (hts _ m_f_MO_33) (fun _ h9 => h9) rfl dMO_goes_102 ?_
          refine lv_bipush (v := 8) hx hb dMO_goes_105 (by decide) ?_
          refine lv_iload_n hx hb dMO_goes_107 rfl (lv_at hl 4 rfl) ?_
          refine lv_imul hx hb dMO_goes_108 ?_
          refine lv_iconst (v := 5) hx hb dMO_goes_109 (by decide) ?_
          refine lv_iadd hx hb dMO_goes_110 ?_
          refine lv_iload hx hb dMO_goes_111 (lv_at hl 0 rfl) ?_
          refine lv_i2l hx hb dMO_goes_113 rfl ?_
          refine k_lst (W1 := [(u0, .inr (7, [.int th, .ref u1, .ref u2, .ref u3, .ref u4, .ref u5, .ref u6, .ref u7, .ref u8, .ref u9, .ref u10])), (u1, .inl (cI, 8, .inl md)), (u2, .inl (cZ, 320, .inl dr)), (u3, .inl (cJ, 12, .inr (.inl an))), (u4, .inl (cI, 24, .inl (upd (f_twoI 12 fl xfl) (12 + k) 0))), (u5, .inl (cJ, 24, .inr (.inl (f_twoL 12 sm xsm)))), (u6, .inl (cI, 2, .inl (f_lo z xz))), (u7, .inl (cJ, 128, .inr (.inl lg))), (u8, .inl (cJ, 16, .inr (.inl (vp_updL (f_twoL 8 tf xtf) (8 + 5) ((3 : Int32).toInt64)))))]) hx hb hK hP hD hS 8 1 rfl rfl (j := (8 + 5)) (by decide) (by decide) (by decide) rfl dMO_goes_114 (fun H locs hP hD hS => ?_)
          refine lv_aload_n hx hb dMO_goes_115 rfl (lv_at hl 3 rfl) ?_
          refine va_get (D := (dC, dI)) (ci := 7) (v := .ref u8) (C := RMO) (T := TMO) (N := 11) hx hb hts inMO hown hK hP 0 rfl rfl 8 (by decide) (hts _ m_f_MO_33) (fun _ h9 => h9) rfl dMO_goes_116 ?_
          refine lv_bipush (v := 8) hx hb dMO_goes_119 (by decide) ?_
          refine lv_iload_n hx hb dMO_goes_121 rfl (lv_at hl 4 rfl) ?_
          refine lv_imul hx hb dMO_goes_122 ?_
          refine lv_bipush (v := 6) hx hb dMO_goes_123 (by decide) ?_
          refine lv_iadd hx hb dMO_goes_125 ?_
          refine lv_iload_n hx hb dMO_goes_126 rfl (lv_at hl 5 rfl) ?_
          refine lv_i2l hx hb dMO_goes_127 rfl ?_
          refine k_lst (W1 := [(u0, .inr (7, [.int th, .ref u1, .ref u2, .ref u3, .ref u4, .ref u5, .ref u6, .ref u7, .ref u8, .ref u9, .ref u10])), (u1, .inl (cI, 8, .inl md)), (u2, .inl (cZ, 320, .inl dr)), (u3, .inl (cJ, 12, .inr (.inl an))), (u4, .inl (cI, 24, .inl (upd (f_twoI 12 fl xfl) (12 + k) 0))), (u5, .inl (cJ, 24, .inr (.inl (f_twoL 12 sm xsm)))), (u6, .inl (cI, 2, .inl (f_lo z xz))), (u7, .inl (cJ, 128, .inr (.inl lg))), (u8, .inl (cJ, 16, .inr (.inl (vp_updL (vp_updL (f_twoL 8 tf xtf) (8 + 5) ((3 : Int32).toInt64)) (8 + 6) ((nI k).toInt64)))))]) hx hb hK hP hD hS 8 1 rfl rfl (j := (8 + 6)) (by decide) (by decide) (by decide) rfl dMO_goes_128 (fun H locs hP hD hS => ?_)
          refine lv_aload_n hx hb dMO_goes_129 rfl (lv_at hl 3 rfl) ?_
          refine va_get (D := (dC, dI)) (ci := 7) (v := .ref u8) (C := RMO) (T := TMO) (N := 11) hx hb hts inMO hown hK hP 0 rfl rfl 8 (by decide) (hts _ m_f_MO_33) (fun _ h9 => h9) rfl dMO_goes_130 ?_
          refine lv_bipush (v := 8) hx hb dMO_goes_133 (by decide) ?_
          refine lv_iload_n hx hb dMO_goes_135 rfl (lv_at hl 4 rfl) ?_
          refine lv_imul hx hb dMO_goes_136 ?_
          refine lv_bipush (v := 7) hx hb dMO_goes_137 (by decide) ?_
          refine lv_iadd hx hb dMO_goes_139 ?_
          refine lv_iload_n hx hb dMO_goes_140 rfl (lv_at hl 6 rfl) ?_
          refine lv_i2l hx hb dMO_goes_141 rfl ?_
          refine k_lst (W1 := [(u0, .inr (7, [.int th, .ref u1, .ref u2, .ref u3, .ref u4, .ref u5, .ref u6, .ref u7, .ref u8, .ref u9, .ref u10])), (u1, .inl (cI, 8, .inl md)), (u2, .inl (cZ, 320, .inl dr)), (u3, .inl (cJ, 12, .inr (.inl an))), (u4, .inl (cI, 24, .inl (upd (f_twoI 12 fl xfl) (12 + k) 0))), (u5, .inl (cJ, 24, .inr (.inl (f_twoL 12 sm xsm)))), (u6, .inl (cI, 2, .inl (f_lo z xz))), (u7, .inl (cJ, 128, .inr (.inl lg))), (u8, .inl (cJ, 16, .inr (.inl (vp_updL (vp_updL (vp_updL (f_twoL 8 tf xtf) (8 + 5) ((3 : Int32).toInt64)) (8 + 6) ((nI k).toInt64)) (8 + 7) n.toInt64))))]) hx hb hK hP hD hS 8 1 rfl rfl (j := (8 + 7)) (by decide) (by decide) (by decide) rfl dMO_goes_142 (fun H locs hP hD hS => ?_)
          have hP := k_cvP (W1 := [(u0, .inr (7, [.int th, .ref u1, .ref u2, .ref u3, .ref u4, .ref u5, .ref u6, .ref u7, .ref u8, .ref u9, .ref u10])), (u1, .inl (cI, 8, .inl md)), (u2, .inl (cZ, 320, .inl dr)), (u3, .inl (cJ, 12, .inr (.inl an))), (u4, .inl (cI, 24, .inl (upd (f_twoI 12 fl xfl) (12 + k) 0))), (u5, .inl (cJ, 24, .inr (.inl (f_twoL 12 sm xsm)))), (u6, .inl (cI, 2, .inl (f_lo z xz))), (u7, .inl (cJ, 128, .inr (.inl lg))), (u8, .inl (cJ, 16, .inr (.inl (f_twoL 8 tf (vp_updL (vp_updL (vp_updL xtf 5 ((3 : Int32).toInt64)) 6 ((nI k).toInt64)) 7 (n.toInt64))))))]) (by rw [show f_twoL 8 tf (vp_updL (vp_updL (vp_updL xtf 5 ((3 : Int32).toInt64)) 6 ((nI k).toInt64)) 7 (n.toInt64)) = vp_updL (vp_updL (vp_updL (f_twoL 8 tf xtf) (8 + 5) ((3 : Int32).toInt64)) (8 + 6) ((nI k).toInt64)) (8 + 7) n.toInt64 by rw [f_uL1, f_uL1, f_uL1]]) hP
          have hD := k_cvD (W1 := [(u0, .inr (7, [.int th, .ref u1, .ref u2, .ref u3, .ref u4, .ref u5, .ref u6, .ref u7, .ref u8, .ref u9, .ref u10])), (u1, .inl (cI, 8, .inl md)), (u2, .inl (cZ, 320, .inl dr)), (u3, .inl (cJ, 12, .inr (.inl an))), (u4, .inl (cI, 24, .inl (upd (f_twoI 12 fl xfl) (12 + k) 0))), (u5, .inl (cJ, 24, .inr (.inl (f_twoL 12 sm xsm)))), (u6, .inl (cI, 2, .inl (f_lo z xz))), (u7, .inl (cJ, 128, .inr (.inl lg))), (u8, .inl (cJ, 16, .inr (.inl (f_twoL 8 tf (vp_updL (vp_updL (vp_updL xtf 5 ((3 : Int32).toInt64)) 6 ((nI k).toInt64)) 7 (n.toInt64))))))]) (by rw [show f_twoL 8 tf (vp_updL (vp_updL (vp_updL xtf 5 ((3 : Int32).toInt64)) 6 ((nI k).toInt64)) 7 (n.toInt64)) = vp_updL (vp_updL (vp_updL (f_twoL 8 tf xtf) (8 + 5) ((3 : Int32).toInt64)) (8 + 6) ((nI k).toInt64)) (8 + 7) n.toInt64 by rw [f_uL1, f_uL1, f_uL1]]) hD
          refine lv_aload_n hx hb dMO_goes_143 rfl (lv_at hl 3 rfl) ?_
          refine lv_iload_n hx hb dMO_goes_144 rfl (lv_at hl 4 rfl) ?_
          refine lv_ldc2 (v := (-100)) hx hb hown (hts _ m_k_MO_91) dMO_goes_145 ?_
          refine lv_iload hx hb dMO_goes_148 (lv_at hl 0 rfl) ?_
          refine lv_i2l hx hb dMO_goes_150 rfl ?_
          refine lv_lsub hx hb dMO_goes_151 ?_
          refine k_topl (y := (-100 - (3 : Int32)).toInt64) (by decide) ?_
          refine lv_iconst (v := 4) hx hb dMO_goes_152 (by decide) ?_
          refine k_V (wr := [(u1, .inl (cI, 8, .inl md)), (u2, .inl (cZ, 320, .inl dr)), (u3, .inl (cJ, 12, .inr (.inl an))), (u4, .inl (cI, 24, .inl (upd (f_twoI 12 fl xfl) (12 + k) 0))), (u5, .inl (cJ, 24, .inr (.inl (f_twoL 12 sm xsm))))]) (W1 := [(u0, .inr (7, [.int th, .ref u1, .ref u2, .ref u3, .ref u4, .ref u5, .ref u6, .ref u7, .ref u8, .ref u9, .ref u10])), (u1, .inl (cI, 8, .inl md)), (u2, .inl (cZ, 320, .inl dr)), (u3, .inl (cJ, 12, .inr (.inl an))), (u4, .inl (cI, 24, .inl (upd (f_twoI 12 fl xfl) (12 + k) 0))), (u5, .inl (cJ, 24, .inr (.inl (f_twoL 12 sm xsm)))), (u6, .inl (cI, 2, .inl (f_lo z (f_js xz)))), (u7, .inl (cJ, 128, .inr (.inl (f_wr lg xz ((-100 - (3 : Int32)).toInt64) 64)))), (u8, .inl (cJ, 16, .inr (.inl (f_twoL 8 tf (vp_updL (vp_updL (vp_updL (vp_updL xtf 5 ((3 : Int32).toInt64)) 6 ((nI k).toInt64)) 7 (n.toInt64)) 4 ((vp_updL (vp_updL (vp_updL xtf 5 ((3 : Int32).toInt64)) 6 ((nI k).toInt64)) 7 (n.toInt64)) 4 + 1))))))]) (st1 := [.long ((-100 - (3 : Int32)).toInt64)]) ⟨hx, hb, hml, hown, hts⟩ (k_MO_writes_1 l dC dI cI cJ cG cZ u0 u1 u2 u3 u4 u5 u6 u7 u8 u9 u10 th lg tf (vp_updL (vp_updL (vp_updL xtf 5 ((3 : Int32).toInt64)) 6 ((nI k).toInt64)) 7 (n.toInt64)) z xz 4 ((-100 - (3 : Int32)).toInt64) hz (by decide)) (cwV 3 hts (k_gV m_l_MO_83 m_i_MO_writes m_s_MO_writes m_in_MO m_c_MO_writes) rfl rfl rfl (by decide +kernel) ⟨Nat.le_of_ble_eq_true rfl, Nat.le_of_ble_eq_true rfl⟩) hK hF hP hD hS hA [0, 6, 7, 8] [1, 2, 3, 4, 5] [5, 0, 1, 2, 3, 4, 6, 7, 8] rfl rfl (by decide) (by decide) (by decide) rfl (by decide) rfl rfl rfl rfl hl.1 rfl (Nat.le_of_ble_eq_true rfl) dMO_goes_153 ⟨Nat.le_of_ble_eq_true rfl, Nat.le_of_ble_eq_true rfl⟩ rfl (fun H locs hP hD hS => ?_)
          exact k_lret hx hb hr hlocks hP hK hD hS rfl dMO_goes_156 ⟨Nat.le_of_ble_eq_true rfl, Nat.le_of_ble_eq_true rfl⟩
      · exact absurd c_2 h2
    · exact absurd c_1 (by rw [f_isPart_nI hk]; decide)
  · obtain ⟨h2, hf⟩ := h2
    have hn : ¬ xfl k = 0 := by rw [hf]; decide
    have e1 : f_cd md kn (nI k) n = 0 := by unfold f_cd; rw [if_neg (by rw [f_isPart_nI hk]; decide), nI_clamp (by omega), if_neg h1, if_neg h2]
    rw [show f_aS md kn xsm xfl (nI k) n v = xsm by unfold f_aS f_apS; rw [if_pos e1, nI_clamp (by omega), if_neg hn], show f_aF md kn xfl (nI k) n = upd xfl k 0 by unfold f_aF; rw [if_pos e1, nI_clamp (by omega)], show f_aT md kn xtf xfl (nI k) n = vp_updL (vp_updL (vp_updL (vp_updL xtf 5 ((4 : Int32).toInt64)) 6 ((nI k).toInt64)) 7 (n.toInt64)) 4 ((vp_updL (vp_updL (vp_updL xtf 5 ((4 : Int32).toInt64)) 6 ((nI k).toInt64)) 7 (n.toInt64)) 4 + 1) by unfold f_aT f_apT; rw [if_pos e1, nI_clamp (by omega), if_neg hn, hf]; exact f_tellT _ _ _ _, show f_aA md kn an xsm xfl (nI k) n v = (-100 - (4 : Int32)).toInt64 by unfold f_aA f_apA; rw [if_pos e1, nI_clamp (by omega), if_neg hn, hf]]
    rw [show f_twoI 12 fl (upd xfl k 0) = upd (f_twoI 12 fl xfl) (12 + k) 0 from f_uI1]
    refine k_of (cc := cMO_goes) (maxL := 9) (ret := (some .long)) (by decide) rfl (Nat.le_of_ble_eq_true rfl) ?_
    intro p e s m below meth c A ls hx hb hr hlocks hml hown hts hA hP hD hK hF hl hS
    have hown : s.vm.findClass RMO = some m.cls := hown
    have hl : lv_has ls 9 [(0, .ref u0), (1, .int 1), (2, .int (nI k)), (3, .int n), (4, .long v)] := hl
    refine lv_iload_n hx hb dMO_goes_0 rfl (lv_at hl 2 rfl) ?_
    refine k_S (wr := [(u0, .inr (7, [.int th, .ref u1, .ref u2, .ref u3, .ref u4, .ref u5, .ref u6, .ref u7, .ref u8, .ref u9, .ref u10])), (u1, .inl (cI, 8, .inl md)), (u2, .inl (cZ, 320, .inl dr)), (u3, .inl (cJ, 12, .inr (.inl an))), (u4, .inl (cI, 24, .inl (f_twoI 12 fl xfl))), (u5, .inl (cJ, 24, .inr (.inl (f_twoL 12 sm xsm)))), (u6, .inl (cI, 2, .inl (f_lo z xz))), (u7, .inl (cJ, 128, .inr (.inl lg))), (u8, .inl (cJ, 16, .inr (.inl (f_twoL 8 tf xtf))))]) (W1 := [(u0, .inr (7, [.int th, .ref u1, .ref u2, .ref u3, .ref u4, .ref u5, .ref u6, .ref u7, .ref u8, .ref u9, .ref u10])), (u1, .inl (cI, 8, .inl md)), (u2, .inl (cZ, 320, .inl dr)), (u3, .inl (cJ, 12, .inr (.inl an))), (u4, .inl (cI, 24, .inl (f_twoI 12 fl xfl))), (u5, .inl (cJ, 24, .inr (.inl (f_twoL 12 sm xsm)))), (u6, .inl (cI, 2, .inl (f_lo z xz))), (u7, .inl (cJ, 128, .inr (.inl lg))), (u8, .inl (cJ, 16, .inr (.inl (f_twoL 8 tf xtf))))]) (st1 := [.int (f_isPart (nI k))]) ⟨hx, hb, hml, hown, hts⟩ (k_MO_isPart l dC dI cI cJ cG cZ (nI k)) (va_cwS 1 hts (k_gS m_l_MO_66 m_st_MO_isPart m_in_MO m_c_MO_isPart) rfl rfl rfl (by decide +kernel) ⟨Nat.le_of_ble_eq_true rfl, Nat.le_of_ble_eq_true rfl⟩) hK hF hP hD hS hA [] [0, 1, 2, 3, 4, 5, 6, 7, 8] [0, 1, 2, 3, 4, 5, 6, 7, 8] rfl rfl (by decide) (by decide) (by decide) rfl (by decide) rfl hl.1 rfl (Nat.le_of_ble_eq_true rfl) dMO_goes_1 ⟨Nat.le_of_ble_eq_true rfl, Nat.le_of_ble_eq_true rfl⟩ rfl (fun H locs hP hD hS => ?_)
    refine lv_if_ne (tgt := 17) hx hb dMO_goes_4 (by decide) (fun c_1 => ?_) (fun c_1 => ?_)
    · refine lv_iload_n hx hb dMO_goes_17 rfl (lv_at hl 2 rfl) ?_
      refine lv_bipush (v := 8) hx hb dMO_goes_18 (by decide) ?_
      refine lv_irem hx hb dMO_goes_20 (by decide) ?_
      refine k_topi (y := nI (k % 8)) (pk_rem (a := k) (d := 8) (by omega) (by decide) (by decide)) ?_
      refine lv_istore (lv' := [(6, .int (nI (k % 8))), (0, .ref u0), (1, .int 1), (2, .int (nI k)), (3, .int n), (4, .long v)]) hx hb dMO_goes_21 hl (by decide) rfl (fun ls hl => ?_)
      refine lv_aload_n hx hb dMO_goes_23 rfl (lv_at hl 1 rfl) ?_
      refine lv_iload hx hb dMO_goes_24 (lv_at hl 0 rfl) ?_
      refine lv_iload_n hx hb dMO_goes_26 rfl (lv_at hl 4 rfl) ?_
      refine k_V (wr := [(u3, .inl (cJ, 12, .inr (.inl an))), (u4, .inl (cI, 24, .inl (f_twoI 12 fl xfl))), (u5, .inl (cJ, 24, .inr (.inl (f_twoL 12 sm xsm)))), (u6, .inl (cI, 2, .inl (f_lo z xz))), (u7, .inl (cJ, 128, .inr (.inl lg))), (u8, .inl (cJ, 16, .inr (.inl (f_twoL 8 tf xtf))))]) (W1 := [(u0, .inr (7, [.int th, .ref u1, .ref u2, .ref u3, .ref u4, .ref u5, .ref u6, .ref u7, .ref u8, .ref u9, .ref u10])), (u1, .inl (cI, 8, .inl md)), (u2, .inl (cZ, 320, .inl dr)), (u3, .inl (cJ, 12, .inr (.inl an))), (u4, .inl (cI, 24, .inl (f_twoI 12 fl xfl))), (u5, .inl (cJ, 24, .inr (.inl (f_twoL 12 sm xsm)))), (u6, .inl (cI, 2, .inl (f_lo z xz))), (u7, .inl (cJ, 128, .inr (.inl lg))), (u8, .inl (cJ, 16, .inr (.inl (f_twoL 8 tf xtf))))]) (st1 := [.int (f_isKnown md kn (k % 8) n)]) ⟨hx, hb, hml, hown, hts⟩ (k_MO_isKnown l dC dI cI cJ cG cZ u0 u1 u2 u3 u4 u5 u6 u7 u8 u9 u10 th md dr kn mn (k % 8) n hmn hkd (Nat.mod_lt _ (by decide))) (cwV 2 hts (k_gV m_l_MO_79 m_i_MO_isKnown m_s_MO_isKnown m_in_MO m_c_MO_isKnown) rfl rfl rfl (by decide +kernel) ⟨Nat.le_of_ble_eq_true rfl, Nat.le_of_ble_eq_true rfl⟩) hK hF hP hD hS hA [0, 1, 2] [3, 4, 5, 6, 7, 8] [6, 7, 8, 0, 1, 2, 3, 4, 5] rfl rfl (by decide) (by decide) (by decide) rfl (by decide) rfl rfl rfl rfl hl.1 rfl (Nat.le_of_ble_eq_true rfl) dMO_goes_27 ⟨Nat.le_of_ble_eq_true rfl, Nat.le_of_ble_eq_true rfl⟩ rfl (fun H locs hP hD hS => ?_)
      refine lv_if_ne (tgt := 71) hx hb dMO_goes_30 (by decide) (fun c_2 => ?_) (fun c_2 => ?_)
      · refine lv_bipush (v := 12) hx hb dMO_goes_71 (by decide) ?_
        refine lv_iload_n hx hb dMO_goes_73 rfl (lv_at hl 2 rfl) ?_
        refine lv_imul hx hb dMO_goes_74 ?_
        refine lv_iload_n hx hb dMO_goes_75 rfl (lv_at hl 3 rfl) ?_
        refine lv_iadd hx hb dMO_goes_76 ?_
        refine k_topi (y := nI (12 + k)) (f_12b k) ?_
        refine lv_istore (lv' := [(7, .int (nI (12 + k))), (6, .int (nI (k % 8))), (0, .ref u0), (1, .int 1), (2, .int (nI k)), (3, .int n), (4, .long v)]) hx hb dMO_goes_77 hl (by decide) rfl (fun ls hl => ?_)
        refine lv_aload_n hx hb dMO_goes_79 rfl (lv_at hl 2 rfl) ?_
        refine va_get (D := (dC, dI)) (ci := 7) (v := .ref u4) (C := RMO) (T := TMO) (N := 11) hx hb hts inMO hown hK hP 0 rfl rfl 4 (by decide) (hts _ m_f_MO_21) (fun _ h9 => h9) rfl dMO_goes_80 ?_
        refine lv_iload hx hb dMO_goes_83 (lv_at hl 0 rfl) ?_
        refine k_ild (v := (f_twoI 12 fl xfl) (12 + k)) hx hb hK hP 4 0 rfl rfl (j := (12 + k)) rfl (by omega) (by decide) rfl dMO_goes_85 ?_
        refine k_topi (y := 4) ((f_tI1).trans hf) ?_
        refine lv_istore (lv' := [(8, .int 4), (7, .int (nI (12 + k))), (6, .int (nI (k % 8))), (0, .ref u0), (1, .int 1), (2, .int (nI k)), (3, .int n), (4, .long v)]) hx hb dMO_goes_86 hl (by decide) rfl (fun ls hl => ?_)
        refine lv_iload hx hb dMO_goes_88 (lv_at hl 0 rfl) ?_
        refine lv_if_le (tgt := 157) hx hb dMO_goes_90 (by decide) (fun c_3 => ?_) (fun c_3 => ?_)
        · exact absurd c_3 (by decide)
        · refine lv_aload_n hx hb dMO_goes_93 rfl (lv_at hl 3 rfl) ?_
          refine va_get (D := (dC, dI)) (ci := 7) (v := .ref u4) (C := RMO) (T := TMO) (N := 11) hx hb hts inMO hown hK hP 0 rfl rfl 4 (by decide) (hts _ m_f_MO_21) (fun _ h9 => h9) rfl dMO_goes_94 ?_
          refine lv_iload hx hb dMO_goes_97 (lv_at hl 1 rfl) ?_
          refine lv_iconst (v := 0) hx hb dMO_goes_99 (by decide) ?_
          refine k_ist (W1 := [(u0, .inr (7, [.int th, .ref u1, .ref u2, .ref u3, .ref u4, .ref u5, .ref u6, .ref u7, .ref u8, .ref u9, .ref u10])), (u1, .inl (cI, 8, .inl md)), (u2, .inl (cZ, 320, .inl dr)), (u3, .inl (cJ, 12, .inr (.inl an))), (u4, .inl (cI, 24, .inl (upd (f_twoI 12 fl xfl) (12 + k) 0))), (u5, .inl (cJ, 24, .inr (.inl (f_twoL 12 sm xsm)))), (u6, .inl (cI, 2, .inl (f_lo z xz))), (u7, .inl (cJ, 128, .inr (.inl lg))), (u8, .inl (cJ, 16, .inr (.inl (f_twoL 8 tf xtf))))]) hx hb hK hP hD hS 4 0 rfl rfl (j := (12 + k)) rfl (by omega) (by decide) rfl dMO_goes_100 (fun H locs hP hD hS => ?_)
          refine lv_aload_n hx hb dMO_goes_101 rfl (lv_at hl 3 rfl) ?_
          refine va_get (D := (dC, dI)) (ci := 7) (v := .ref u8) (C := RMO) (T := TMO) (N := 11) hx hb hts inMO hown hK hP 0 rfl rfl 8 (by decide) (hts _ m_f_MO_33) (fun _ h9 => h9) rfl dMO_goes_102 ?_
          refine lv_bipush (v := 8) hx hb dMO_goes_105 (by decide) ?_
          refine lv_iload_n hx hb dMO_goes_107 rfl (lv_at hl 4 rfl) ?_
          refine lv_imul hx hb dMO_goes_108 ?_
          refine lv_iconst (v := 5) hx hb dMO_goes_109 (by decide) ?_
          refine lv_iadd hx hb dMO_goes_110 ?_
          refine lv_iload hx hb dMO_goes_111 (lv_at hl 0 rfl) ?_
          refine lv_i2l hx hb dMO_goes_113 rfl ?_
          refine k_lst (W1 := [(u0, .inr (7, [.int th, .ref u1, .ref u2, .ref u3, .ref u4, .ref u5, .ref u6, .ref u7, .ref u8, .ref u9, .ref u10])), (u1, .inl (cI, 8, .inl md)), (u2, .inl (cZ, 320, .inl dr)), (u3, .inl (cJ, 12, .inr (.inl an))), (u4, .inl (cI, 24, .inl (upd (f_twoI 12 fl xfl) (12 + k) 0))), (u5, .inl (cJ, 24, .inr (.inl (f_twoL 12 sm xsm)))), (u6, .inl (cI, 2, .inl (f_lo z xz))), (u7, .inl (cJ, 128, .inr (.inl lg))), (u8, .inl (cJ, 16, .inr (.inl (vp_updL (f_twoL 8 tf xtf) (8 + 5) ((4 : Int32).toInt64)))))]) hx hb hK hP hD hS 8 1 rfl rfl (j := (8 + 5)) (by decide) (by decide) (by decide) rfl dMO_goes_114 (fun H locs hP hD hS => ?_)
          refine lv_aload_n hx hb dMO_goes_115 rfl (lv_at hl 3 rfl) ?_
          refine va_get (D := (dC, dI)) (ci := 7) (v := .ref u8) (C := RMO) (T := TMO) (N := 11) hx hb hts inMO hown hK hP 0 rfl rfl 8 (by decide) (hts _ m_f_MO_33) (fun _ h9 => h9) rfl dMO_goes_116 ?_
          refine lv_bipush (v := 8) hx hb dMO_goes_119 (by decide) ?_
          refine lv_iload_n hx hb dMO_goes_121 rfl (lv_at hl 4 rfl) ?_
          refine lv_imul hx hb dMO_goes_122 ?_
          refine lv_bipush (v := 6) hx hb dMO_goes_123 (by decide) ?_
          refine lv_iadd hx hb dMO_goes_125 ?_
          refine lv_iload_n hx hb dMO_goes_126 rfl (lv_at hl 5 rfl) ?_
          refine lv_i2l hx hb dMO_goes_127 rfl ?_
          refine k_lst (W1 := [(u0, .inr (7, [.int th, .ref u1, .ref u2, .ref u3, .ref u4, .ref u5, .ref u6, .ref u7, .ref u8, .ref u9, .ref u10])), (u1, .inl (cI, 8, .inl md)), (u2, .inl (cZ, 320, .inl dr)), (u3, .inl (cJ, 12, .inr (.inl an))), (u4, .inl (cI, 24, .inl (upd (f_twoI 12 fl xfl) (12 + k) 0))), (u5, .inl (cJ, 24, .inr (.inl (f_twoL 12 sm xsm)))), (u6, .inl (cI, 2, .inl (f_lo z xz))), (u7, .inl (cJ, 128, .inr (.inl lg))), (u8, .inl (cJ, 16, .inr (.inl (vp_updL (vp_updL (f_twoL 8 tf xtf) (8 + 5) ((4 : Int32).toInt64)) (8 + 6) ((nI k).toInt64)))))]) hx hb hK hP hD hS 8 1 rfl rfl (j := (8 + 6)) (by decide) (by decide) (by decide) rfl dMO_goes_128 (fun H locs hP hD hS => ?_)
          refine lv_aload_n hx hb dMO_goes_129 rfl (lv_at hl 3 rfl) ?_
          refine va_get (D := (dC, dI)) (ci := 7) (v := .ref u8) (C := RMO) (T := TMO) (N := 11) hx hb hts inMO hown hK hP 0 rfl rfl 8 (by decide) (hts _ m_f_MO_33) (fun _ h9 => h9) rfl dMO_goes_130 ?_
          refine lv_bipush (v := 8) hx hb dMO_goes_133 (by decide) ?_
          refine lv_iload_n hx hb dMO_goes_135 rfl (lv_at hl 4 rfl) ?_
          refine lv_imul hx hb dMO_goes_136 ?_
          refine lv_bipush (v := 7) hx hb dMO_goes_137 (by decide) ?_
          refine lv_iadd hx hb dMO_goes_139 ?_
          refine lv_iload_n hx hb dMO_goes_140 rfl (lv_at hl 6 rfl) ?_
          refine lv_i2l hx hb dMO_goes_141 rfl ?_
          refine k_lst (W1 := [(u0, .inr (7, [.int th, .ref u1, .ref u2, .ref u3, .ref u4, .ref u5, .ref u6, .ref u7, .ref u8, .ref u9, .ref u10])), (u1, .inl (cI, 8, .inl md)), (u2, .inl (cZ, 320, .inl dr)), (u3, .inl (cJ, 12, .inr (.inl an))), (u4, .inl (cI, 24, .inl (upd (f_twoI 12 fl xfl) (12 + k) 0))), (u5, .inl (cJ, 24, .inr (.inl (f_twoL 12 sm xsm)))), (u6, .inl (cI, 2, .inl (f_lo z xz))), (u7, .inl (cJ, 128, .inr (.inl lg))), (u8, .inl (cJ, 16, .inr (.inl (vp_updL (vp_updL (vp_updL (f_twoL 8 tf xtf) (8 + 5) ((4 : Int32).toInt64)) (8 + 6) ((nI k).toInt64)) (8 + 7) n.toInt64))))]) hx hb hK hP hD hS 8 1 rfl rfl (j := (8 + 7)) (by decide) (by decide) (by decide) rfl dMO_goes_142 (fun H locs hP hD hS => ?_)
          have hP := k_cvP (W1 := [(u0, .inr (7, [.int th, .ref u1, .ref u2, .ref u3, .ref u4, .ref u5, .ref u6, .ref u7, .ref u8, .ref u9, .ref u10])), (u1, .inl (cI, 8, .inl md)), (u2, .inl (cZ, 320, .inl dr)), (u3, .inl (cJ, 12, .inr (.inl an))), (u4, .inl (cI, 24, .inl (upd (f_twoI 12 fl xfl) (12 + k) 0))), (u5, .inl (cJ, 24, .inr (.inl (f_twoL 12 sm xsm)))), (u6, .inl (cI, 2, .inl (f_lo z xz))), (u7, .inl (cJ, 128, .inr (.inl lg))), (u8, .inl (cJ, 16, .inr (.inl (f_twoL 8 tf (vp_updL (vp_updL (vp_updL xtf 5 ((4 : Int32).toInt64)) 6 ((nI k).toInt64)) 7 (n.toInt64))))))]) (by rw [show f_twoL 8 tf (vp_updL (vp_updL (vp_updL xtf 5 ((4 : Int32).toInt64)) 6 ((nI k).toInt64)) 7 (n.toInt64)) = vp_updL (vp_updL (vp_updL (f_twoL 8 tf xtf) (8 + 5) ((4 : Int32).toInt64)) (8 + 6) ((nI k).toInt64)) (8 + 7) n.toInt64 by rw [f_uL1, f_uL1, f_uL1]]) hP
          have hD := k_cvD (W1 := [(u0, .inr (7, [.int th, .ref u1, .ref u2, .ref u3, .ref u4, .ref u5, .ref u6, .ref u7, .ref u8, .ref u9, .ref u10])), (u1, .inl (cI, 8, .inl md)), (u2, .inl (cZ, 320, .inl dr)), (u3, .inl (cJ, 12, .inr (.inl an))), (u4, .inl (cI, 24, .inl (upd (f_twoI 12 fl xfl) (12 + k) 0))), (u5, .inl (cJ, 24, .inr (.inl (f_twoL 12 sm xsm)))), (u6, .inl (cI, 2, .inl (f_lo z xz))), (u7, .inl (cJ, 128, .inr (.inl lg))), (u8, .inl (cJ, 16, .inr (.inl (f_twoL 8 tf (vp_updL (vp_updL (vp_updL xtf 5 ((4 : Int32).toInt64)) 6 ((nI k).toInt64)) 7 (n.toInt64))))))]) (by rw [show f_twoL 8 tf (vp_updL (vp_updL (vp_updL xtf 5 ((4 : Int32).toInt64)) 6 ((nI k).toInt64)) 7 (n.toInt64)) = vp_updL (vp_updL (vp_updL (f_twoL 8 tf xtf) (8 + 5) ((4 : Int32).toInt64)) (8 + 6) ((nI k).toInt64)) (8 + 7) n.toInt64 by rw [f_uL1, f_uL1, f_uL1]]) hD
          refine lv_aload_n hx hb dMO_goes_143 rfl (lv_at hl 3 rfl) ?_
          refine lv_iload_n hx hb dMO_goes_144 rfl (lv_at hl 4 rfl) ?_
          refine lv_ldc2 (v := (-100)) hx hb hown (hts _ m_k_MO_91) dMO_goes_145 ?_
          refine lv_iload hx hb dMO_goes_148 (lv_at hl 0 rfl) ?_
          refine lv_i2l hx hb dMO_goes_150 rfl ?_
          refine lv_lsub hx hb dMO_goes_151 ?_
          refine k_topl (y := (-100 - (4 : Int32)).toInt64) (by decide) ?_
          refine lv_iconst (v := 4) hx hb dMO_goes_152 (by decide) ?_
          refine k_V (wr := [(u1, .inl (cI, 8, .inl md)), (u2, .inl (cZ, 320, .inl dr)), (u3, .inl (cJ, 12, .inr (.inl an))), (u4, .inl (cI, 24, .inl (upd (f_twoI 12 fl xfl) (12 + k) 0))), (u5, .inl (cJ, 24, .inr (.inl (f_twoL 12 sm xsm))))]) (W1 := [(u0, .inr (7, [.int th, .ref u1, .ref u2, .ref u3, .ref u4, .ref u5, .ref u6, .ref u7, .ref u8, .ref u9, .ref u10])), (u1, .inl (cI, 8, .inl md)), (u2, .inl (cZ, 320, .inl dr)), (u3, .inl (cJ, 12, .inr (.inl an))), (u4, .inl (cI, 24, .inl (upd (f_twoI 12 fl xfl) (12 + k) 0))), (u5, .inl (cJ, 24, .inr (.inl (f_twoL 12 sm xsm)))), (u6, .inl (cI, 2, .inl (f_lo z (f_js xz)))), (u7, .inl (cJ, 128, .inr (.inl (f_wr lg xz ((-100 - (4 : Int32)).toInt64) 64)))), (u8, .inl (cJ, 16, .inr (.inl (f_twoL 8 tf (vp_updL (vp_updL (vp_updL (vp_updL xtf 5 ((4 : Int32).toInt64)) 6 ((nI k).toInt64)) 7 (n.toInt64)) 4 ((vp_updL (vp_updL (vp_updL xtf 5 ((4 : Int32).toInt64)) 6 ((nI k).toInt64)) 7 (n.toInt64)) 4 + 1))))))]) (st1 := [.long ((-100 - (4 : Int32)).toInt64)]) ⟨hx, hb, hml, hown, hts⟩ (k_MO_writes_1 l dC dI cI cJ cG cZ u0 u1 u2 u3 u4 u5 u6 u7 u8 u9 u10 th lg tf (vp_updL (vp_updL (vp_updL xtf 5 ((4 : Int32).toInt64)) 6 ((nI k).toInt64)) 7 (n.toInt64)) z xz 4 ((-100 - (4 : Int32)).toInt64) hz (by decide)) (cwV 3 hts (k_gV m_l_MO_83 m_i_MO_writes m_s_MO_writes m_in_MO m_c_MO_writes) rfl rfl rfl (by decide +kernel) ⟨Nat.le_of_ble_eq_true rfl, Nat.le_of_ble_eq_true rfl⟩) hK hF hP hD hS hA [0, 6, 7, 8] [1, 2, 3, 4, 5] [5, 0, 1, 2, 3, 4, 6, 7, 8] rfl rfl (by decide) (by decide) (by decide) rfl (by decide) rfl rfl rfl rfl hl.1 rfl (Nat.le_of_ble_eq_true rfl) dMO_goes_153 ⟨Nat.le_of_ble_eq_true rfl, Nat.le_of_ble_eq_true rfl⟩ rfl (fun H locs hP hD hS => ?_)
          exact k_lret hx hb hr hlocks hP hK hD hS rfl dMO_goes_156 ⟨Nat.le_of_ble_eq_true rfl, Nat.le_of_ble_eq_true rfl⟩
      · exact absurd c_2 h2
    · exact absurd c_1 (by rw [f_isPart_nI hk]; decide)
  · obtain ⟨h2, hf⟩ := h2
    have hn : ¬ xfl k = 0 := by rw [hf]; decide
    have e1 : f_cd md kn (nI k) n = 0 := by unfold f_cd; rw [if_neg (by rw [f_isPart_nI hk]; decide), nI_clamp (by omega), if_neg h1, if_neg h2]
    rw [show f_aS md kn xsm xfl (nI k) n v = xsm by unfold f_aS f_apS; rw [if_pos e1, nI_clamp (by omega), if_neg hn], show f_aF md kn xfl (nI k) n = upd xfl k 0 by unfold f_aF; rw [if_pos e1, nI_clamp (by omega)], show f_aT md kn xtf xfl (nI k) n = vp_updL (vp_updL (vp_updL (vp_updL xtf 5 ((5 : Int32).toInt64)) 6 ((nI k).toInt64)) 7 (n.toInt64)) 4 ((vp_updL (vp_updL (vp_updL xtf 5 ((5 : Int32).toInt64)) 6 ((nI k).toInt64)) 7 (n.toInt64)) 4 + 1) by unfold f_aT f_apT; rw [if_pos e1, nI_clamp (by omega), if_neg hn, hf]; exact f_tellT _ _ _ _, show f_aA md kn an xsm xfl (nI k) n v = (-100 - (5 : Int32)).toInt64 by unfold f_aA f_apA; rw [if_pos e1, nI_clamp (by omega), if_neg hn, hf]]
    rw [show f_twoI 12 fl (upd xfl k 0) = upd (f_twoI 12 fl xfl) (12 + k) 0 from f_uI1]
    refine k_of (cc := cMO_goes) (maxL := 9) (ret := (some .long)) (by decide) rfl (Nat.le_of_ble_eq_true rfl) ?_
    intro p e s m below meth c A ls hx hb hr hlocks hml hown hts hA hP hD hK hF hl hS
    have hown : s.vm.findClass RMO = some m.cls := hown
    have hl : lv_has ls 9 [(0, .ref u0), (1, .int 1), (2, .int (nI k)), (3, .int n), (4, .long v)] := hl
    refine lv_iload_n hx hb dMO_goes_0 rfl (lv_at hl 2 rfl) ?_
    refine k_S (wr := [(u0, .inr (7, [.int th, .ref u1, .ref u2, .ref u3, .ref u4, .ref u5, .ref u6, .ref u7, .ref u8, .ref u9, .ref u10])), (u1, .inl (cI, 8, .inl md)), (u2, .inl (cZ, 320, .inl dr)), (u3, .inl (cJ, 12, .inr (.inl an))), (u4, .inl (cI, 24, .inl (f_twoI 12 fl xfl))), (u5, .inl (cJ, 24, .inr (.inl (f_twoL 12 sm xsm)))), (u6, .inl (cI, 2, .inl (f_lo z xz))), (u7, .inl (cJ, 128, .inr (.inl lg))), (u8, .inl (cJ, 16, .inr (.inl (f_twoL 8 tf xtf))))]) (W1 := [(u0, .inr (7, [.int th, .ref u1, .ref u2, .ref u3, .ref u4, .ref u5, .ref u6, .ref u7, .ref u8, .ref u9, .ref u10])), (u1, .inl (cI, 8, .inl md)), (u2, .inl (cZ, 320, .inl dr)), (u3, .inl (cJ, 12, .inr (.inl an))), (u4, .inl (cI, 24, .inl (f_twoI 12 fl xfl))), (u5, .inl (cJ, 24, .inr (.inl (f_twoL 12 sm xsm)))), (u6, .inl (cI, 2, .inl (f_lo z xz))), (u7, .inl (cJ, 128, .inr (.inl lg))), (u8, .inl (cJ, 16, .inr (.inl (f_twoL 8 tf xtf))))]) (st1 := [.int (f_isPart (nI k))]) ⟨hx, hb, hml, hown, hts⟩ (k_MO_isPart l dC dI cI cJ cG cZ (nI k)) (va_cwS 1 hts (k_gS m_l_MO_66 m_st_MO_isPart m_in_MO m_c_MO_isPart) rfl rfl rfl (by decide +kernel) ⟨Nat.le_of_ble_eq_true rfl, Nat.le_of_ble_eq_true rfl⟩) hK hF hP hD hS hA [] [0, 1, 2, 3, 4, 5, 6, 7, 8] [0, 1, 2, 3, 4, 5, 6, 7, 8] rfl rfl (by decide) (by decide) (by decide) rfl (by decide) rfl hl.1 rfl (Nat.le_of_ble_eq_true rfl) dMO_goes_1 ⟨Nat.le_of_ble_eq_true rfl, Nat.le_of_ble_eq_true rfl⟩ rfl (fun H locs hP hD hS => ?_)
    refine lv_if_ne (tgt := 17) hx hb dMO_goes_4 (by decide) (fun c_1 => ?_) (fun c_1 => ?_)
    · refine lv_iload_n hx hb dMO_goes_17 rfl (lv_at hl 2 rfl) ?_
      refine lv_bipush (v := 8) hx hb dMO_goes_18 (by decide) ?_
      refine lv_irem hx hb dMO_goes_20 (by decide) ?_
      refine k_topi (y := nI (k % 8)) (pk_rem (a := k) (d := 8) (by omega) (by decide) (by decide)) ?_
      refine lv_istore (lv' := [(6, .int (nI (k % 8))), (0, .ref u0), (1, .int 1), (2, .int (nI k)), (3, .int n), (4, .long v)]) hx hb dMO_goes_21 hl (by decide) rfl (fun ls hl => ?_)
      refine lv_aload_n hx hb dMO_goes_23 rfl (lv_at hl 1 rfl) ?_
      refine lv_iload hx hb dMO_goes_24 (lv_at hl 0 rfl) ?_
      refine lv_iload_n hx hb dMO_goes_26 rfl (lv_at hl 4 rfl) ?_
      refine k_V (wr := [(u3, .inl (cJ, 12, .inr (.inl an))), (u4, .inl (cI, 24, .inl (f_twoI 12 fl xfl))), (u5, .inl (cJ, 24, .inr (.inl (f_twoL 12 sm xsm)))), (u6, .inl (cI, 2, .inl (f_lo z xz))), (u7, .inl (cJ, 128, .inr (.inl lg))), (u8, .inl (cJ, 16, .inr (.inl (f_twoL 8 tf xtf))))]) (W1 := [(u0, .inr (7, [.int th, .ref u1, .ref u2, .ref u3, .ref u4, .ref u5, .ref u6, .ref u7, .ref u8, .ref u9, .ref u10])), (u1, .inl (cI, 8, .inl md)), (u2, .inl (cZ, 320, .inl dr)), (u3, .inl (cJ, 12, .inr (.inl an))), (u4, .inl (cI, 24, .inl (f_twoI 12 fl xfl))), (u5, .inl (cJ, 24, .inr (.inl (f_twoL 12 sm xsm)))), (u6, .inl (cI, 2, .inl (f_lo z xz))), (u7, .inl (cJ, 128, .inr (.inl lg))), (u8, .inl (cJ, 16, .inr (.inl (f_twoL 8 tf xtf))))]) (st1 := [.int (f_isKnown md kn (k % 8) n)]) ⟨hx, hb, hml, hown, hts⟩ (k_MO_isKnown l dC dI cI cJ cG cZ u0 u1 u2 u3 u4 u5 u6 u7 u8 u9 u10 th md dr kn mn (k % 8) n hmn hkd (Nat.mod_lt _ (by decide))) (cwV 2 hts (k_gV m_l_MO_79 m_i_MO_isKnown m_s_MO_isKnown m_in_MO m_c_MO_isKnown) rfl rfl rfl (by decide +kernel) ⟨Nat.le_of_ble_eq_true rfl, Nat.le_of_ble_eq_true rfl⟩) hK hF hP hD hS hA [0, 1, 2] [3, 4, 5, 6, 7, 8] [6, 7, 8, 0, 1, 2, 3, 4, 5] rfl rfl (by decide) (by decide) (by decide) rfl (by decide) rfl rfl rfl rfl hl.1 rfl (Nat.le_of_ble_eq_true rfl) dMO_goes_27 ⟨Nat.le_of_ble_eq_true rfl, Nat.le_of_ble_eq_true rfl⟩ rfl (fun H locs hP hD hS => ?_)
      refine lv_if_ne (tgt := 71) hx hb dMO_goes_30 (by decide) (fun c_2 => ?_) (fun c_2 => ?_)
      · refine lv_bipush (v := 12) hx hb dMO_goes_71 (by decide) ?_
        refine lv_iload_n hx hb dMO_goes_73 rfl (lv_at hl 2 rfl) ?_
        refine lv_imul hx hb dMO_goes_74 ?_
        refine lv_iload_n hx hb dMO_goes_75 rfl (lv_at hl 3 rfl) ?_
        refine lv_iadd hx hb dMO_goes_76 ?_
        refine k_topi (y := nI (12 + k)) (f_12b k) ?_
        refine lv_istore (lv' := [(7, .int (nI (12 + k))), (6, .int (nI (k % 8))), (0, .ref u0), (1, .int 1), (2, .int (nI k)), (3, .int n), (4, .long v)]) hx hb dMO_goes_77 hl (by decide) rfl (fun ls hl => ?_)
        refine lv_aload_n hx hb dMO_goes_79 rfl (lv_at hl 2 rfl) ?_
        refine va_get (D := (dC, dI)) (ci := 7) (v := .ref u4) (C := RMO) (T := TMO) (N := 11) hx hb hts inMO hown hK hP 0 rfl rfl 4 (by decide) (hts _ m_f_MO_21) (fun _ h9 => h9) rfl dMO_goes_80 ?_
        refine lv_iload hx hb dMO_goes_83 (lv_at hl 0 rfl) ?_
        refine k_ild (v := (f_twoI 12 fl xfl) (12 + k)) hx hb hK hP 4 0 rfl rfl (j := (12 + k)) rfl (by omega) (by decide) rfl dMO_goes_85 ?_
        refine k_topi (y := 5) ((f_tI1).trans hf) ?_
        refine lv_istore (lv' := [(8, .int 5), (7, .int (nI (12 + k))), (6, .int (nI (k % 8))), (0, .ref u0), (1, .int 1), (2, .int (nI k)), (3, .int n), (4, .long v)]) hx hb dMO_goes_86 hl (by decide) rfl (fun ls hl => ?_)
        refine lv_iload hx hb dMO_goes_88 (lv_at hl 0 rfl) ?_
        refine lv_if_le (tgt := 157) hx hb dMO_goes_90 (by decide) (fun c_3 => ?_) (fun c_3 => ?_)
        · exact absurd c_3 (by decide)
        · refine lv_aload_n hx hb dMO_goes_93 rfl (lv_at hl 3 rfl) ?_
          refine va_get (D := (dC, dI)) (ci := 7) (v := .ref u4) (C := RMO) (T := TMO) (N := 11) hx hb hts inMO hown hK hP 0 rfl rfl 4 (by decide) (hts _ m_f_MO_21) (fun _ h9 => h9) rfl dMO_goes_94 ?_
          refine lv_iload hx hb dMO_goes_97 (lv_at hl 1 rfl) ?_
          refine lv_iconst (v := 0) hx hb dMO_goes_99 (by decide) ?_
          refine k_ist (W1 := [(u0, .inr (7, [.int th, .ref u1, .ref u2, .ref u3, .ref u4, .ref u5, .ref u6, .ref u7, .ref u8, .ref u9, .ref u10])), (u1, .inl (cI, 8, .inl md)), (u2, .inl (cZ, 320, .inl dr)), (u3, .inl (cJ, 12, .inr (.inl an))), (u4, .inl (cI, 24, .inl (upd (f_twoI 12 fl xfl) (12 + k) 0))), (u5, .inl (cJ, 24, .inr (.inl (f_twoL 12 sm xsm)))), (u6, .inl (cI, 2, .inl (f_lo z xz))), (u7, .inl (cJ, 128, .inr (.inl lg))), (u8, .inl (cJ, 16, .inr (.inl (f_twoL 8 tf xtf))))]) hx hb hK hP hD hS 4 0 rfl rfl (j := (12 + k)) rfl (by omega) (by decide) rfl dMO_goes_100 (fun H locs hP hD hS => ?_)
          refine lv_aload_n hx hb dMO_goes_101 rfl (lv_at hl 3 rfl) ?_
          refine va_get (D := (dC, dI)) (ci := 7) (v := .ref u8) (C := RMO) (T := TMO) (N := 11) hx hb hts inMO hown hK hP 0 rfl rfl 8 (by decide) (hts _ m_f_MO_33) (fun _ h9 => h9) rfl dMO_goes_102 ?_
          refine lv_bipush (v := 8) hx hb dMO_goes_105 (by decide) ?_
          refine lv_iload_n hx hb dMO_goes_107 rfl (lv_at hl 4 rfl) ?_
          refine lv_imul hx hb dMO_goes_108 ?_
          refine lv_iconst (v := 5) hx hb dMO_goes_109 (by decide) ?_
          refine lv_iadd hx hb dMO_goes_110 ?_
          refine lv_iload hx hb dMO_goes_111 (lv_at hl 0 rfl) ?_
          refine lv_i2l hx hb dMO_goes_113 rfl ?_
          refine k_lst (W1 := [(u0, .inr (7, [.int th, .ref u1, .ref u2, .ref u3, .ref u4, .ref u5, .ref u6, .ref u7, .ref u8, .ref u9, .ref u10])), (u1, .inl (cI, 8, .inl md)), (u2, .inl (cZ, 320, .inl dr)), (u3, .inl (cJ, 12, .inr (.inl an))), (u4, .inl (cI, 24, .inl (upd (f_twoI 12 fl xfl) (12 + k) 0))), (u5, .inl (cJ, 24, .inr (.inl (f_twoL 12 sm xsm)))), (u6, .inl (cI, 2, .inl (f_lo z xz))), (u7, .inl (cJ, 128, .inr (.inl lg))), (u8, .inl (cJ, 16, .inr (.inl (vp_updL (f_twoL 8 tf xtf) (8 + 5) ((5 : Int32).toInt64)))))]) hx hb hK hP hD hS 8 1 rfl rfl (j := (8 + 5)) (by decide) (by decide) (by decide) rfl dMO_goes_114 (fun H locs hP hD hS => ?_)
          refine lv_aload_n hx hb dMO_goes_115 rfl (lv_at hl 3 rfl) ?_
          refine va_get (D := (dC, dI)) (ci := 7) (v := .ref u8) (C := RMO) (T := TMO) (N := 11) hx hb hts inMO hown hK hP 0 rfl rfl 8 (by decide) (hts _ m_f_MO_33) (fun _ h9 => h9) rfl dMO_goes_116 ?_
          refine lv_bipush (v := 8) hx hb dMO_goes_119 (by decide) ?_
          refine lv_iload_n hx hb dMO_goes_121 rfl (lv_at hl 4 rfl) ?_
          refine lv_imul hx hb dMO_goes_122 ?_
          refine lv_bipush (v := 6) hx hb dMO_goes_123 (by decide) ?_
          refine lv_iadd hx hb dMO_goes_125 ?_
          refine lv_iload_n hx hb dMO_goes_126 rfl (lv_at hl 5 rfl) ?_
          refine lv_i2l hx hb dMO_goes_127 rfl ?_
          refine k_lst (W1 := [(u0, .inr (7, [.int th, .ref u1, .ref u2, .ref u3, .ref u4, .ref u5, .ref u6, .ref u7, .ref u8, .ref u9, .ref u10])), (u1, .inl (cI, 8, .inl md)), (u2, .inl (cZ, 320, .inl dr)), (u3, .inl (cJ, 12, .inr (.inl an))), (u4, .inl (cI, 24, .inl (upd (f_twoI 12 fl xfl) (12 + k) 0))), (u5, .inl (cJ, 24, .inr (.inl (f_twoL 12 sm xsm)))), (u6, .inl (cI, 2, .inl (f_lo z xz))), (u7, .inl (cJ, 128, .inr (.inl lg))), (u8, .inl (cJ, 16, .inr (.inl (vp_updL (vp_updL (f_twoL 8 tf xtf) (8 + 5) ((5 : Int32).toInt64)) (8 + 6) ((nI k).toInt64)))))]) hx hb hK hP hD hS 8 1 rfl rfl (j := (8 + 6)) (by decide) (by decide) (by decide) rfl dMO_goes_128 (fun H locs hP hD hS => ?_)
          refine lv_aload_n hx hb dMO_goes_129 rfl (lv_at hl 3 rfl) ?_
          refine va_get (D := (dC, dI)) (ci := 7) (v := .ref u8) (C := RMO) (T := TMO) (N := 11) hx hb hts inMO hown hK hP 0 rfl rfl 8 (by decide) (hts _ m_f_MO_33) (fun _ h9 => h9) rfl dMO_goes_130 ?_
          refine lv_bipush (v := 8) hx hb dMO_goes_133 (by decide) ?_
          refine lv_iload_n hx hb dMO_goes_135 rfl (lv_at hl 4 rfl) ?_
          refine lv_imul hx hb dMO_goes_136 ?_
          refine lv_bipush (v := 7) hx hb dMO_goes_137 (by decide) ?_
          refine lv_iadd hx hb dMO_goes_139 ?_
          refine lv_iload_n hx hb dMO_goes_140 rfl (lv_at hl 6 rfl) ?_
          refine lv_i2l hx hb dMO_goes_141 rfl ?_
          refine k_lst (W1 := [(u0, .inr (7, [.int th, .ref u1, .ref u2, .ref u3, .ref u4, .ref u5, .ref u6, .ref u7, .ref u8, .ref u9, .ref u10])), (u1, .inl (cI, 8, .inl md)), (u2, .inl (cZ, 320, .inl dr)), (u3, .inl (cJ, 12, .inr (.inl an))), (u4, .inl (cI, 24, .inl (upd (f_twoI 12 fl xfl) (12 + k) 0))), (u5, .inl (cJ, 24, .inr (.inl (f_twoL 12 sm xsm)))), (u6, .inl (cI, 2, .inl (f_lo z xz))), (u7, .inl (cJ, 128, .inr (.inl lg))), (u8, .inl (cJ, 16, .inr (.inl (vp_updL (vp_updL (vp_updL (f_twoL 8 tf xtf) (8 + 5) ((5 : Int32).toInt64)) (8 + 6) ((nI k).toInt64)) (8 + 7) n.toInt64))))]) hx hb hK hP hD hS 8 1 rfl rfl (j := (8 + 7)) (by decide) (by decide) (by decide) rfl dMO_goes_142 (fun H locs hP hD hS => ?_)
          have hP := k_cvP (W1 := [(u0, .inr (7, [.int th, .ref u1, .ref u2, .ref u3, .ref u4, .ref u5, .ref u6, .ref u7, .ref u8, .ref u9, .ref u10])), (u1, .inl (cI, 8, .inl md)), (u2, .inl (cZ, 320, .inl dr)), (u3, .inl (cJ, 12, .inr (.inl an))), (u4, .inl (cI, 24, .inl (upd (f_twoI 12 fl xfl) (12 + k) 0))), (u5, .inl (cJ, 24, .inr (.inl (f_twoL 12 sm xsm)))), (u6, .inl (cI, 2, .inl (f_lo z xz))), (u7, .inl (cJ, 128, .inr (.inl lg))), (u8, .inl (cJ, 16, .inr (.inl (f_twoL 8 tf (vp_updL (vp_updL (vp_updL xtf 5 ((5 : Int32).toInt64)) 6 ((nI k).toInt64)) 7 (n.toInt64))))))]) (by rw [show f_twoL 8 tf (vp_updL (vp_updL (vp_updL xtf 5 ((5 : Int32).toInt64)) 6 ((nI k).toInt64)) 7 (n.toInt64)) = vp_updL (vp_updL (vp_updL (f_twoL 8 tf xtf) (8 + 5) ((5 : Int32).toInt64)) (8 + 6) ((nI k).toInt64)) (8 + 7) n.toInt64 by rw [f_uL1, f_uL1, f_uL1]]) hP
          have hD := k_cvD (W1 := [(u0, .inr (7, [.int th, .ref u1, .ref u2, .ref u3, .ref u4, .ref u5, .ref u6, .ref u7, .ref u8, .ref u9, .ref u10])), (u1, .inl (cI, 8, .inl md)), (u2, .inl (cZ, 320, .inl dr)), (u3, .inl (cJ, 12, .inr (.inl an))), (u4, .inl (cI, 24, .inl (upd (f_twoI 12 fl xfl) (12 + k) 0))), (u5, .inl (cJ, 24, .inr (.inl (f_twoL 12 sm xsm)))), (u6, .inl (cI, 2, .inl (f_lo z xz))), (u7, .inl (cJ, 128, .inr (.inl lg))), (u8, .inl (cJ, 16, .inr (.inl (f_twoL 8 tf (vp_updL (vp_updL (vp_updL xtf 5 ((5 : Int32).toInt64)) 6 ((nI k).toInt64)) 7 (n.toInt64))))))]) (by rw [show f_twoL 8 tf (vp_updL (vp_updL (vp_updL xtf 5 ((5 : Int32).toInt64)) 6 ((nI k).toInt64)) 7 (n.toInt64)) = vp_updL (vp_updL (vp_updL (f_twoL 8 tf xtf) (8 + 5) ((5 : Int32).toInt64)) (8 + 6) ((nI k).toInt64)) (8 + 7) n.toInt64 by rw [f_uL1, f_uL1, f_uL1]]) hD
          refine lv_aload_n hx hb dMO_goes_143 rfl (lv_at hl 3 rfl) ?_
          refine lv_iload_n hx hb dMO_goes_144 rfl (lv_at hl 4 rfl) ?_
          refine lv_ldc2 (v := (-100)) hx hb hown (hts _ m_k_MO_91) dMO_goes_145 ?_
          refine lv_iload hx hb dMO_goes_148 (lv_at hl 0 rfl) ?_
          refine lv_i2l hx hb dMO_goes_150 rfl ?_
          refine lv_lsub hx hb dMO_goes_151 ?_
          refine k_topl (y := (-100 - (5 : Int32)).toInt64) (by decide) ?_
          refine lv_iconst (v := 4) hx hb dMO_goes_152 (by decide) ?_
          refine k_V (wr := [(u1, .inl (cI, 8, .inl md)), (u2, .inl (cZ, 320, .inl dr)), (u3, .inl (cJ, 12, .inr (.inl an))), (u4, .inl (cI, 24, .inl (upd (f_twoI 12 fl xfl) (12 + k) 0))), (u5, .inl (cJ, 24, .inr (.inl (f_twoL 12 sm xsm))))]) (W1 := [(u0, .inr (7, [.int th, .ref u1, .ref u2, .ref u3, .ref u4, .ref u5, .ref u6, .ref u7, .ref u8, .ref u9, .ref u10])), (u1, .inl (cI, 8, .inl md)), (u2, .inl (cZ, 320, .inl dr)), (u3, .inl (cJ, 12, .inr (.inl an))), (u4, .inl (cI, 24, .inl (upd (f_twoI 12 fl xfl) (12 + k) 0))), (u5, .inl (cJ, 24, .inr (.inl (f_twoL 12 sm xsm)))), (u6, .inl (cI, 2, .inl (f_lo z (f_js xz)))), (u7, .inl (cJ, 128, .inr (.inl (f_wr lg xz ((-100 - (5 : Int32)).toInt64) 64)))), (u8, .inl (cJ, 16, .inr (.inl (f_twoL 8 tf (vp_updL (vp_updL (vp_updL (vp_updL xtf 5 ((5 : Int32).toInt64)) 6 ((nI k).toInt64)) 7 (n.toInt64)) 4 ((vp_updL (vp_updL (vp_updL xtf 5 ((5 : Int32).toInt64)) 6 ((nI k).toInt64)) 7 (n.toInt64)) 4 + 1))))))]) (st1 := [.long ((-100 - (5 : Int32)).toInt64)]) ⟨hx, hb, hml, hown, hts⟩ (k_MO_writes_1 l dC dI cI cJ cG cZ u0 u1 u2 u3 u4 u5 u6 u7 u8 u9 u10 th lg tf (vp_updL (vp_updL (vp_updL xtf 5 ((5 : Int32).toInt64)) 6 ((nI k).toInt64)) 7 (n.toInt64)) z xz 4 ((-100 - (5 : Int32)).toInt64) hz (by decide)) (cwV 3 hts (k_gV m_l_MO_83 m_i_MO_writes m_s_MO_writes m_in_MO m_c_MO_writes) rfl rfl rfl (by decide +kernel) ⟨Nat.le_of_ble_eq_true rfl, Nat.le_of_ble_eq_true rfl⟩) hK hF hP hD hS hA [0, 6, 7, 8] [1, 2, 3, 4, 5] [5, 0, 1, 2, 3, 4, 6, 7, 8] rfl rfl (by decide) (by decide) (by decide) rfl (by decide) rfl rfl rfl rfl hl.1 rfl (Nat.le_of_ble_eq_true rfl) dMO_goes_153 ⟨Nat.le_of_ble_eq_true rfl, Nat.le_of_ble_eq_true rfl⟩ rfl (fun H locs hP hD hS => ?_)
          exact k_lret hx hb hr hlocks hP hK hD hS rfl dMO_goes_156 ⟨Nat.le_of_ble_eq_true rfl, Nat.le_of_ble_eq_true rfl⟩
      · exact absurd c_2 h2
    · exact absurd c_1 (by rw [f_isPart_nI hk]; decide)

abbrev rm_MO_again : Room := { frames := 2, cells := 0, slots := 0, locals := 54 }
set_option maxHeartbeats 4000000 in
set_option maxRecDepth 100000 in
theorem k_MO_again (l : Launch) (dC : Nat → ClassId) (dI : Nat → Nat → Nat) (cI cJ cG cZ : ClassId) (u0 : Nat) (u1 : Nat) (u2 : Nat) (u3 : Nat) (u4 : Nat) (u5 : Nat) (u6 : Nat) (u7 : Nat) (u8 : Nat) (u9 : Nat) (u10 : Nat) (th : Int32) (md : Nat → Int32) (dr : Nat → Int32) (kn : Nat → Int64) (an : Nat → Int64) (fl : Nat → Int32) (xfl : Nat → Int32) (sm : Nat → Int64) (xsm : Nat → Int64) (tf : Nat → Int64) (xtf : Nat → Int64) (lg : Nat → Int64) (z : Nat) (xz : Nat) (mn : Nat → Nat) (x : Int32) (n : Int32) (v : Int64) (hmn : ∀ k : Nat, k < 8 → md k = nI (mn k) ∧ mn k ≤ 40) (hkd : ∀ k : Nat, k < 8 → ∀ j : Nat, j < mn k → (dr (40 * k + j) = 0 ↔ f_kb (kn k) j = true)) (xhg : ∀ k : Nat, k < 12 → xfl k = 0 ∨ xfl k = 1 ∨ xfl k = 2 ∨ xfl k = 3 ∨ xfl k = 4 ∨ xfl k = 5) (xhz : xz ≤ 64) : k_M l yMO_again wsMO_again rm_MO_again (dC, dI) vwCl [(cI, .int), (cJ, .long), (cG, .array .long), (cZ, .boolean)] [.ref u0, .int x, .int n, .long v] [(u0, .inr (7, [.int th, .ref u1, .ref u2, .ref u3, .ref u4, .ref u5, .ref u6, .ref u7, .ref u8, .ref u9, .ref u10])), (u1, .inl (cI, 8, .inl md)), (u2, .inl (cZ, 320, .inl dr)), (u3, .inl (cJ, 12, .inr (.inl an))), (u4, .inl (cI, 24, .inl (f_twoI 12 fl xfl))), (u5, .inl (cJ, 24, .inr (.inl (f_twoL 12 sm xsm)))), (u6, .inl (cI, 2, .inl (f_lo z xz))), (u7, .inl (cJ, 128, .inr (.inl lg))), (u8, .inl (cJ, 16, .inr (.inl (f_twoL 8 tf xtf))))] (some (.long (f_aA md kn an xsm xfl x n v))) [(u0, .inr (7, [.int 0, .ref u1, .ref u2, .ref u3, .ref u4, .ref u5, .ref u6, .ref u7, .ref u8, .ref u9, .ref u10])), (u1, .inl (cI, 8, .inl md)), (u2, .inl (cZ, 320, .inl dr)), (u3, .inl (cJ, 12, .inr (.inl an))), (u4, .inl (cI, 24, .inl (f_twoI 12 fl (f_aF md kn xfl x n)))), (u5, .inl (cJ, 24, .inr (.inl (f_twoL 12 sm (f_aS md kn xsm xfl x n v))))), (u6, .inl (cI, 2, .inl (f_lo z (f_js xz)))), (u7, .inl (cJ, 128, .inr (.inl (f_wr lg xz (f_aA md kn an xsm xfl x n v) 64)))), (u8, .inl (cJ, 16, .inr (.inl (f_twoL 8 tf (f_aT md kn xtf xfl x n)))))] := by
  refine k_of (cc := cMO_again) (maxL := 5) (ret := (some .long)) (by decide) rfl (Nat.le_of_ble_eq_true rfl) ?_
  intro p e s m below meth c A ls hx hb hr hlocks hml hown hts hA hP hD hK hF hl hS
  have hown : s.vm.findClass RMO = some m.cls := hown
  have hl : lv_has ls 5 [(0, .ref u0), (1, .int x), (2, .int n), (3, .long v)] := hl
  refine lv_aload_n hx hb dMO_again_0 rfl (lv_at hl 0 rfl) ?_
  refine lv_iconst (v := 0) hx hb dMO_again_1 (by decide) ?_
  refine va_put (D := (dC, dI)) (ci := 7) (v := .int 0) (ty := .int) (C := RMO) (T := TMO) (N := 11) hx hb hts inMO tyMO tyMO_ok nmMO hown hK hP hD hS 0 rfl rfl 0 (by decide) (hts _ m_f_MO_44) (fun _ h9 => h9) rfl (by decide +kernel) rfl rfl (Nat.le_of_ble_eq_true rfl) dMO_again_2 (fun H locs hP hD hS => ?_)
  have hP : va_P (dC, dI) vwCl [(u0, .inr (7, [.int 0, .ref u1, .ref u2, .ref u3, .ref u4, .ref u5, .ref u6, .ref u7, .ref u8, .ref u9, .ref u10])), (u1, .inl (cI, 8, .inl md)), (u2, .inl (cZ, 320, .inl dr)), (u3, .inl (cJ, 12, .inr (.inl an))), (u4, .inl (cI, 24, .inl (f_twoI 12 fl xfl))), (u5, .inl (cJ, 24, .inr (.inl (f_twoL 12 sm xsm)))), (u6, .inl (cI, 2, .inl (f_lo z xz))), (u7, .inl (cJ, 128, .inr (.inl lg))), (u8, .inl (cJ, 16, .inr (.inl (f_twoL 8 tf xtf))))] H := hP
  have hD : va_D A [(u0, .inr (7, [.int 0, .ref u1, .ref u2, .ref u3, .ref u4, .ref u5, .ref u6, .ref u7, .ref u8, .ref u9, .ref u10])), (u1, .inl (cI, 8, .inl md)), (u2, .inl (cZ, 320, .inl dr)), (u3, .inl (cJ, 12, .inr (.inl an))), (u4, .inl (cI, 24, .inl (f_twoI 12 fl xfl))), (u5, .inl (cJ, 24, .inr (.inl (f_twoL 12 sm xsm)))), (u6, .inl (cI, 2, .inl (f_lo z xz))), (u7, .inl (cJ, 128, .inr (.inl lg))), (u8, .inl (cJ, 16, .inr (.inl (f_twoL 8 tf xtf))))] := hD
  refine lv_aload_n hx hb dMO_again_5 rfl (lv_at hl 0 rfl) ?_
  refine lv_iconst (v := 1) hx hb dMO_again_6 (by decide) ?_
  refine lv_iload_n hx hb dMO_again_7 rfl (lv_at hl 1 rfl) ?_
  refine lv_iload_n hx hb dMO_again_8 rfl (lv_at hl 2 rfl) ?_
  refine lv_lload_n hx hb dMO_again_9 rfl (lv_at hl 3 rfl) ?_
  refine k_V (wr := []) (W1 := [(u0, .inr (7, [.int 0, .ref u1, .ref u2, .ref u3, .ref u4, .ref u5, .ref u6, .ref u7, .ref u8, .ref u9, .ref u10])), (u1, .inl (cI, 8, .inl md)), (u2, .inl (cZ, 320, .inl dr)), (u3, .inl (cJ, 12, .inr (.inl an))), (u4, .inl (cI, 24, .inl (f_twoI 12 fl (f_aF md kn xfl x n)))), (u5, .inl (cJ, 24, .inr (.inl (f_twoL 12 sm (f_aS md kn xsm xfl x n v))))), (u6, .inl (cI, 2, .inl (f_lo z (f_js xz)))), (u7, .inl (cJ, 128, .inr (.inl (f_wr lg xz (f_aA md kn an xsm xfl x n v) 64)))), (u8, .inl (cJ, 16, .inr (.inl (f_twoL 8 tf (f_aT md kn xtf xfl x n)))))]) (st1 := [.long (f_aA md kn an xsm xfl x n v)]) ⟨hx, hb, hml, hown, hts⟩ (k_MO_goes_1 l dC dI cI cJ cG cZ u0 u1 u2 u3 u4 u5 u6 u7 u8 u9 u10 0 md dr kn an fl xfl sm xsm tf xtf lg z xz mn x n v hmn hkd xhg xhz) (cwV 4 hts (k_gV m_l_MO_93 m_i_MO_goes m_s_MO_goes m_in_MO m_c_MO_goes) rfl rfl rfl (by decide +kernel) ⟨Nat.le_of_ble_eq_true rfl, Nat.le_of_ble_eq_true rfl⟩) hK hF hP hD hS hA [0, 1, 2, 3, 4, 5, 6, 7, 8] [] [0, 1, 2, 3, 4, 5, 6, 7, 8] rfl rfl (by decide) (by decide) (by decide) rfl (by decide) rfl rfl rfl rfl hl.1 rfl (Nat.le_of_ble_eq_true rfl) dMO_again_10 ⟨Nat.le_of_ble_eq_true rfl, Nat.le_of_ble_eq_true rfl⟩ rfl (fun H locs hP hD hS => ?_)
  exact k_lret hx hb hr hlocks hP hK hD hS rfl dMO_again_13 ⟨Nat.le_of_ble_eq_true rfl, Nat.le_of_ble_eq_true rfl⟩

abbrev rm_MO_call : Room := { frames := 2, cells := 0, slots := 0, locals := 54 }
set_option maxHeartbeats 4000000 in
set_option maxRecDepth 100000 in
theorem k_MO_call (l : Launch) (dC : Nat → ClassId) (dI : Nat → Nat → Nat) (cI cJ cG cZ : ClassId) (u0 : Nat) (u1 : Nat) (u2 : Nat) (u3 : Nat) (u4 : Nat) (u5 : Nat) (u6 : Nat) (u7 : Nat) (u8 : Nat) (u9 : Nat) (u10 : Nat) (th : Int32) (md : Nat → Int32) (dr : Nat → Int32) (kn : Nat → Int64) (an : Nat → Int64) (fl : Nat → Int32) (xfl : Nat → Int32) (sm : Nat → Int64) (xsm : Nat → Int64) (tf : Nat → Int64) (xtf : Nat → Int64) (lg : Nat → Int64) (z : Nat) (xz : Nat) (mn : Nat → Nat) (x : Int32) (n : Int32) (v : Int64) (hmn : ∀ k : Nat, k < 8 → md k = nI (mn k) ∧ mn k ≤ 40) (hkd : ∀ k : Nat, k < 8 → ∀ j : Nat, j < mn k → (dr (40 * k + j) = 0 ↔ f_kb (kn k) j = true)) (hg : ∀ k : Nat, k < 12 → fl k = 0 ∨ fl k = 1 ∨ fl k = 2 ∨ fl k = 3 ∨ fl k = 4 ∨ fl k = 5) (xhg : ∀ k : Nat, k < 12 → xfl k = 0 ∨ xfl k = 1 ∨ xfl k = 2 ∨ xfl k = 3 ∨ xfl k = 4 ∨ xfl k = 5) (hz : z ≤ 64) (xhz : xz ≤ 64) : k_M l yMO_call wsMO_call rm_MO_call (dC, dI) vwCl [(cI, .int), (cJ, .long), (cG, .array .long), (cZ, .boolean)] [.ref u0, .int x, .int n, .long v] [(u0, .inr (7, [.int th, .ref u1, .ref u2, .ref u3, .ref u4, .ref u5, .ref u6, .ref u7, .ref u8, .ref u9, .ref u10])), (u1, .inl (cI, 8, .inl md)), (u2, .inl (cZ, 320, .inl dr)), (u3, .inl (cJ, 12, .inr (.inl an))), (u4, .inl (cI, 24, .inl (f_twoI 12 fl xfl))), (u5, .inl (cJ, 24, .inr (.inl (f_twoL 12 sm xsm)))), (u6, .inl (cI, 2, .inl (f_lo z xz))), (u7, .inl (cJ, 128, .inr (.inl lg))), (u8, .inl (cJ, 16, .inr (.inl (f_twoL 8 tf xtf))))] (some (.long (f_aA md kn an sm fl x n v))) [(u0, .inr (7, [.int 0, .ref u1, .ref u2, .ref u3, .ref u4, .ref u5, .ref u6, .ref u7, .ref u8, .ref u9, .ref u10])), (u1, .inl (cI, 8, .inl md)), (u2, .inl (cZ, 320, .inl dr)), (u3, .inl (cJ, 12, .inr (.inl an))), (u4, .inl (cI, 24, .inl (f_twoI 12 (f_aF md kn fl x n) (f_aF md kn xfl x n)))), (u5, .inl (cJ, 24, .inr (.inl (f_twoL 12 (f_aS md kn sm fl x n v) (f_aS md kn xsm xfl x n v))))), (u6, .inl (cI, 2, .inl (f_lo (f_js z) (f_js xz)))), (u7, .inl (cJ, 128, .inr (.inl (f_wr (f_wr lg xz (f_aA md kn an xsm xfl x n v) 64) z (f_aA md kn an sm fl x n v) 0)))), (u8, .inl (cJ, 16, .inr (.inl (f_twoL 8 (f_aT md kn tf fl x n) (f_aT md kn xtf xfl x n)))))] := by
  refine k_of (cc := cMO_call) (maxL := 9) (ret := (some .long)) (by decide) rfl (Nat.le_of_ble_eq_true rfl) ?_
  intro p e s m below meth c A ls hx hb hr hlocks hml hown hts hA hP hD hK hF hl hS
  have hown : s.vm.findClass RMO = some m.cls := hown
  have hl : lv_has ls 9 [(0, .ref u0), (1, .int x), (2, .int n), (3, .long v)] := hl
  refine lv_aload_n hx hb dMO_call_0 rfl (lv_at hl 0 rfl) ?_
  refine lv_iconst (v := 0) hx hb dMO_call_1 (by decide) ?_
  refine va_put (D := (dC, dI)) (ci := 7) (v := .int 0) (ty := .int) (C := RMO) (T := TMO) (N := 11) hx hb hts inMO tyMO tyMO_ok nmMO hown hK hP hD hS 0 rfl rfl 0 (by decide) (hts _ m_f_MO_44) (fun _ h9 => h9) rfl (by decide +kernel) rfl rfl (Nat.le_of_ble_eq_true rfl) dMO_call_2 (fun H locs hP hD hS => ?_)
  have hP : va_P (dC, dI) vwCl [(u0, .inr (7, [.int 0, .ref u1, .ref u2, .ref u3, .ref u4, .ref u5, .ref u6, .ref u7, .ref u8, .ref u9, .ref u10])), (u1, .inl (cI, 8, .inl md)), (u2, .inl (cZ, 320, .inl dr)), (u3, .inl (cJ, 12, .inr (.inl an))), (u4, .inl (cI, 24, .inl (f_twoI 12 fl xfl))), (u5, .inl (cJ, 24, .inr (.inl (f_twoL 12 sm xsm)))), (u6, .inl (cI, 2, .inl (f_lo z xz))), (u7, .inl (cJ, 128, .inr (.inl lg))), (u8, .inl (cJ, 16, .inr (.inl (f_twoL 8 tf xtf))))] H := hP
  have hD : va_D A [(u0, .inr (7, [.int 0, .ref u1, .ref u2, .ref u3, .ref u4, .ref u5, .ref u6, .ref u7, .ref u8, .ref u9, .ref u10])), (u1, .inl (cI, 8, .inl md)), (u2, .inl (cZ, 320, .inl dr)), (u3, .inl (cJ, 12, .inr (.inl an))), (u4, .inl (cI, 24, .inl (f_twoI 12 fl xfl))), (u5, .inl (cJ, 24, .inr (.inl (f_twoL 12 sm xsm)))), (u6, .inl (cI, 2, .inl (f_lo z xz))), (u7, .inl (cJ, 128, .inr (.inl lg))), (u8, .inl (cJ, 16, .inr (.inl (f_twoL 8 tf xtf))))] := hD
  refine lv_aload_n hx hb dMO_call_5 rfl (lv_at hl 0 rfl) ?_
  refine lv_iconst (v := 1) hx hb dMO_call_6 (by decide) ?_
  refine lv_iload_n hx hb dMO_call_7 rfl (lv_at hl 1 rfl) ?_
  refine lv_iload_n hx hb dMO_call_8 rfl (lv_at hl 2 rfl) ?_
  refine lv_lload_n hx hb dMO_call_9 rfl (lv_at hl 3 rfl) ?_
  refine k_V (wr := []) (W1 := [(u0, .inr (7, [.int 0, .ref u1, .ref u2, .ref u3, .ref u4, .ref u5, .ref u6, .ref u7, .ref u8, .ref u9, .ref u10])), (u1, .inl (cI, 8, .inl md)), (u2, .inl (cZ, 320, .inl dr)), (u3, .inl (cJ, 12, .inr (.inl an))), (u4, .inl (cI, 24, .inl (f_twoI 12 fl (f_aF md kn xfl x n)))), (u5, .inl (cJ, 24, .inr (.inl (f_twoL 12 sm (f_aS md kn xsm xfl x n v))))), (u6, .inl (cI, 2, .inl (f_lo z (f_js xz)))), (u7, .inl (cJ, 128, .inr (.inl (f_wr lg xz (f_aA md kn an xsm xfl x n v) 64)))), (u8, .inl (cJ, 16, .inr (.inl (f_twoL 8 tf (f_aT md kn xtf xfl x n)))))]) (st1 := [.long (f_aA md kn an xsm xfl x n v)]) ⟨hx, hb, hml, hown, hts⟩ (k_MO_goes_1 l dC dI cI cJ cG cZ u0 u1 u2 u3 u4 u5 u6 u7 u8 u9 u10 0 md dr kn an fl xfl sm xsm tf xtf lg z xz mn x n v hmn hkd xhg xhz) (cwV 4 hts (k_gV m_l_MO_93 m_i_MO_goes m_s_MO_goes m_in_MO m_c_MO_goes) rfl rfl rfl (by decide +kernel) ⟨Nat.le_of_ble_eq_true rfl, Nat.le_of_ble_eq_true rfl⟩) hK hF hP hD hS hA [0, 1, 2, 3, 4, 5, 6, 7, 8] [] [0, 1, 2, 3, 4, 5, 6, 7, 8] rfl rfl (by decide) (by decide) (by decide) rfl (by decide) rfl rfl rfl rfl hl.1 rfl (Nat.le_of_ble_eq_true rfl) dMO_call_10 ⟨Nat.le_of_ble_eq_true rfl, Nat.le_of_ble_eq_true rfl⟩ rfl (fun H locs hP hD hS => ?_)
  refine lv_lstore (lv' := [(5, .long (f_aA md kn an xsm xfl x n v)), (0, .ref u0), (1, .int x), (2, .int n), (3, .long v)]) hx hb dMO_call_13 hl (by decide) rfl (fun ls hl => ?_)
  refine lv_aload_n hx hb dMO_call_15 rfl (lv_at hl 1 rfl) ?_
  refine lv_iconst (v := 0) hx hb dMO_call_16 (by decide) ?_
  refine lv_iload_n hx hb dMO_call_17 rfl (lv_at hl 2 rfl) ?_
  refine lv_iload_n hx hb dMO_call_18 rfl (lv_at hl 3 rfl) ?_
  refine lv_lload_n hx hb dMO_call_19 rfl (lv_at hl 4 rfl) ?_
  refine k_V (wr := []) (W1 := [(u0, .inr (7, [.int 0, .ref u1, .ref u2, .ref u3, .ref u4, .ref u5, .ref u6, .ref u7, .ref u8, .ref u9, .ref u10])), (u1, .inl (cI, 8, .inl md)), (u2, .inl (cZ, 320, .inl dr)), (u3, .inl (cJ, 12, .inr (.inl an))), (u4, .inl (cI, 24, .inl (f_twoI 12 (f_aF md kn fl x n) (f_aF md kn xfl x n)))), (u5, .inl (cJ, 24, .inr (.inl (f_twoL 12 (f_aS md kn sm fl x n v) (f_aS md kn xsm xfl x n v))))), (u6, .inl (cI, 2, .inl (f_lo (f_js z) (f_js xz)))), (u7, .inl (cJ, 128, .inr (.inl (f_wr (f_wr lg xz (f_aA md kn an xsm xfl x n v) 64) z (f_aA md kn an sm fl x n v) 0)))), (u8, .inl (cJ, 16, .inr (.inl (f_twoL 8 (f_aT md kn tf fl x n) (f_aT md kn xtf xfl x n)))))]) (st1 := [.long (f_aA md kn an sm fl x n v)]) ⟨hx, hb, hml, hown, hts⟩ (k_MO_goes_0 l dC dI cI cJ cG cZ u0 u1 u2 u3 u4 u5 u6 u7 u8 u9 u10 0 md dr kn an fl (f_aF md kn xfl x n) sm (f_aS md kn xsm xfl x n v) tf (f_aT md kn xtf xfl x n) (f_wr lg xz (f_aA md kn an xsm xfl x n v) 64) z (f_js xz) mn x n v hmn hkd hg hz) (cwV 4 hts (k_gV m_l_MO_93 m_i_MO_goes m_s_MO_goes m_in_MO m_c_MO_goes) rfl rfl rfl (by decide +kernel) ⟨Nat.le_of_ble_eq_true rfl, Nat.le_of_ble_eq_true rfl⟩) hK hF hP hD hS hA [0, 1, 2, 3, 4, 5, 6, 7, 8] [] [0, 1, 2, 3, 4, 5, 6, 7, 8] rfl rfl (by decide) (by decide) (by decide) rfl (by decide) rfl rfl rfl rfl hl.1 rfl (Nat.le_of_ble_eq_true rfl) dMO_call_20 ⟨Nat.le_of_ble_eq_true rfl, Nat.le_of_ble_eq_true rfl⟩ rfl (fun H locs hP hD hS => ?_)
  refine lv_lstore (lv' := [(7, .long (f_aA md kn an sm fl x n v)), (5, .long (f_aA md kn an xsm xfl x n v)), (0, .ref u0), (1, .int x), (2, .int n), (3, .long v)]) hx hb dMO_call_23 hl (by decide) rfl (fun ls hl => ?_)
  refine lv_lload hx hb dMO_call_25 (lv_at hl 0 rfl) ?_
  refine lv_lload hx hb dMO_call_27 (lv_at hl 1 rfl) ?_
  refine W.lcmp hx hb dMO_call_29 ?_
  refine lv_if_ne (tgt := 38) hx hb dMO_call_30 (by decide) (fun c_1 => ?_) (fun c_1 => ?_)
  · refine lv_lload hx hb dMO_call_38 (lv_at hl 0 rfl) ?_
    exact k_lret hx hb hr hlocks hP hK hD hS rfl dMO_call_40 ⟨Nat.le_of_ble_eq_true rfl, Nat.le_of_ble_eq_true rfl⟩
  · refine lv_lload hx hb dMO_call_33 (lv_at hl 1 rfl) ?_
    refine lv_goto (tgt := 40) hx hb dMO_call_35 (by decide) ?_
    exact k_lret hx hb hr hlocks hP hK hD hS (n_eq0.mp c_1).symm dMO_call_40 ⟨Nat.le_of_ble_eq_true rfl, Nat.le_of_ble_eq_true rfl⟩
