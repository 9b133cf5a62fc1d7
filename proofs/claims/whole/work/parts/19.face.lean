/-! ===== the face: what is answered, and what is left ===== -/
theorem f_range {x : Int32} {n : Nat} (hn : n < 2 ^ 31) (h0 : ¬ x < 0) (h1 : ¬ nI n ≤ x) : ∃ k : Nat, k < n ∧ x = nI k := by
  have e0 : (0 : Int32).toInt = 0 := by decide
  have h2 : (0 : Int) ≤ x.toInt := by
    have h9 : ¬ x.toInt < (0 : Int32).toInt := fun h9 => h0 (Int32.lt_iff_toInt_lt.mpr h9)
    omega
  have h3 : x.toInt < n := by
    have h9 : ¬ (nI n).toInt ≤ x.toInt := fun h9 => h1 (Int32.le_iff_toInt_le.mpr h9)
    rw [nI_toInt hn] at h9
    omega
  refine ⟨x.toInt.toNat, by omega, ?_⟩
  apply Int32.toInt.inj
  rw [nI_toInt (by omega)]
  omega
theorem f_nn {k : Nat} (h : k < 2 ^ 31) : ¬ nI k < 0 := fun h9 => absurd ((nI_ltI (a := k) (b := 0) h (by decide)).mp h9) (by omega)
theorem f_isKind_or (x : Int32) : f_isKind x = 0 ∨ ∃ k : Nat, k < 8 ∧ x = nI k := by
  unfold f_isKind
  by_cases h : x < 0
  · left; rw [if_pos h]
  · rw [if_neg h]
    by_cases h1 : 8 ≤ x
    · left; rw [if_pos h1]
    · right; exact f_range (n := 8) (by decide) h h1
theorem f_isKind_nI {k : Nat} (h : k < 8) : f_isKind (nI k) = 1 := by
  have h1 : ¬ (8 ≤ nI k) := fun h9 => absurd ((nI_leI (a := 8) (b := k) (by decide) (by omega)).mp h9) (by omega)
  unfold f_isKind
  rw [if_neg (f_nn (by omega)), if_neg h1]
theorem f_isDesk_or (x : Int32) : f_isDesk x = 0 ∨ x = 0 ∨ x = 1 := by
  unfold f_isDesk
  by_cases h : x = 0
  · exact Or.inr (Or.inl h)
  · by_cases h1 : x = 1
    · exact Or.inr (Or.inr h1)
    · left; rw [if_neg h, if_neg h1]
def f_anA (an : Nat → Int64) (x : Int32) (v : Int64) : Nat → Int64 := if f_isPart x = 0 then an else vp_updL an x.toNatClampNeg v
def f_fok (x g : Int32) : Int32 := if f_isPart x = 0 then 0 else if g < 0 then 0 else if g ≤ 5 then 1 else 0
def f_flF (fl : Nat → Int32) (x g : Int32) : Nat → Int32 := if f_fok x g = 0 then fl else upd fl x.toNatClampNeg g
def f_dr (md : Nat → Int32) (kn : Nat → Int64) (x n : Int32) : Int32 := if f_isKind x = 0 then 0 else f_isKnown md kn x.toNatClampNeg n
def f_drK (md : Nat → Int32) (kn : Nat → Int64) (x n : Int32) : Nat → Int64 := if f_dr md kn x n = 0 then kn else vp_updL kn x.toNatClampNeg (kn x.toNatClampNeg &&& (f_bit n ^^^ (-1)))
def f_nb (kn : Nat → Int64) (x : Int32) : Int32 := if f_isKind x = 0 then -1 else nI (bc (f_nat (kn x.toNatClampNeg)) 64)
theorem f_known1 {md : Nat → Int32} {kn : Nat → Int64} {k : Nat} {n : Int32} (h : ¬ f_isKnown md kn k n = 0) : f_isKnown md kn k n = 1 := by
  unfold f_isKnown at h ⊢
  by_cases h1 : f_wasMade md k n = 0
  · rw [if_pos h1] at h; exact absurd rfl h
  · rw [if_neg h1] at h ⊢
    by_cases h2 : lg_cmp (kn k &&& f_bit n) 0 = 0
    · rw [if_pos h2] at h; exact absurd rfl h
    · rw [if_neg h2]
/-- what can be collected: the what, as a number; 4 if not -/
def f_cc (sz : Nat → Int32) (x : Int32) (v : Int64) : Nat := if x < 0 then 4 else if 4 ≤ x then 4 else if f_can x.toNatClampNeg v = 0 then 4 else if f_cfull sz x.toNatClampNeg = 0 then x.toNatClampNeg else 4
def f_coR (sz : Nat → Int32) (x : Int32) (v : Int64) : Int32 := if f_cc sz x v = 4 then -1 else sz (f_cc sz x v) + 1
def f_coZ (sz : Nat → Int32) (x : Int32) (v : Int64) : Nat → Int32 := if f_cc sz x v = 4 then sz else upd sz (f_cc sz x v) (sz (f_cc sz x v) + 1)
def f_coV (sz : Nat → Int32) (vs : Nat → Nat → Int64) (x : Int32) (v : Int64) : Nat → Nat → Int64 := if f_cc sz x v = 4 then vs else f_up vs (f_cc sz x v) (sz (f_cc sz x v)).toNatClampNeg v
def f_coM (md sz : Nat → Int32) (x : Int32) (v : Int64) : Nat → Int32 := if f_cc sz x v = 3 then f_tM md v.toInt32.toNatClampNeg else md
def f_coK (md : Nat → Int32) (kn : Nat → Int64) (sz : Nat → Int32) (x : Int32) (v : Int64) : Nat → Int64 := if f_cc sz x v = 3 then f_tK md kn v.toInt32.toNatClampNeg else kn
theorem f_can3_j {v : Int64} (h : ¬ f_can3 v = 0) : ∃ j : Nat, j < 8 ∧ v.toInt32 = nI j := by
  unfold f_can3 at h
  by_cases h1 : lg_cmp v 0 < 0
  · rw [if_pos h1] at h; exact absurd rfl h
  · rw [if_neg h1] at h
    by_cases h2 : 0 ≤ lg_cmp v 8
    · rw [if_pos h2] at h; exact absurd rfl h
    · have g1 : ¬ v < 0 := fun h9 => h1 (by
        unfold lg_cmp
        rw [if_neg (fun h8 => absurd (Int64.lt_trans h8 h9) Int64.lt_irrefl), if_neg (fun h8 => by rw [h8] at h9; exact absurd h9 Int64.lt_irrefl)]
        decide)
      have g2 : v < 8 := by
        unfold lg_cmp at h2
        by_cases h3 : 8 < v
        · rw [if_pos h3] at h2; exact absurd (by decide) h2
        · rw [if_neg h3] at h2
          by_cases h4 : v = 8
          · rw [if_pos h4] at h2; exact absurd (by decide) h2
          · rw [Int64.lt_iff_toInt_lt] at h3 ⊢
            have h5 : ¬ v.toInt = (8 : Int64).toInt := fun h9 => h4 (Int64.toInt.inj h9)
            omega
      have e0 : (0 : Int64).toInt = 0 := by decide
      have e8 : (8 : Int64).toInt = 8 := by decide
      rw [Int64.lt_iff_toInt_lt] at g1 g2
      refine ⟨v.toInt.toNat, by omega, ?_⟩
      have hv : v = Int64.ofNat v.toInt.toNat := by
        apply Int64.toInt.inj
        rw [Int64.toInt_ofNat_of_lt (by omega)]
        omega
      have key : ∀ j : Nat, j < 8 → (Int64.ofNat j).toInt32 = nI j := by decide
      exact (congrArg Int64.toInt32 hv).trans (key _ (by omega))
abbrev rm_PD_answer : Room := { frames := 1, cells := 0, slots := 0, locals := 23 }
set_option maxHeartbeats 4000000 in
set_option maxRecDepth 100000 in
theorem k_PD_answer (l : Launch) (dC : Nat → ClassId) (dI : Nat → Nat → Nat) (cI cJ cG cZ : ClassId) (o0 : Nat) (a0 : Nat) (a1 : Nat) (a2 : Nat) (a3 : Nat) (a4 : Nat) (a5 : Nat) (b0 : Nat) (b1 : Nat) (b2 : Nat) (b3 : Nat) (b4 : Nat) (b5 : Nat) (p1 : Nat) (p2 : Nat) (p3 : Nat) (y1 : Nat) (y2 : Nat) (y3 : Nat) (an : Nat → Int64) (sm : Nat → Int64) (xsm : Nat → Int64) (fl : Nat → Int32) (xfl : Nat → Int32) (x : Int32) (v : Int64) : k_M l yPD_answer wsPD_answer rm_PD_answer (dC, dI) vwCl [(cI, .int), (cJ, .long), (cG, .array .long), (cZ, .boolean)] [.ref o0, .int x, .long v] [(o0, .inr (6, [.ref a0, .ref b0])), (a0, .inr (1, [.ref a1, .ref a2, .ref a3, .ref a4, .ref a5])), (b0, .inr (1, [.ref b1, .ref b2, .ref b3, .ref b4, .ref b5])), (a2, .inr (4, [.ref p1, .ref p2, .ref p3])), (p1, .inl (cJ, 12, .inr (.inl an))), (p2, .inl (cJ, 12, .inr (.inl sm))), (p3, .inl (cI, 12, .inl fl)), (b2, .inr (4, [.ref y1, .ref y2, .ref y3])), (y1, .inl (cJ, 12, .inr (.inl an))), (y2, .inl (cJ, 12, .inr (.inl xsm))), (y3, .inl (cI, 12, .inl xfl))] (some (.int (f_isPart x))) [(o0, .inr (6, [.ref a0, .ref b0])), (a0, .inr (1, [.ref a1, .ref a2, .ref a3, .ref a4, .ref a5])), (b0, .inr (1, [.ref b1, .ref b2, .ref b3, .ref b4, .ref b5])), (a2, .inr (4, [.ref p1, .ref p2, .ref p3])), (p1, .inl (cJ, 12, .inr (.inl (f_anA an x v)))), (p2, .inl (cJ, 12, .inr (.inl sm))), (p3, .inl (cI, 12, .inl fl)), (b2, .inr (4, [.ref y1, .ref y2, .ref y3])), (y1, .inl (cJ, 12, .inr (.inl (f_anA an x v)))), (y2, .inl (cJ, 12, .inr (.inl xsm))), (y3, .inl (cI, 12, .inl xfl))] := by
  rcases f_isPart_or x with h0 | ⟨k, hk, rfl⟩
  · rw [show f_anA an x v = an from if_pos h0, h0]
    refine k_of (cc := cPD_answer) (maxL := 4) (ret := (some .boolean)) (by decide) rfl (Nat.le_of_ble_eq_true rfl) ?_
    intro p e s m below meth c A ls hx hb hr hlocks hml hown hts hA hP hD hK hF hl hS
    have hown : s.vm.findClass RPD = some m.cls := hown
    have hl : lv_has ls 4 [(0, .ref o0), (1, .int x), (2, .long v)] := hl
    refine lv_iload_n hx hb dPD_answer_0 rfl (lv_at hl 1 rfl) ?_
    refine k_S (wr := [(o0, .inr (6, [.ref a0, .ref b0])), (a0, .inr (1, [.ref a1, .ref a2, .ref a3, .ref a4, .ref a5])), (b0, .inr (1, [.ref b1, .ref b2, .ref b3, .ref b4, .ref b5])), (a2, .inr (4, [.ref p1, .ref p2, .ref p3])), (p1, .inl (cJ, 12, .inr (.inl an))), (p2, .inl (cJ, 12, .inr (.inl sm))), (p3, .inl (cI, 12, .inl fl)), (b2, .inr (4, [.ref y1, .ref y2, .ref y3])), (y1, .inl (cJ, 12, .inr (.inl an))), (y2, .inl (cJ, 12, .inr (.inl xsm))), (y3, .inl (cI, 12, .inl xfl))]) (W1 := [(o0, .inr (6, [.ref a0, .ref b0])), (a0, .inr (1, [.ref a1, .ref a2, .ref a3, .ref a4, .ref a5])), (b0, .inr (1, [.ref b1, .ref b2, .ref b3, .ref b4, .ref b5])), (a2, .inr (4, [.ref p1, .ref p2, .ref p3])), (p1, .inl (cJ, 12, .inr (.inl an))), (p2, .inl (cJ, 12, .inr (.inl sm))), (p3, .inl (cI, 12, .inl fl)), (b2, .inr (4, [.ref y1, .ref y2, .ref y3])), (y1, .inl (cJ, 12, .inr (.inl an))), (y2, .inl (cJ, 12, .inr (.inl xsm))), (y3, .inl (cI, 12, .inl xfl))]) (st1 := [.int (f_isPart x)]) ⟨hx, hb, hml, hown, hts⟩ (k_PD_isPart l dC dI cI cJ cG cZ x) (va_cwS 1 hts (k_gS m_l_PD_29 m_st_PD_isPart m_in_PD m_c_PD_isPart) rfl rfl rfl (by decide +kernel) ⟨Nat.le_of_ble_eq_true rfl, Nat.le_of_ble_eq_true rfl⟩) hK hF hP hD hS hA [] [0, 1, 2, 3, 4, 5, 6, 7, 8, 9, 10] [0, 1, 2, 3, 4, 5, 6, 7, 8, 9, 10] rfl rfl (by decide) (by decide) (by decide) rfl (by decide) rfl hl.1 rfl (Nat.le_of_ble_eq_true rfl) dPD_answer_1 ⟨Nat.le_of_ble_eq_true rfl, Nat.le_of_ble_eq_true rfl⟩ rfl (fun H locs hP hD hS => ?_)
    refine lv_if_ne (tgt := 9) hx hb dPD_answer_4 (by decide) (fun c_1 => ?_) (fun c_1 => ?_)
    · exact absurd h0 c_1
    · refine lv_iconst (v := 0) hx hb dPD_answer_7 (by decide) ?_
      exact k_zret hx hb hr hlocks rfl hP hK hD hS rfl dPD_answer_8 ⟨Nat.le_of_ble_eq_true rfl, Nat.le_of_ble_eq_true rfl⟩
  · rw [show f_anA an (nI k) v = vp_updL an k v by unfold f_anA; rw [if_neg (by rw [f_isPart_nI hk]; decide), nI_clamp (by omega)], f_isPart_nI hk]
    refine k_of (cc := cPD_answer) (maxL := 4) (ret := (some .boolean)) (by decide) rfl (Nat.le_of_ble_eq_true rfl) ?_
    intro p e s m below meth c A ls hx hb hr hlocks hml hown hts hA hP hD hK hF hl hS
    have hown : s.vm.findClass RPD = some m.cls := hown
    have hl : lv_has ls 4 [(0, .ref o0), (1, .int (nI k)), (2, .long v)] := hl
    refine lv_iload_n hx hb dPD_answer_0 rfl (lv_at hl 1 rfl) ?_
    refine k_S (wr := [(o0, .inr (6, [.ref a0, .ref b0])), (a0, .inr (1, [.ref a1, .ref a2, .ref a3, .ref a4, .ref a5])), (b0, .inr (1, [.ref b1, .ref b2, .ref b3, .ref b4, .ref b5])), (a2, .inr (4, [.ref p1, .ref p2, .ref p3])), (p1, .inl (cJ, 12, .inr (.inl an))), (p2, .inl (cJ, 12, .inr (.inl sm))), (p3, .inl (cI, 12, .inl fl)), (b2, .inr (4, [.ref y1, .ref y2, .ref y3])), (y1, .inl (cJ, 12, .inr (.inl an))), (y2, .inl (cJ, 12, .inr (.inl xsm))), (y3, .inl (cI, 12, .inl xfl))]) (W1 := [(o0, .inr (6, [.ref a0, .ref b0])), (a0, .inr (1, [.ref a1, .ref a2, .ref a3, .ref a4, .ref a5])), (b0, .inr (1, [.ref b1, .ref b2, .ref b3, .ref b4, .ref b5])), (a2, .inr (4, [.ref p1, .ref p2, .ref p3])), (p1, .inl (cJ, 12, .inr (.inl an))), (p2, .inl (cJ, 12, .inr (.inl sm))), (p3, .inl (cI, 12, .inl fl)), (b2, .inr (4, [.ref y1, .ref y2, .ref y3])), (y1, .inl (cJ, 12, .inr (.inl an))), (y2, .inl (cJ, 12, .inr (.inl xsm))), (y3, .inl (cI, 12, .inl xfl))]) (st1 := [.int (f_isPart (nI k))]) ⟨hx, hb, hml, hown, hts⟩ (k_PD_isPart l dC dI cI cJ cG cZ (nI k)) (va_cwS 1 hts (k_gS m_l_PD_29 m_st_PD_isPart m_in_PD m_c_PD_isPart) rfl rfl rfl (by decide +kernel) ⟨Nat.le_of_ble_eq_true rfl, Nat.le_of_ble_eq_true rfl⟩) hK hF hP hD hS hA [] [0, 1, 2, 3, 4, 5, 6, 7, 8, 9, 10] [0, 1, 2, 3, 4, 5, 6, 7, 8, 9, 10] rfl rfl (by decide) (by decide) (by decide) rfl (by decide) rfl hl.1 rfl (Nat.le_of_ble_eq_true rfl) dPD_answer_1 ⟨Nat.le_of_ble_eq_true rfl, Nat.le_of_ble_eq_true rfl⟩ rfl (fun H locs hP hD hS => ?_)
    refine lv_if_ne (tgt := 9) hx hb dPD_answer_4 (by decide) (fun c_1 => ?_) (fun c_1 => ?_)
    · refine lv_aload_n hx hb dPD_answer_9 rfl (lv_at hl 0 rfl) ?_
      refine va_get (D := (dC, dI)) (ci := 6) (v := .ref a0) (C := RPD) (T := TPD) (N := 2) hx hb hts inPD hown hK hP 0 rfl rfl 0 (by decide) (hts _ m_f_PD_10) (fun _ h9 => h9) rfl dPD_answer_10 ?_
      refine va_get (D := (dC, dI)) (ci := 1) (v := .ref a2) (C := RDK) (T := TDK) (N := 5) hx hb hts inDK hown hK hP 1 rfl rfl 1 (by decide) (hts _ m_f_PD_33) (fun _ h9 => h9) rfl dPD_answer_13 ?_
      refine lv_iload_n hx hb dPD_answer_16 rfl (lv_at hl 1 rfl) ?_
      refine lv_lload_n hx hb dPD_answer_17 rfl (lv_at hl 2 rfl) ?_
      refine k_V (wr := [(o0, .inr (6, [.ref a0, .ref b0])), (a0, .inr (1, [.ref a1, .ref a2, .ref a3, .ref a4, .ref a5])), (b0, .inr (1, [.ref b1, .ref b2, .ref b3, .ref b4, .ref b5])), (b2, .inr (4, [.ref y1, .ref y2, .ref y3])), (y1, .inl (cJ, 12, .inr (.inl an))), (y2, .inl (cJ, 12, .inr (.inl xsm))), (y3, .inl (cI, 12, .inl xfl))]) (W1 := [(o0, .inr (6, [.ref a0, .ref b0])), (a0, .inr (1, [.ref a1, .ref a2, .ref a3, .ref a4, .ref a5])), (b0, .inr (1, [.ref b1, .ref b2, .ref b3, .ref b4, .ref b5])), (a2, .inr (4, [.ref p1, .ref p2, .ref p3])), (p1, .inl (cJ, 12, .inr (.inl (vp_updL an k v)))), (p2, .inl (cJ, 12, .inr (.inl sm))), (p3, .inl (cI, 12, .inl fl)), (b2, .inr (4, [.ref y1, .ref y2, .ref y3])), (y1, .inl (cJ, 12, .inr (.inl an))), (y2, .inl (cJ, 12, .inr (.inl xsm))), (y3, .inl (cI, 12, .inl xfl))]) (st1 := []) ⟨hx, hb, hml, hown, hts⟩ (k_PT_setAnswer l dC dI cI cJ cG cZ a2 p1 p2 p3 an sm fl k v hk) (cwV 2 hts (k_gV m_l_PD_37 m_i_PT_setAnswer m_s_PT_setAnswer m_in_PT m_c_PT_setAnswer) rfl rfl rfl (by decide +kernel) ⟨Nat.le_of_ble_eq_true rfl, Nat.le_of_ble_eq_true rfl⟩) hK hF hP hD hS hA [3, 4, 5, 6] [0, 1, 2, 7, 8, 9, 10] [0, 1, 2, 7, 8, 9, 10, 3, 4, 5, 6] rfl rfl (by decide) (by decide) (by decide) rfl (by decide) rfl rfl rfl rfl hl.1 rfl (Nat.le_of_ble_eq_true rfl) dPD_answer_18 ⟨Nat.le_of_ble_eq_true rfl, Nat.le_of_ble_eq_true rfl⟩ rfl (fun H locs hP hD hS => ?_)
      refine lv_aload_n hx hb dPD_answer_21 rfl (lv_at hl 0 rfl) ?_
      refine va_get (D := (dC, dI)) (ci := 6) (v := .ref b0) (C := RPD) (T := TPD) (N := 2) hx hb hts inPD hown hK hP 0 rfl rfl 1 (by decide) (hts _ m_f_PD_16) (fun _ h9 => h9) rfl dPD_answer_22 ?_
      refine va_get (D := (dC, dI)) (ci := 1) (v := .ref b2) (C := RDK) (T := TDK) (N := 5) hx hb hts inDK hown hK hP 2 rfl rfl 1 (by decide) (hts _ m_f_PD_33) (fun _ h9 => h9) rfl dPD_answer_25 ?_
      refine lv_iload_n hx hb dPD_answer_28 rfl (lv_at hl 1 rfl) ?_
      refine lv_lload_n hx hb dPD_answer_29 rfl (lv_at hl 2 rfl) ?_
      refine k_V (wr := [(o0, .inr (6, [.ref a0, .ref b0])), (a0, .inr (1, [.ref a1, .ref a2, .ref a3, .ref a4, .ref a5])), (b0, .inr (1, [.ref b1, .ref b2, .ref b3, .ref b4, .ref b5])), (a2, .inr (4, [.ref p1, .ref p2, .ref p3])), (p1, .inl (cJ, 12, .inr (.inl (vp_updL an k v)))), (p2, .inl (cJ, 12, .inr (.inl sm))), (p3, .inl (cI, 12, .inl fl))]) (W1 := [(o0, .inr (6, [.ref a0, .ref b0])), (a0, .inr (1, [.ref a1, .ref a2, .ref a3, .ref a4, .ref a5])), (b0, .inr (1, [.ref b1, .ref b2, .ref b3, .ref b4, .ref b5])), (a2, .inr (4, [.ref p1, .ref p2, .ref p3])), (p1, .inl (cJ, 12, .inr (.inl (vp_updL an k v)))), (p2, .inl (cJ, 12, .inr (.inl sm))), (p3, .inl (cI, 12, .inl fl)), (b2, .inr (4, [.ref y1, .ref y2, .ref y3])), (y1, .inl (cJ, 12, .inr (.inl (vp_updL an k v)))), (y2, .inl (cJ, 12, .inr (.inl xsm))), (y3, .inl (cI, 12, .inl xfl))]) (st1 := []) ⟨hx, hb, hml, hown, hts⟩ (k_PT_setAnswer l dC dI cI cJ cG cZ b2 y1 y2 y3 an xsm xfl k v hk) (cwV 2 hts (k_gV m_l_PD_37 m_i_PT_setAnswer m_s_PT_setAnswer m_in_PT m_c_PT_setAnswer) rfl rfl rfl (by decide +kernel) ⟨Nat.le_of_ble_eq_true rfl, Nat.le_of_ble_eq_true rfl⟩) hK hF hP hD hS hA [7, 8, 9, 10] [0, 1, 2, 3, 4, 5, 6] [0, 1, 2, 3, 4, 5, 6, 7, 8, 9, 10] rfl rfl (by decide) (by decide) (by decide) rfl (by decide) rfl rfl rfl rfl hl.1 rfl (Nat.le_of_ble_eq_true rfl) dPD_answer_30 ⟨Nat.le_of_ble_eq_true rfl, Nat.le_of_ble_eq_true rfl⟩ rfl (fun H locs hP hD hS => ?_)
      refine lv_iconst (v := 1) hx hb dPD_answer_33 (by decide) ?_
      exact k_zret hx hb hr hlocks rfl hP hK hD hS rfl dPD_answer_34 ⟨Nat.le_of_ble_eq_true rfl, Nat.le_of_ble_eq_true rfl⟩
    · exact absurd c_1 (by rw [f_isPart_nI hk]; decide)

abbrev rm_PD_fails : Room := { frames := 1, cells := 0, slots := 0, locals := 22 }
set_option maxHeartbeats 4000000 in
set_option maxRecDepth 100000 in
theorem k_PD_fails (l : Launch) (dC : Nat → ClassId) (dI : Nat → Nat → Nat) (cI cJ cG cZ : ClassId) (o0 : Nat) (a0 : Nat) (a1 : Nat) (a2 : Nat) (a3 : Nat) (a4 : Nat) (a5 : Nat) (b0 : Nat) (b1 : Nat) (b2 : Nat) (b3 : Nat) (b4 : Nat) (b5 : Nat) (p1 : Nat) (p2 : Nat) (p3 : Nat) (y1 : Nat) (y2 : Nat) (y3 : Nat) (an : Nat → Int64) (sm : Nat → Int64) (xsm : Nat → Int64) (fl : Nat → Int32) (xfl : Nat → Int32) (x : Int32) (g : Int32) : k_M l yPD_fails wsPD_fails rm_PD_fails (dC, dI) vwCl [(cI, .int), (cJ, .long), (cG, .array .long), (cZ, .boolean)] [.ref o0, .int x, .int g] [(o0, .inr (6, [.ref a0, .ref b0])), (a0, .inr (1, [.ref a1, .ref a2, .ref a3, .ref a4, .ref a5])), (b0, .inr (1, [.ref b1, .ref b2, .ref b3, .ref b4, .ref b5])), (a2, .inr (4, [.ref p1, .ref p2, .ref p3])), (p1, .inl (cJ, 12, .inr (.inl an))), (p2, .inl (cJ, 12, .inr (.inl sm))), (p3, .inl (cI, 12, .inl fl)), (b2, .inr (4, [.ref y1, .ref y2, .ref y3])), (y1, .inl (cJ, 12, .inr (.inl an))), (y2, .inl (cJ, 12, .inr (.inl xsm))), (y3, .inl (cI, 12, .inl xfl))] (some (.int (f_fok x g))) [(o0, .inr (6, [.ref a0, .ref b0])), (a0, .inr (1, [.ref a1, .ref a2, .ref a3, .ref a4, .ref a5])), (b0, .inr (1, [.ref b1, .ref b2, .ref b3, .ref b4, .ref b5])), (a2, .inr (4, [.ref p1, .ref p2, .ref p3])), (p1, .inl (cJ, 12, .inr (.inl an))), (p2, .inl (cJ, 12, .inr (.inl sm))), (p3, .inl (cI, 12, .inl (f_flF fl x g))), (b2, .inr (4, [.ref y1, .ref y2, .ref y3])), (y1, .inl (cJ, 12, .inr (.inl an))), (y2, .inl (cJ, 12, .inr (.inl xsm))), (y3, .inl (cI, 12, .inl (f_flF xfl x g)))] := by
  rcases (show f_isPart x = 0 ∨ (∃ k : Nat, k < 12 ∧ x = nI k ∧ g < 0) ∨ (∃ k : Nat, k < 12 ∧ x = nI k ∧ ¬ g < 0 ∧ ¬ g ≤ 5) ∨ (∃ k : Nat, k < 12 ∧ x = nI k ∧ ¬ g < 0 ∧ g ≤ 5) by rcases f_isPart_or x with h | ⟨k, hk, h⟩; exact Or.inl h; by_cases h1 : g < 0; exact Or.inr (Or.inl ⟨k, hk, h, h1⟩); by_cases h2 : g ≤ 5; exact Or.inr (Or.inr (Or.inr ⟨k, hk, h, h1, h2⟩)); exact Or.inr (Or.inr (Or.inl ⟨k, hk, h, h1, h2⟩))) with h0 | ⟨k, hk, rfl, h1⟩ | ⟨k, hk, rfl, h1, h2⟩ | ⟨k, hk, rfl, h1, h2⟩
  · have e1 : f_fok x g = 0 := by unfold f_fok; rw [if_pos h0]
    rw [show f_flF fl x g = fl from if_pos e1, show f_flF xfl x g = xfl from if_pos e1, e1]
    refine k_of (cc := cPD_fails) (maxL := 3) (ret := (some .boolean)) (by decide) rfl (Nat.le_of_ble_eq_true rfl) ?_
    intro p e s m below meth c A ls hx hb hr hlocks hml hown hts hA hP hD hK hF hl hS
    have hown : s.vm.findClass RPD = some m.cls := hown
    have hl : lv_has ls 3 [(0, .ref o0), (1, .int x), (2, .int g)] := hl
    refine lv_iload_n hx hb dPD_fails_0 rfl (lv_at hl 1 rfl) ?_
    refine k_S (wr := [(o0, .inr (6, [.ref a0, .ref b0])), (a0, .inr (1, [.ref a1, .ref a2, .ref a3, .ref a4, .ref a5])), (b0, .inr (1, [.ref b1, .ref b2, .ref b3, .ref b4, .ref b5])), (a2, .inr (4, [.ref p1, .ref p2, .ref p3])), (p1, .inl (cJ, 12, .inr (.inl an))), (p2, .inl (cJ, 12, .inr (.inl sm))), (p3, .inl (cI, 12, .inl fl)), (b2, .inr (4, [.ref y1, .ref y2, .ref y3])), (y1, .inl (cJ, 12, .inr (.inl an))), (y2, .inl (cJ, 12, .inr (.inl xsm))), (y3, .inl (cI, 12, .inl xfl))]) (W1 := [(o0, .inr (6, [.ref a0, .ref b0])), (a0, .inr (1, [.ref a1, .ref a2, .ref a3, .ref a4, .ref a5])), (b0, .inr (1, [.ref b1, .ref b2, .ref b3, .ref b4, .ref b5])), (a2, .inr (4, [.ref p1, .ref p2, .ref p3])), (p1, .inl (cJ, 12, .inr (.inl an))), (p2, .inl (cJ, 12, .inr (.inl sm))), (p3, .inl (cI, 12, .inl fl)), (b2, .inr (4, [.ref y1, .ref y2, .ref y3])), (y1, .inl (cJ, 12, .inr (.inl an))), (y2, .inl (cJ, 12, .inr (.inl xsm))), (y3, .inl (cI, 12, .inl xfl))]) (st1 := [.int (f_isPart x)]) ⟨hx, hb, hml, hown, hts⟩ (k_PD_isPart l dC dI cI cJ cG cZ x) (va_cwS 1 hts (k_gS m_l_PD_29 m_st_PD_isPart m_in_PD m_c_PD_isPart) rfl rfl rfl (by decide +kernel) ⟨Nat.le_of_ble_eq_true rfl, Nat.le_of_ble_eq_true rfl⟩) hK hF hP hD hS hA [] [0, 1, 2, 3, 4, 5, 6, 7, 8, 9, 10] [0, 1, 2, 3, 4, 5, 6, 7, 8, 9, 10] rfl rfl (by decide) (by decide) (by decide) rfl (by decide) rfl hl.1 rfl (Nat.le_of_ble_eq_true rfl) dPD_fails_1 ⟨Nat.le_of_ble_eq_true rfl, Nat.le_of_ble_eq_true rfl⟩ rfl (fun H locs hP hD hS => ?_)
    refine lv_if_eq (tgt := 16) hx hb dPD_fails_4 (by decide) (fun c_1 => ?_) (fun c_1 => ?_)
    · refine lv_iconst (v := 0) hx hb dPD_fails_16 (by decide) ?_
      exact k_zret hx hb hr hlocks rfl hP hK hD hS rfl dPD_fails_17 ⟨Nat.le_of_ble_eq_true rfl, Nat.le_of_ble_eq_true rfl⟩
    · exact absurd h0 c_1
  · have e1 : f_fok (nI k) g = 0 := by unfold f_fok; rw [if_neg (by rw [f_isPart_nI hk]; decide), if_pos h1]
    rw [show f_flF fl (nI k) g = fl from if_pos e1, show f_flF xfl (nI k) g = xfl from if_pos e1, e1]
    refine k_of (cc := cPD_fails) (maxL := 3) (ret := (some .boolean)) (by decide) rfl (Nat.le_of_ble_eq_true rfl) ?_
    intro p e s m below meth c A ls hx hb hr hlocks hml hown hts hA hP hD hK hF hl hS
    have hown : s.vm.findClass RPD = some m.cls := hown
    have hl : lv_has ls 3 [(0, .ref o0), (1, .int (nI k)), (2, .int g)] := hl
    refine lv_iload_n hx hb dPD_fails_0 rfl (lv_at hl 1 rfl) ?_
    refine k_S (wr := [(o0, .inr (6, [.ref a0, .ref b0])), (a0, .inr (1, [.ref a1, .ref a2, .ref a3, .ref a4, .ref a5])), (b0, .inr (1, [.ref b1, .ref b2, .ref b3, .ref b4, .ref b5])), (a2, .inr (4, [.ref p1, .ref p2, .ref p3])), (p1, .inl (cJ, 12, .inr (.inl an))), (p2, .inl (cJ, 12, .inr (.inl sm))), (p3, .inl (cI, 12, .inl fl)), (b2, .inr (4, [.ref y1, .ref y2, .ref y3])), (y1, .inl (cJ, 12, .inr (.inl an))), (y2, .inl (cJ, 12, .inr (.inl xsm))), (y3, .inl (cI, 12, .inl xfl))]) (W1 := [(o0, .inr (6, [.ref a0, .ref b0])), (a0, .inr (1, [.ref a1, .ref a2, .ref a3, .ref a4, .ref a5])), (b0, .inr (1, [.ref b1, .ref b2, .ref b3, .ref b4, .ref b5])), (a2, .inr (4, [.ref p1, .ref p2, .ref p3])), (p1, .inl (cJ, 12, .inr (.inl an))), (p2, .inl (cJ, 12, .inr (.inl sm))), (p3, .inl (cI, 12, .inl fl)), (b2, .inr (4, [.ref y1, .ref y2, .ref y3])), (y1, .inl (cJ, 12, .inr (.inl an))), (y2, .inl (cJ, 12, .inr (.inl xsm))), (y3, .inl (cI, 12, .inl xfl))]) (st1 := [.int (f_isPart (nI k))]) ⟨hx, hb, hml, hown, hts⟩ (k_PD_isPart l dC dI cI cJ cG cZ (nI k)) (va_cwS 1 hts (k_gS m_l_PD_29 m_st_PD_isPart m_in_PD m_c_PD_isPart) rfl rfl rfl (by decide +kernel) ⟨Nat.le_of_ble_eq_true rfl, Nat.le_of_ble_eq_true rfl⟩) hK hF hP hD hS hA [] [0, 1, 2, 3, 4, 5, 6, 7, 8, 9, 10] [0, 1, 2, 3, 4, 5, 6, 7, 8, 9, 10] rfl rfl (by decide) (by decide) (by decide) rfl (by decide) rfl hl.1 rfl (Nat.le_of_ble_eq_true rfl) dPD_fails_1 ⟨Nat.le_of_ble_eq_true rfl, Nat.le_of_ble_eq_true rfl⟩ rfl (fun H locs hP hD hS => ?_)
    refine lv_if_eq (tgt := 16) hx hb dPD_fails_4 (by decide) (fun c_1 => ?_) (fun c_1 => ?_)
    · exact absurd c_1 (by rw [f_isPart_nI hk]; decide)
    · refine lv_iload_n hx hb dPD_fails_7 rfl (lv_at hl 2 rfl) ?_
      refine lv_if_lt (tgt := 16) hx hb dPD_fails_8 (by decide) (fun c_2 => ?_) (fun c_2 => ?_)
      · refine lv_iconst (v := 0) hx hb dPD_fails_16 (by decide) ?_
        exact k_zret hx hb hr hlocks rfl hP hK hD hS rfl dPD_fails_17 ⟨Nat.le_of_ble_eq_true rfl, Nat.le_of_ble_eq_true rfl⟩
      · exact absurd h1 c_2
  · have e1 : f_fok (nI k) g = 0 := by unfold f_fok; rw [if_neg (by rw [f_isPart_nI hk]; decide), if_neg h1, if_neg h2]
    rw [show f_flF fl (nI k) g = fl from if_pos e1, show f_flF xfl (nI k) g = xfl from if_pos e1, e1]
    refine k_of (cc := cPD_fails) (maxL := 3) (ret := (some .boolean)) (by decide) rfl (Nat.le_of_ble_eq_true rfl) ?_
    intro p e s m below meth c A ls hx hb hr hlocks hml hown hts hA hP hD hK hF hl hS
    have hown : s.vm.findClass RPD = some m.cls := hown
    have hl : lv_has ls 3 [(0, .ref o0), (1, .int (nI k)), (2, .int g)] := hl
    refine lv_iload_n hx hb dPD_fails_0 rfl (lv_at hl 1 rfl) ?_
    refine k_S (wr := [(o0, .inr (6, [.ref a0, .ref b0])), (a0, .inr (1, [.ref a1, .ref a2, .ref a3, .ref a4, .ref a5])), (b0, .inr (1, [.ref b1, .ref b2, .ref b3, .ref b4, .ref b5])), (a2, .inr (4, [.ref p1, .ref p2, .ref p3])), (p1, .inl (cJ, 12, .inr (.inl an))), (p2, .inl (cJ, 12, .inr (.inl sm))), (p3, .inl (cI, 12, .inl fl)), (b2, .inr (4, [.ref y1, .ref y2, .ref y3])), (y1, .inl (cJ, 12, .inr (.inl an))), (y2, .inl (cJ, 12, .inr (.inl xsm))), (y3, .inl (cI, 12, .inl xfl))]) (W1 := [(o0, .inr (6, [.ref a0, .ref b0])), (a0, .inr (1, [.ref a1, .ref a2, .ref a3, .ref a4, .ref a5])), (b0, .inr (1, [.ref b1, .ref b2, .ref b3, .ref b4, .ref b5])), (a2, .inr (4, [.ref p1, .ref p2, .ref p3])), (p1, .inl (cJ, 12, .inr (.inl an))), (p2, .inl (cJ, 12, .inr (.inl sm))), (p3, .inl (cI, 12, .inl fl)), (b2, .inr (4, [.ref y1, .ref y2, .ref y3])), (y1, .inl (cJ, 12, .inr (.inl an))), (y2, .inl (cJ, 12, .inr (.inl xsm))), (y3, .inl (cI, 12, .inl xfl))]) (st1 := [.int (f_isPart (nI k))]) ⟨hx, hb, hml, hown, hts⟩ (k_PD_isPart l dC dI cI cJ cG cZ (nI k)) (va_cwS 1 hts (k_gS m_l_PD_29 m_st_PD_isPart m_in_PD m_c_PD_isPart) rfl rfl rfl (by decide +kernel) ⟨Nat.le_of_ble_eq_true rfl, Nat.le_of_ble_eq_true rfl⟩) hK hF hP hD hS hA [] [0, 1, 2, 3, 4, 5, 6, 7, 8, 9, 10] [0, 1, 2, 3, 4, 5, 6, 7, 8, 9, 10] rfl rfl (by decide) (by decide) (by decide) rfl (by decide) rfl hl.1 rfl (Nat.le_of_ble_eq_true rfl) dPD_fails_1 ⟨Nat.le_of_ble_eq_true rfl, Nat.le_of_ble_eq_true rfl⟩ rfl (fun H locs hP hD hS => ?_)
    refine lv_if_eq (tgt := 16) hx hb dPD_fails_4 (by decide) (fun c_1 => ?_) (fun c_1 => ?_)
    · exact absurd c_1 (by rw [f_isPart_nI hk]; decide)
    · refine lv_iload_n hx hb dPD_fails_7 rfl (lv_at hl 2 rfl) ?_
      refine lv_if_lt (tgt := 16) hx hb dPD_fails_8 (by decide) (fun c_2 => ?_) (fun c_2 => ?_)
      · exact absurd c_2 h1
      · refine lv_iload_n hx hb dPD_fails_11 rfl (lv_at hl 2 rfl) ?_
        refine lv_iconst (v := 5) hx hb dPD_fails_12 (by decide) ?_
        refine lv_icmp_le (tgt := 18) hx hb dPD_fails_13 (by decide) (fun c_3 => ?_) (fun c_3 => ?_)
        · exact absurd c_3 h2
        · refine lv_iconst (v := 0) hx hb dPD_fails_16 (by decide) ?_
          exact k_zret hx hb hr hlocks rfl hP hK hD hS rfl dPD_fails_17 ⟨Nat.le_of_ble_eq_true rfl, Nat.le_of_ble_eq_true rfl⟩
  · have e1 : f_fok (nI k) g = 1 := by unfold f_fok; rw [if_neg (by rw [f_isPart_nI hk]; decide), if_neg h1, if_pos h2]
    have e2 : ¬ f_fok (nI k) g = 0 := by rw [e1]; decide
    rw [show f_flF fl (nI k) g = upd fl k g by unfold f_flF; rw [if_neg e2, nI_clamp (by omega)], show f_flF xfl (nI k) g = upd xfl k g by unfold f_flF; rw [if_neg e2, nI_clamp (by omega)], e1]
    refine k_of (cc := cPD_fails) (maxL := 3) (ret := (some .boolean)) (by decide) rfl (Nat.le_of_ble_eq_true rfl) ?_
    intro p e s m below meth c A ls hx hb hr hlocks hml hown hts hA hP hD hK hF hl hS
    have hown : s.vm.findClass RPD = some m.cls := hown
    have hl : lv_has ls 3 [(0, .ref o0), (1, .int (nI k)), (2, .int g)] := hl
    refine lv_iload_n hx hb dPD_fails_0 rfl (lv_at hl 1 rfl) ?_
    refine k_S (wr := [(o0, .inr (6, [.ref a0, .ref b0])), (a0, .inr (1, [.ref a1, .ref a2, .ref a3, .ref a4, .ref a5])), (b0, .inr (1, [.ref b1, .ref b2, .ref b3, .ref b4, .ref b5])), (a2, .inr (4, [.ref p1, .ref p2, .ref p3])), (p1, .inl (cJ, 12, .inr (.inl an))), (p2, .inl (cJ, 12, .inr (.inl sm))), (p3, .inl (cI, 12, .inl fl)), (b2, .inr (4, [.ref y1, .ref y2, .ref y3])), (y1, .inl (cJ, 12, .inr (.inl an))), (y2, .inl (cJ, 12, .inr (.inl xsm))), (y3, .inl (cI, 12, .inl xfl))]) (W1 := [(o0, .inr (6, [.ref a0, .ref b0])), (a0, .inr (1, [.ref a1, .ref a2, .ref a3, .ref a4, .ref a5])), (b0, .inr (1, [.ref b1, .ref b2, .ref b3, .ref b4, .ref b5])), (a2, .inr (4, [.ref p1, .ref p2, .ref p3])), (p1, .inl (cJ, 12, .inr (.inl an))), (p2, .inl (cJ, 12, .inr (.inl sm))), (p3, .inl (cI, 12, .inl fl)), (b2, .inr (4, [.ref y1, .ref y2, .ref y3])), (y1, .inl (cJ, 12, .inr (.inl an))), (y2, .inl (cJ, 12, .inr (.inl xsm))), (y3, .inl (cI, 12, .inl xfl))]) (st1 := [.int (f_isPart (nI k))]) ⟨hx, hb, hml, hown, hts⟩ (k_PD_isPart l dC dI cI cJ cG cZ (nI k)) (va_cwS 1 hts (k_gS m_l_PD_29 m_st_PD_isPart m_in_PD m_c_PD_isPart) rfl rfl rfl (by decide +kernel) ⟨Nat.le_of_ble_eq_true rfl, Nat.le_of_ble_eq_true rfl⟩) hK hF hP hD hS hA [] [0, 1, 2, 3, 4, 5, 6, 7, 8, 9, 10] [0, 1, 2, 3, 4, 5, 6, 7, 8, 9, 10] rfl rfl (by decide) (by decide) (by decide) rfl (by decide) rfl hl.1 rfl (Nat.le_of_ble_eq_true rfl) dPD_fails_1 ⟨Nat.le_of_ble_eq_true rfl, Nat.le_of_ble_eq_true rfl⟩ rfl (fun H locs hP hD hS => ?_)
    refine lv_if_eq (tgt := 16) hx hb dPD_fails_4 (by decide) (fun c_1 => ?_) (fun c_1 => ?_)
    · exact absurd c_1 (by rw [f_isPart_nI hk]; decide)
    · refine lv_iload_n hx hb dPD_fails_7 rfl (lv_at hl 2 rfl) ?_
      refine lv_if_lt (tgt := 16) hx hb dPD_fails_8 (by decide) (fun c_2 => ?_) (fun c_2 => ?_)
      · exact absurd c_2 h1
      · refine lv_iload_n hx hb dPD_fails_11 rfl (lv_at hl 2 rfl) ?_
        refine lv_iconst (v := 5) hx hb dPD_fails_12 (by decide) ?_
        refine lv_icmp_le (tgt := 18) hx hb dPD_fails_13 (by decide) (fun c_3 => ?_) (fun c_3 => ?_)
        · refine lv_aload_n hx hb dPD_fails_18 rfl (lv_at hl 0 rfl) ?_
          refine va_get (D := (dC, dI)) (ci := 6) (v := .ref a0) (C := RPD) (T := TPD) (N := 2) hx hb hts inPD hown hK hP 0 rfl rfl 0 (by decide) (hts _ m_f_PD_10) (fun _ h9 => h9) rfl dPD_fails_19 ?_
          refine va_get (D := (dC, dI)) (ci := 1) (v := .ref a2) (C := RDK) (T := TDK) (N := 5) hx hb hts inDK hown hK hP 1 rfl rfl 1 (by decide) (hts _ m_f_PD_33) (fun _ h9 => h9) rfl dPD_fails_22 ?_
          refine lv_iload_n hx hb dPD_fails_25 rfl (lv_at hl 1 rfl) ?_
          refine lv_iload_n hx hb dPD_fails_26 rfl (lv_at hl 2 rfl) ?_
          refine k_V (wr := [(o0, .inr (6, [.ref a0, .ref b0])), (a0, .inr (1, [.ref a1, .ref a2, .ref a3, .ref a4, .ref a5])), (b0, .inr (1, [.ref b1, .ref b2, .ref b3, .ref b4, .ref b5])), (b2, .inr (4, [.ref y1, .ref y2, .ref y3])), (y1, .inl (cJ, 12, .inr (.inl an))), (y2, .inl (cJ, 12, .inr (.inl xsm))), (y3, .inl (cI, 12, .inl xfl))]) (W1 := [(o0, .inr (6, [.ref a0, .ref b0])), (a0, .inr (1, [.ref a1, .ref a2, .ref a3, .ref a4, .ref a5])), (b0, .inr (1, [.ref b1, .ref b2, .ref b3, .ref b4, .ref b5])), (a2, .inr (4, [.ref p1, .ref p2, .ref p3])), (p1, .inl (cJ, 12, .inr (.inl an))), (p2, .inl (cJ, 12, .inr (.inl sm))), (p3, .inl (cI, 12, .inl (upd fl k g))), (b2, .inr (4, [.ref y1, .ref y2, .ref y3])), (y1, .inl (cJ, 12, .inr (.inl an))), (y2, .inl (cJ, 12, .inr (.inl xsm))), (y3, .inl (cI, 12, .inl xfl))]) (st1 := []) ⟨hx, hb, hml, hown, hts⟩ (k_PT_setFailure l dC dI cI cJ cG cZ a2 p1 p2 p3 an sm fl k g hk) (cwV 2 hts (k_gV m_l_PD_43 m_i_PT_setFailure m_s_PT_setFailure m_in_PT m_c_PT_setFailure) rfl rfl rfl (by decide +kernel) ⟨Nat.le_of_ble_eq_true rfl, Nat.le_of_ble_eq_true rfl⟩) hK hF hP hD hS hA [3, 4, 5, 6] [0, 1, 2, 7, 8, 9, 10] [0, 1, 2, 7, 8, 9, 10, 3, 4, 5, 6] rfl rfl (by decide) (by decide) (by decide) rfl (by decide) rfl rfl rfl rfl hl.1 rfl (Nat.le_of_ble_eq_true rfl) dPD_fails_27 ⟨Nat.le_of_ble_eq_true rfl, Nat.le_of_ble_eq_true rfl⟩ rfl (fun H locs hP hD hS => ?_)
          refine lv_aload_n hx hb dPD_fails_30 rfl (lv_at hl 0 rfl) ?_
          refine va_get (D := (dC, dI)) (ci := 6) (v := .ref b0) (C := RPD) (T := TPD) (N := 2) hx hb hts inPD hown hK hP 0 rfl rfl 1 (by decide) (hts _ m_f_PD_16) (fun _ h9 => h9) rfl dPD_fails_31 ?_
          refine va_get (D := (dC, dI)) (ci := 1) (v := .ref b2) (C := RDK) (T := TDK) (N := 5) hx hb hts inDK hown hK hP 2 rfl rfl 1 (by decide) (hts _ m_f_PD_33) (fun _ h9 => h9) rfl dPD_fails_34 ?_
          refine lv_iload_n hx hb dPD_fails_37 rfl (lv_at hl 1 rfl) ?_
          refine lv_iload_n hx hb dPD_fails_38 rfl (lv_at hl 2 rfl) ?_
          refine k_V (wr := [(o0, .inr (6, [.ref a0, .ref b0])), (a0, .inr (1, [.ref a1, .ref a2, .ref a3, .ref a4, .ref a5])), (b0, .inr (1, [.ref b1, .ref b2, .ref b3, .ref b4, .ref b5])), (a2, .inr (4, [.ref p1, .ref p2, .ref p3])), (p1, .inl (cJ, 12, .inr (.inl an))), (p2, .inl (cJ, 12, .inr (.inl sm))), (p3, .inl (cI, 12, .inl (upd fl k g)))]) (W1 := [(o0, .inr (6, [.ref a0, .ref b0])), (a0, .inr (1, [.ref a1, .ref a2, .ref a3, .ref a4, .ref a5])), (b0, .inr (1, [.ref b1, .ref b2, .ref b3, .ref b4, .ref b5])), (a2, .inr (4, [.ref p1, .ref p2, .ref p3])), (p1, .inl (cJ, 12, .inr (.inl an))), (p2, .inl (cJ, 12, .inr (.inl sm))), (p3, .inl (cI, 12, .inl (upd fl k g))), (b2, .inr (4, [.ref y1, .ref y2, .ref y3])), (y1, .inl (cJ, 12, .inr (.inl an))), (y2, .inl (cJ, 12, .inr (.inl xsm))), (y3, .inl (cI, 12, .inl (upd xfl k g)))]) (st1 := []) ⟨hx, hb, hml, hown, hts⟩ (k_PT_setFailure l dC dI cI cJ cG cZ b2 y1 y2 y3 an xsm xfl k g hk) (cwV 2 hts (k_gV m_l_PD_43 m_i_PT_setFailure m_s_PT_setFailure m_in_PT m_c_PT_setFailure) rfl rfl rfl (by decide +kernel) ⟨Nat.le_of_ble_eq_true rfl, Nat.le_of_ble_eq_true rfl⟩) hK hF hP hD hS hA [7, 8, 9, 10] [0, 1, 2, 3, 4, 5, 6] [0, 1, 2, 3, 4, 5, 6, 7, 8, 9, 10] rfl rfl (by decide) (by decide) (by decide) rfl (by decide) rfl rfl rfl rfl hl.1 rfl (Nat.le_of_ble_eq_true rfl) dPD_fails_39 ⟨Nat.le_of_ble_eq_true rfl, Nat.le_of_ble_eq_true rfl⟩ rfl (fun H locs hP hD hS => ?_)
          refine lv_iconst (v := 1) hx hb dPD_fails_42 (by decide) ?_
          exact k_zret hx hb hr hlocks rfl hP hK hD hS rfl dPD_fails_43 ⟨Nat.le_of_ble_eq_true rfl, Nat.le_of_ble_eq_true rfl⟩
        · exact absurd h2 c_3

abbrev rm_PD_drop : Room := { frames := 2, cells := 0, slots := 0, locals := 44 }
set_option maxHeartbeats 4000000 in
set_option maxRecDepth 100000 in
theorem k_PD_drop (l : Launch) (dC : Nat → ClassId) (dI : Nat → Nat → Nat) (cI cJ cG cZ : ClassId) (o0 : Nat) (a0 : Nat) (a1 : Nat) (a2 : Nat) (a3 : Nat) (a4 : Nat) (a5 : Nat) (b0 : Nat) (b1 : Nat) (b2 : Nat) (b3 : Nat) (b4 : Nat) (b5 : Nat) (n1 : Nat) (n2 : Nat) (m1 : Nat) (m2 : Nat) (md : Nat → Int32) (kn : Nat → Int64) (x : Int32) (n : Int32) : k_M l yPD_drop wsPD_drop rm_PD_drop (dC, dI) vwCl [(cI, .int), (cJ, .long), (cG, .array .long), (cZ, .boolean)] [.ref o0, .int x, .int n] [(o0, .inr (6, [.ref a0, .ref b0])), (a0, .inr (1, [.ref a1, .ref a2, .ref a3, .ref a4, .ref a5])), (b0, .inr (1, [.ref b1, .ref b2, .ref b3, .ref b4, .ref b5])), (a1, .inr (3, [.ref n1, .ref n2])), (n1, .inl (cI, 8, .inl md)), (n2, .inl (cJ, 8, .inr (.inl kn))), (b1, .inr (3, [.ref m1, .ref m2])), (m1, .inl (cI, 8, .inl md)), (m2, .inl (cJ, 8, .inr (.inl kn)))] (some (.int (f_dr md kn x n))) [(o0, .inr (6, [.ref a0, .ref b0])), (a0, .inr (1, [.ref a1, .ref a2, .ref a3, .ref a4, .ref a5])), (b0, .inr (1, [.ref b1, .ref b2, .ref b3, .ref b4, .ref b5])), (a1, .inr (3, [.ref n1, .ref n2])), (n1, .inl (cI, 8, .inl md)), (n2, .inl (cJ, 8, .inr (.inl (f_drK md kn x n)))), (b1, .inr (3, [.ref m1, .ref m2])), (m1, .inl (cI, 8, .inl md)), (m2, .inl (cJ, 8, .inr (.inl (f_drK md kn x n))))] := by
  rcases (show f_isKind x = 0 ∨ (∃ k : Nat, k < 8 ∧ x = nI k ∧ f_isKnown md kn k n = 0) ∨ (∃ k : Nat, k < 8 ∧ x = nI k ∧ ¬ f_isKnown md kn k n = 0) by rcases f_isKind_or x with h | ⟨k, hk, h⟩; exact Or.inl h; by_cases h1 : f_isKnown md kn k n = 0; exact Or.inr (Or.inl ⟨k, hk, h, h1⟩); exact Or.inr (Or.inr ⟨k, hk, h, h1⟩)) with h0 | ⟨k, hk, rfl, h1⟩ | ⟨k, hk, rfl, h1⟩
  · have e1 : f_dr md kn x n = 0 := if_pos h0
    rw [show f_drK md kn x n = kn from if_pos e1, e1]
    refine k_of (cc := cPD_drop) (maxL := 3) (ret := (some .boolean)) (by decide) rfl (Nat.le_of_ble_eq_true rfl) ?_
    intro p e s m below meth c A ls hx hb hr hlocks hml hown hts hA hP hD hK hF hl hS
    have hown : s.vm.findClass RPD = some m.cls := hown
    have hl : lv_has ls 3 [(0, .ref o0), (1, .int x), (2, .int n)] := hl
    refine lv_iload_n hx hb dPD_drop_0 rfl (lv_at hl 1 rfl) ?_
    refine k_S (wr := [(o0, .inr (6, [.ref a0, .ref b0])), (a0, .inr (1, [.ref a1, .ref a2, .ref a3, .ref a4, .ref a5])), (b0, .inr (1, [.ref b1, .ref b2, .ref b3, .ref b4, .ref b5])), (a1, .inr (3, [.ref n1, .ref n2])), (n1, .inl (cI, 8, .inl md)), (n2, .inl (cJ, 8, .inr (.inl kn))), (b1, .inr (3, [.ref m1, .ref m2])), (m1, .inl (cI, 8, .inl md)), (m2, .inl (cJ, 8, .inr (.inl kn)))]) (W1 := [(o0, .inr (6, [.ref a0, .ref b0])), (a0, .inr (1, [.ref a1, .ref a2, .ref a3, .ref a4, .ref a5])), (b0, .inr (1, [.ref b1, .ref b2, .ref b3, .ref b4, .ref b5])), (a1, .inr (3, [.ref n1, .ref n2])), (n1, .inl (cI, 8, .inl md)), (n2, .inl (cJ, 8, .inr (.inl kn))), (b1, .inr (3, [.ref m1, .ref m2])), (m1, .inl (cI, 8, .inl md)), (m2, .inl (cJ, 8, .inr (.inl kn)))]) (st1 := [.int (f_isKind x)]) ⟨hx, hb, hml, hown, hts⟩ (k_PD_isKind l dC dI cI cJ cG cZ x) (va_cwS 1 hts (k_gS m_l_PD_47 m_st_PD_isKind m_in_PD m_c_PD_isKind) rfl rfl rfl (by decide +kernel) ⟨Nat.le_of_ble_eq_true rfl, Nat.le_of_ble_eq_true rfl⟩) hK hF hP hD hS hA [] [0, 1, 2, 3, 4, 5, 6, 7, 8] [0, 1, 2, 3, 4, 5, 6, 7, 8] rfl rfl (by decide) (by decide) (by decide) rfl (by decide) rfl hl.1 rfl (Nat.le_of_ble_eq_true rfl) dPD_drop_1 ⟨Nat.le_of_ble_eq_true rfl, Nat.le_of_ble_eq_true rfl⟩ rfl (fun H locs hP hD hS => ?_)
    refine lv_if_eq (tgt := 22) hx hb dPD_drop_4 (by decide) (fun c_1 => ?_) (fun c_1 => ?_)
    · refine lv_iconst (v := 0) hx hb dPD_drop_22 (by decide) ?_
      exact k_zret hx hb hr hlocks rfl hP hK hD hS rfl dPD_drop_23 ⟨Nat.le_of_ble_eq_true rfl, Nat.le_of_ble_eq_true rfl⟩
    · exact absurd h0 c_1
  · have e1 : f_dr md kn (nI k) n = 0 := by unfold f_dr; rw [if_neg (by rw [f_isKind_nI hk]; decide), nI_clamp (by omega), h1]
    rw [show f_drK md kn (nI k) n = kn from if_pos e1, e1]
    refine k_of (cc := cPD_drop) (maxL := 3) (ret := (some .boolean)) (by decide) rfl (Nat.le_of_ble_eq_true rfl) ?_
    intro p e s m below meth c A ls hx hb hr hlocks hml hown hts hA hP hD hK hF hl hS
    have hown : s.vm.findClass RPD = some m.cls := hown
    have hl : lv_has ls 3 [(0, .ref o0), (1, .int (nI k)), (2, .int n)] := hl
    refine lv_iload_n hx hb dPD_drop_0 rfl (lv_at hl 1 rfl) ?_
    refine k_S (wr := [(o0, .inr (6, [.ref a0, .ref b0])), (a0, .inr (1, [.ref a1, .ref a2, .ref a3, .ref a4, .ref a5])), (b0, .inr (1, [.ref b1, .ref b2, .ref b3, .ref b4, .ref b5])), (a1, .inr (3, [.ref n1, .ref n2])), (n1, .inl (cI, 8, .inl md)), (n2, .inl (cJ, 8, .inr (.inl kn))), (b1, .inr (3, [.ref m1, .ref m2])), (m1, .inl (cI, 8, .inl md)), (m2, .inl (cJ, 8, .inr (.inl kn)))]) (W1 := [(o0, .inr (6, [.ref a0, .ref b0])), (a0, .inr (1, [.ref a1, .ref a2, .ref a3, .ref a4, .ref a5])), (b0, .inr (1, [.ref b1, .ref b2, .ref b3, .ref b4, .ref b5])), (a1, .inr (3, [.ref n1, .ref n2])), (n1, .inl (cI, 8, .inl md)), (n2, .inl (cJ, 8, .inr (.inl kn))), (b1, .inr (3, [.ref m1, .ref m2])), (m1, .inl (cI, 8, .inl md)), (m2, .inl (cJ, 8, .inr (.inl kn)))]) (st1 := [.int (f_isKind (nI k))]) ⟨hx, hb, hml, hown, hts⟩ (k_PD_isKind l dC dI cI cJ cG cZ (nI k)) (va_cwS 1 hts (k_gS m_l_PD_47 m_st_PD_isKind m_in_PD m_c_PD_isKind) rfl rfl rfl (by decide +kernel) ⟨Nat.le_of_ble_eq_true rfl, Nat.le_of_ble_eq_true rfl⟩) hK hF hP hD hS hA [] [0, 1, 2, 3, 4, 5, 6, 7, 8] [0, 1, 2, 3, 4, 5, 6, 7, 8] rfl rfl (by decide) (by decide) (by decide) rfl (by decide) rfl hl.1 rfl (Nat.le_of_ble_eq_true rfl) dPD_drop_1 ⟨Nat.le_of_ble_eq_true rfl, Nat.le_of_ble_eq_true rfl⟩ rfl (fun H locs hP hD hS => ?_)
    refine lv_if_eq (tgt := 22) hx hb dPD_drop_4 (by decide) (fun c_1 => ?_) (fun c_1 => ?_)
    · exact absurd c_1 (by rw [f_isKind_nI hk]; decide)
    · refine lv_aload_n hx hb dPD_drop_7 rfl (lv_at hl 0 rfl) ?_
      refine va_get (D := (dC, dI)) (ci := 6) (v := .ref a0) (C := RPD) (T := TPD) (N := 2) hx hb hts inPD hown hK hP 0 rfl rfl 0 (by decide) (hts _ m_f_PD_10) (fun _ h9 => h9) rfl dPD_drop_8 ?_
      refine va_get (D := (dC, dI)) (ci := 1) (v := .ref a1) (C := RDK) (T := TDK) (N := 5) hx hb hts inDK hown hK hP 1 rfl rfl 0 (by decide) (hts _ m_f_PD_57) (fun _ h9 => h9) rfl dPD_drop_11 ?_
      refine lv_iload_n hx hb dPD_drop_14 rfl (lv_at hl 1 rfl) ?_
      refine lv_iload_n hx hb dPD_drop_15 rfl (lv_at hl 2 rfl) ?_
      refine k_V (wr := [(o0, .inr (6, [.ref a0, .ref b0])), (a0, .inr (1, [.ref a1, .ref a2, .ref a3, .ref a4, .ref a5])), (b0, .inr (1, [.ref b1, .ref b2, .ref b3, .ref b4, .ref b5])), (b1, .inr (3, [.ref m1, .ref m2])), (m1, .inl (cI, 8, .inl md)), (m2, .inl (cJ, 8, .inr (.inl kn)))]) (W1 := [(o0, .inr (6, [.ref a0, .ref b0])), (a0, .inr (1, [.ref a1, .ref a2, .ref a3, .ref a4, .ref a5])), (b0, .inr (1, [.ref b1, .ref b2, .ref b3, .ref b4, .ref b5])), (a1, .inr (3, [.ref n1, .ref n2])), (n1, .inl (cI, 8, .inl md)), (n2, .inl (cJ, 8, .inr (.inl kn))), (b1, .inr (3, [.ref m1, .ref m2])), (m1, .inl (cI, 8, .inl md)), (m2, .inl (cJ, 8, .inr (.inl kn)))]) (st1 := [.int (f_isKnown md kn k n)]) ⟨hx, hb, hml, hown, hts⟩ (k_NU_isKnown l dC dI cI cJ cG cZ a1 n1 n2 md kn k n hk) (cwV 2 hts (k_gV m_l_PD_75 m_i_NU_isKnown m_s_NU_isKnown m_in_NU m_c_NU_isKnown) rfl rfl rfl (by decide +kernel) ⟨Nat.le_of_ble_eq_true rfl, Nat.le_of_ble_eq_true rfl⟩) hK hF hP hD hS hA [3, 4, 5] [0, 1, 2, 6, 7, 8] [0, 1, 2, 6, 7, 8, 3, 4, 5] rfl rfl (by decide) (by decide) (by decide) rfl (by decide) rfl rfl rfl rfl hl.1 rfl (Nat.le_of_ble_eq_true rfl) dPD_drop_16 ⟨Nat.le_of_ble_eq_true rfl, Nat.le_of_ble_eq_true rfl⟩ rfl (fun H locs hP hD hS => ?_)
      refine lv_if_ne (tgt := 24) hx hb dPD_drop_19 (by decide) (fun c_2 => ?_) (fun c_2 => ?_)
      · exact absurd h1 c_2
      · refine lv_iconst (v := 0) hx hb dPD_drop_22 (by decide) ?_
        exact k_zret hx hb hr hlocks rfl hP hK hD hS rfl dPD_drop_23 ⟨Nat.le_of_ble_eq_true rfl, Nat.le_of_ble_eq_true rfl⟩
  · have e1 : f_dr md kn (nI k) n = 1 := by unfold f_dr; rw [if_neg (by rw [f_isKind_nI hk]; decide), nI_clamp (by omega)]; exact f_known1 h1
    have e2 : ¬ f_dr md kn (nI k) n = 0 := by rw [e1]; decide
    rw [show f_drK md kn (nI k) n = vp_updL kn k (kn k &&& (f_bit n ^^^ (-1))) by unfold f_drK; rw [if_neg e2, nI_clamp (by omega)], e1]
    refine k_of (cc := cPD_drop) (maxL := 3) (ret := (some .boolean)) (by decide) rfl (Nat.le_of_ble_eq_true rfl) ?_
    intro p e s m below meth c A ls hx hb hr hlocks hml hown hts hA hP hD hK hF hl hS
    have hown : s.vm.findClass RPD = some m.cls := hown
    have hl : lv_has ls 3 [(0, .ref o0), (1, .int (nI k)), (2, .int n)] := hl
    refine lv_iload_n hx hb dPD_drop_0 rfl (lv_at hl 1 rfl) ?_
    refine k_S (wr := [(o0, .inr (6, [.ref a0, .ref b0])), (a0, .inr (1, [.ref a1, .ref a2, .ref a3, .ref a4, .ref a5])), (b0, .inr (1, [.ref b1, .ref b2, .ref b3, .ref b4, .ref b5])), (a1, .inr (3, [.ref n1, .ref n2])), (n1, .inl (cI, 8, .inl md)), (n2, .inl (cJ, 8, .inr (.inl kn))), (b1, .inr (3, [.ref m1, .ref m2])), (m1, .inl (cI, 8, .inl md)), (m2, .inl (cJ, 8, .inr (.inl kn)))]) (W1 := [(o0, .inr (6, [.ref a0, .ref b0])), (a0, .inr (1, [.ref a1, .ref a2, .ref a3, .ref a4, .ref a5])), (b0, .inr (1, [.ref b1, .ref b2, .ref b3, .ref b4, .ref b5])), (a1, .inr (3, [.ref n1, .ref n2])), (n1, .inl (cI, 8, .inl md)), (n2, .inl (cJ, 8, .inr (.inl kn))), (b1, .inr (3, [.ref m1, .ref m2])), (m1, .inl (cI, 8, .inl md)), (m2, .inl (cJ, 8, .inr (.inl kn)))]) (st1 := [.int (f_isKind (nI k))]) ⟨hx, hb, hml, hown, hts⟩ (k_PD_isKind l dC dI cI cJ cG cZ (nI k)) (va_cwS 1 hts (k_gS m_l_PD_47 m_st_PD_isKind m_in_PD m_c_PD_isKind) rfl rfl rfl (by decide +kernel) ⟨Nat.le_of_ble_eq_true rfl, Nat.le_of_ble_eq_true rfl⟩) hK hF hP hD hS hA [] [0, 1, 2, 3, 4, 5, 6, 7, 8] [0, 1, 2, 3, 4, 5, 6, 7, 8] rfl rfl (by decide) (by decide) (by decide) rfl (by decide) rfl hl.1 rfl (Nat.le_of_ble_eq_true rfl) dPD_drop_1 ⟨Nat.le_of_ble_eq_true rfl, Nat.le_of_ble_eq_true rfl⟩ rfl (fun H locs hP hD hS => ?_)
    refine lv_if_eq (tgt := 22) hx hb dPD_drop_4 (by decide) (fun c_1 => ?_) (fun c_1 => ?_)
    · exact absurd c_1 (by rw [f_isKind_nI hk]; decide)
    · refine lv_aload_n hx hb dPD_drop_7 rfl (lv_at hl 0 rfl) ?_
      refine va_get (D := (dC, dI)) (ci := 6) (v := .ref a0) (C := RPD) (T := TPD) (N := 2) hx hb hts inPD hown hK hP 0 rfl rfl 0 (by decide) (hts _ m_f_PD_10) (fun _ h9 => h9) rfl dPD_drop_8 ?_
      refine va_get (D := (dC, dI)) (ci := 1) (v := .ref a1) (C := RDK) (T := TDK) (N := 5) hx hb hts inDK hown hK hP 1 rfl rfl 0 (by decide) (hts _ m_f_PD_57) (fun _ h9 => h9) rfl dPD_drop_11 ?_
      refine lv_iload_n hx hb dPD_drop_14 rfl (lv_at hl 1 rfl) ?_
      refine lv_iload_n hx hb dPD_drop_15 rfl (lv_at hl 2 rfl) ?_
      refine k_V (wr := [(o0, .inr (6, [.ref a0, .ref b0])), (a0, .inr (1, [.ref a1, .ref a2, .ref a3, .ref a4, .ref a5])), (b0, .inr (1, [.ref b1, .ref b2, .ref b3, .ref b4, .ref b5])), (b1, .inr (3, [.ref m1, .ref m2])), (m1, .inl (cI, 8, .inl md)), (m2, .inl (cJ, 8, .inr (.inl kn)))]) (W1 := [(o0, .inr (6, [.ref a0, .ref b0])), (a0, .inr (1, [.ref a1, .ref a2, .ref a3, .ref a4, .ref a5])), (b0, .inr (1, [.ref b1, .ref b2, .ref b3, .ref b4, .ref b5])), (a1, .inr (3, [.ref n1, .ref n2])), (n1, .inl (cI, 8, .inl md)), (n2, .inl (cJ, 8, .inr (.inl kn))), (b1, .inr (3, [.ref m1, .ref m2])), (m1, .inl (cI, 8, .inl md)), (m2, .inl (cJ, 8, .inr (.inl kn)))]) (st1 := [.int (f_isKnown md kn k n)]) ⟨hx, hb, hml, hown, hts⟩ (k_NU_isKnown l dC dI cI cJ cG cZ a1 n1 n2 md kn k n hk) (cwV 2 hts (k_gV m_l_PD_75 m_i_NU_isKnown m_s_NU_isKnown m_in_NU m_c_NU_isKnown) rfl rfl rfl (by decide +kernel) ⟨Nat.le_of_ble_eq_true rfl, Nat.le_of_ble_eq_true rfl⟩) hK hF hP hD hS hA [3, 4, 5] [0, 1, 2, 6, 7, 8] [0, 1, 2, 6, 7, 8, 3, 4, 5] rfl rfl (by decide) (by decide) (by decide) rfl (by decide) rfl rfl rfl rfl hl.1 rfl (Nat.le_of_ble_eq_true rfl) dPD_drop_16 ⟨Nat.le_of_ble_eq_true rfl, Nat.le_of_ble_eq_true rfl⟩ rfl (fun H locs hP hD hS => ?_)
      refine lv_if_ne (tgt := 24) hx hb dPD_drop_19 (by decide) (fun c_2 => ?_) (fun c_2 => ?_)
      · refine lv_aload_n hx hb dPD_drop_24 rfl (lv_at hl 0 rfl) ?_
        refine va_get (D := (dC, dI)) (ci := 6) (v := .ref a0) (C := RPD) (T := TPD) (N := 2) hx hb hts inPD hown hK hP 0 rfl rfl 0 (by decide) (hts _ m_f_PD_10) (fun _ h9 => h9) rfl dPD_drop_25 ?_
        refine va_get (D := (dC, dI)) (ci := 1) (v := .ref a1) (C := RDK) (T := TDK) (N := 5) hx hb hts inDK hown hK hP 1 rfl rfl 0 (by decide) (hts _ m_f_PD_57) (fun _ h9 => h9) rfl dPD_drop_28 ?_
        refine lv_iload_n hx hb dPD_drop_31 rfl (lv_at hl 1 rfl) ?_
        refine lv_iload_n hx hb dPD_drop_32 rfl (lv_at hl 2 rfl) ?_
        refine k_V (wr := [(o0, .inr (6, [.ref a0, .ref b0])), (a0, .inr (1, [.ref a1, .ref a2, .ref a3, .ref a4, .ref a5])), (b0, .inr (1, [.ref b1, .ref b2, .ref b3, .ref b4, .ref b5])), (b1, .inr (3, [.ref m1, .ref m2])), (m1, .inl (cI, 8, .inl md)), (m2, .inl (cJ, 8, .inr (.inl kn)))]) (W1 := [(o0, .inr (6, [.ref a0, .ref b0])), (a0, .inr (1, [.ref a1, .ref a2, .ref a3, .ref a4, .ref a5])), (b0, .inr (1, [.ref b1, .ref b2, .ref b3, .ref b4, .ref b5])), (a1, .inr (3, [.ref n1, .ref n2])), (n1, .inl (cI, 8, .inl md)), (n2, .inl (cJ, 8, .inr (.inl (vp_updL kn k (kn k &&& (f_bit n ^^^ (-1))))))), (b1, .inr (3, [.ref m1, .ref m2])), (m1, .inl (cI, 8, .inl md)), (m2, .inl (cJ, 8, .inr (.inl kn)))]) (st1 := []) ⟨hx, hb, hml, hown, hts⟩ (k_NU_forget l dC dI cI cJ cG cZ a1 n1 n2 md kn k n hk) (cwV 2 hts (k_gV m_l_PD_79 m_i_NU_forget m_s_NU_forget m_in_NU m_c_NU_forget) rfl rfl rfl (by decide +kernel) ⟨Nat.le_of_ble_eq_true rfl, Nat.le_of_ble_eq_true rfl⟩) hK hF hP hD hS hA [3, 4, 5] [0, 1, 2, 6, 7, 8] [0, 1, 2, 6, 7, 8, 3, 4, 5] rfl rfl (by decide) (by decide) (by decide) rfl (by decide) rfl rfl rfl rfl hl.1 rfl (Nat.le_of_ble_eq_true rfl) dPD_drop_33 ⟨Nat.le_of_ble_eq_true rfl, Nat.le_of_ble_eq_true rfl⟩ rfl (fun H locs hP hD hS => ?_)
        refine lv_aload_n hx hb dPD_drop_36 rfl (lv_at hl 0 rfl) ?_
        refine va_get (D := (dC, dI)) (ci := 6) (v := .ref b0) (C := RPD) (T := TPD) (N := 2) hx hb hts inPD hown hK hP 0 rfl rfl 1 (by decide) (hts _ m_f_PD_16) (fun _ h9 => h9) rfl dPD_drop_37 ?_
        refine va_get (D := (dC, dI)) (ci := 1) (v := .ref b1) (C := RDK) (T := TDK) (N := 5) hx hb hts inDK hown hK hP 2 rfl rfl 0 (by decide) (hts _ m_f_PD_57) (fun _ h9 => h9) rfl dPD_drop_40 ?_
        refine lv_iload_n hx hb dPD_drop_43 rfl (lv_at hl 1 rfl) ?_
        refine lv_iload_n hx hb dPD_drop_44 rfl (lv_at hl 2 rfl) ?_
        refine k_V (wr := [(o0, .inr (6, [.ref a0, .ref b0])), (a0, .inr (1, [.ref a1, .ref a2, .ref a3, .ref a4, .ref a5])), (b0, .inr (1, [.ref b1, .ref b2, .ref b3, .ref b4, .ref b5])), (a1, .inr (3, [.ref n1, .ref n2])), (n1, .inl (cI, 8, .inl md)), (n2, .inl (cJ, 8, .inr (.inl (vp_updL kn k (kn k &&& (f_bit n ^^^ (-1)))))))]) (W1 := [(o0, .inr (6, [.ref a0, .ref b0])), (a0, .inr (1, [.ref a1, .ref a2, .ref a3, .ref a4, .ref a5])), (b0, .inr (1, [.ref b1, .ref b2, .ref b3, .ref b4, .ref b5])), (a1, .inr (3, [.ref n1, .ref n2])), (n1, .inl (cI, 8, .inl md)), (n2, .inl (cJ, 8, .inr (.inl (vp_updL kn k (kn k &&& (f_bit n ^^^ (-1))))))), (b1, .inr (3, [.ref m1, .ref m2])), (m1, .inl (cI, 8, .inl md)), (m2, .inl (cJ, 8, .inr (.inl (vp_updL kn k (kn k &&& (f_bit n ^^^ (-1)))))))]) (st1 := []) ⟨hx, hb, hml, hown, hts⟩ (k_NU_forget l dC dI cI cJ cG cZ b1 m1 m2 md kn k n hk) (cwV 2 hts (k_gV m_l_PD_79 m_i_NU_forget m_s_NU_forget m_in_NU m_c_NU_forget) rfl rfl rfl (by decide +kernel) ⟨Nat.le_of_ble_eq_true rfl, Nat.le_of_ble_eq_true rfl⟩) hK hF hP hD hS hA [6, 7, 8] [0, 1, 2, 3, 4, 5] [0, 1, 2, 3, 4, 5, 6, 7, 8] rfl rfl (by decide) (by decide) (by decide) rfl (by decide) rfl rfl rfl rfl hl.1 rfl (Nat.le_of_ble_eq_true rfl) dPD_drop_45 ⟨Nat.le_of_ble_eq_true rfl, Nat.le_of_ble_eq_true rfl⟩ rfl (fun H locs hP hD hS => ?_)
        refine lv_iconst (v := 1) hx hb dPD_drop_48 (by decide) ?_
        exact k_zret hx hb hr hlocks rfl hP hK hD hS rfl dPD_drop_49 ⟨Nat.le_of_ble_eq_true rfl, Nat.le_of_ble_eq_true rfl⟩
      · exact absurd c_2 h1

abbrev rm_PD_numbers : Room := { frames := 2, cells := 0, slots := 0, locals := 42 }
set_option maxHeartbeats 4000000 in
set_option maxRecDepth 100000 in
theorem k_PD_numbers (l : Launch) (dC : Nat → ClassId) (dI : Nat → Nat → Nat) (cI cJ cG cZ : ClassId) (o0 : Nat) (a0 : Nat) (a1 : Nat) (a2 : Nat) (a3 : Nat) (a4 : Nat) (a5 : Nat) (b0 : Nat) (n1 : Nat) (n2 : Nat) (md : Nat → Int32) (kn : Nat → Int64) (x : Int32) : k_M l yPD_numbers wsPD_numbers rm_PD_numbers (dC, dI) vwCl [(cI, .int), (cJ, .long), (cG, .array .long), (cZ, .boolean)] [.ref o0, .int x] [(o0, .inr (6, [.ref a0, .ref b0])), (a0, .inr (1, [.ref a1, .ref a2, .ref a3, .ref a4, .ref a5])), (a1, .inr (3, [.ref n1, .ref n2])), (n1, .inl (cI, 8, .inl md)), (n2, .inl (cJ, 8, .inr (.inl kn)))] (some (.int (f_nb kn x))) [(o0, .inr (6, [.ref a0, .ref b0])), (a0, .inr (1, [.ref a1, .ref a2, .ref a3, .ref a4, .ref a5])), (a1, .inr (3, [.ref n1, .ref n2])), (n1, .inl (cI, 8, .inl md)), (n2, .inl (cJ, 8, .inr (.inl kn)))] := by
  rcases f_isKind_or x with h0 | ⟨k, hk, rfl⟩
  · rw [show f_nb kn x = -1 from if_pos h0]
    refine k_of (cc := cPD_numbers) (maxL := 2) (ret := (some .int)) (by decide) rfl (Nat.le_of_ble_eq_true rfl) ?_
    intro p e s m below meth c A ls hx hb hr hlocks hml hown hts hA hP hD hK hF hl hS
    have hown : s.vm.findClass RPD = some m.cls := hown
    have hl : lv_has ls 2 [(0, .ref o0), (1, .int x)] := hl
    refine lv_iload_n hx hb dPD_numbers_0 rfl (lv_at hl 1 rfl) ?_
    refine k_S (wr := [(o0, .inr (6, [.ref a0, .ref b0])), (a0, .inr (1, [.ref a1, .ref a2, .ref a3, .ref a4, .ref a5])), (a1, .inr (3, [.ref n1, .ref n2])), (n1, .inl (cI, 8, .inl md)), (n2, .inl (cJ, 8, .inr (.inl kn)))]) (W1 := [(o0, .inr (6, [.ref a0, .ref b0])), (a0, .inr (1, [.ref a1, .ref a2, .ref a3, .ref a4, .ref a5])), (a1, .inr (3, [.ref n1, .ref n2])), (n1, .inl (cI, 8, .inl md)), (n2, .inl (cJ, 8, .inr (.inl kn)))]) (st1 := [.int (f_isKind x)]) ⟨hx, hb, hml, hown, hts⟩ (k_PD_isKind l dC dI cI cJ cG cZ x) (va_cwS 1 hts (k_gS m_l_PD_47 m_st_PD_isKind m_in_PD m_c_PD_isKind) rfl rfl rfl (by decide +kernel) ⟨Nat.le_of_ble_eq_true rfl, Nat.le_of_ble_eq_true rfl⟩) hK hF hP hD hS hA [] [0, 1, 2, 3, 4] [0, 1, 2, 3, 4] rfl rfl (by decide) (by decide) (by decide) rfl (by decide) rfl hl.1 rfl (Nat.le_of_ble_eq_true rfl) dPD_numbers_1 ⟨Nat.le_of_ble_eq_true rfl, Nat.le_of_ble_eq_true rfl⟩ rfl (fun H locs hP hD hS => ?_)
    refine lv_if_eq (tgt := 21) hx hb dPD_numbers_4 (by decide) (fun c_1 => ?_) (fun c_1 => ?_)
    · refine lv_iconst (v := (-1)) hx hb dPD_numbers_21 (by decide) ?_
      exact k_iret hx hb hr hlocks hP hK hD hS rfl dPD_numbers_22 ⟨Nat.le_of_ble_eq_true rfl, Nat.le_of_ble_eq_true rfl⟩
    · exact absurd h0 c_1
  · rw [show f_nb kn (nI k) = nI (bc (f_nat (kn k)) 64) by unfold f_nb; rw [if_neg (by rw [f_isKind_nI hk]; decide), nI_clamp (by omega)]]
    refine k_of (cc := cPD_numbers) (maxL := 2) (ret := (some .int)) (by decide) rfl (Nat.le_of_ble_eq_true rfl) ?_
    intro p e s m below meth c A ls hx hb hr hlocks hml hown hts hA hP hD hK hF hl hS
    have hown : s.vm.findClass RPD = some m.cls := hown
    have hl : lv_has ls 2 [(0, .ref o0), (1, .int (nI k))] := hl
    refine lv_iload_n hx hb dPD_numbers_0 rfl (lv_at hl 1 rfl) ?_
    refine k_S (wr := [(o0, .inr (6, [.ref a0, .ref b0])), (a0, .inr (1, [.ref a1, .ref a2, .ref a3, .ref a4, .ref a5])), (a1, .inr (3, [.ref n1, .ref n2])), (n1, .inl (cI, 8, .inl md)), (n2, .inl (cJ, 8, .inr (.inl kn)))]) (W1 := [(o0, .inr (6, [.ref a0, .ref b0])), (a0, .inr (1, [.ref a1, .ref a2, .ref a3, .ref a4, .ref a5])), (a1, .inr (3, [.ref n1, .ref n2])), (n1, .inl (cI, 8, .inl md)), (n2, .inl (cJ, 8, .inr (.inl kn)))]) (st1 := [.int (f_isKind (nI k))]) ⟨hx, hb, hml, hown, hts⟩ (k_PD_isKind l dC dI cI cJ cG cZ (nI k)) (va_cwS 1 hts (k_gS m_l_PD_47 m_st_PD_isKind m_in_PD m_c_PD_isKind) rfl rfl rfl (by decide +kernel) ⟨Nat.le_of_ble_eq_true rfl, Nat.le_of_ble_eq_true rfl⟩) hK hF hP hD hS hA [] [0, 1, 2, 3, 4] [0, 1, 2, 3, 4] rfl rfl (by decide) (by decide) (by decide) rfl (by decide) rfl hl.1 rfl (Nat.le_of_ble_eq_true rfl) dPD_numbers_1 ⟨Nat.le_of_ble_eq_true rfl, Nat.le_of_ble_eq_true rfl⟩ rfl (fun H locs hP hD hS => ?_)
    refine lv_if_eq (tgt := 21) hx hb dPD_numbers_4 (by decide) (fun c_1 => ?_) (fun c_1 => ?_)
    · exact absurd c_1 (by rw [f_isKind_nI hk]; decide)
    · refine lv_aload_n hx hb dPD_numbers_7 rfl (lv_at hl 0 rfl) ?_
      refine va_get (D := (dC, dI)) (ci := 6) (v := .ref a0) (C := RPD) (T := TPD) (N := 2) hx hb hts inPD hown hK hP 0 rfl rfl 0 (by decide) (hts _ m_f_PD_10) (fun _ h9 => h9) rfl dPD_numbers_8 ?_
      refine va_get (D := (dC, dI)) (ci := 1) (v := .ref a1) (C := RDK) (T := TDK) (N := 5) hx hb hts inDK hown hK hP 1 rfl rfl 0 (by decide) (hts _ m_f_PD_57) (fun _ h9 => h9) rfl dPD_numbers_11 ?_
      refine lv_iload_n hx hb dPD_numbers_14 rfl (lv_at hl 1 rfl) ?_
      refine k_V (wr := [(o0, .inr (6, [.ref a0, .ref b0])), (a0, .inr (1, [.ref a1, .ref a2, .ref a3, .ref a4, .ref a5]))]) (W1 := [(o0, .inr (6, [.ref a0, .ref b0])), (a0, .inr (1, [.ref a1, .ref a2, .ref a3, .ref a4, .ref a5])), (a1, .inr (3, [.ref n1, .ref n2])), (n1, .inl (cI, 8, .inl md)), (n2, .inl (cJ, 8, .inr (.inl kn)))]) (st1 := [.int (nI (bc (f_nat (kn k)) 64))]) ⟨hx, hb, hml, hown, hts⟩ (k_NU_countKnown l dC dI cI cJ cG cZ a1 n1 n2 md kn k hk) (cwV 1 hts (k_gV m_l_PD_101 m_i_NU_countKnown m_s_NU_countKnown m_in_NU m_c_NU_countKnown) rfl rfl rfl (by decide +kernel) ⟨Nat.le_of_ble_eq_true rfl, Nat.le_of_ble_eq_true rfl⟩) hK hF hP hD hS hA [2, 3, 4] [0, 1] [0, 1, 2, 3, 4] rfl rfl (by decide) (by decide) (by decide) rfl (by decide) rfl rfl rfl rfl hl.1 rfl (Nat.le_of_ble_eq_true rfl) dPD_numbers_15 ⟨Nat.le_of_ble_eq_true rfl, Nat.le_of_ble_eq_true rfl⟩ rfl (fun H locs hP hD hS => ?_)
      refine lv_goto (tgt := 22) hx hb dPD_numbers_18 (by decide) ?_
      exact k_iret hx hb hr hlocks hP hK hD hS rfl dPD_numbers_22 ⟨Nat.le_of_ble_eq_true rfl, Nat.le_of_ble_eq_true rfl⟩

abbrev rm_PD_again : Room := { frames := 11, cells := 1, slots := 6, locals := 209 }
set_option maxHeartbeats 4000000 in
set_option maxRecDepth 100000 in
theorem k_PD_again (l : Launch) (dC : Nat → ClassId) (dI : Nat → Nat → Nat) (cI cJ cG cZ : ClassId) (o0 : Nat) (a0 : Nat) (b0 : Nat) (b1 : Nat) (b2 : Nat) (b3 : Nat) (b4 : Nat) (b5 : Nat) (xn1 : Nat) (xn2 : Nat) (xp1 : Nat) (xp2 : Nat) (xp3 : Nat) (xt1 : Nat) (xj1 : Nat) (xsm : Nat → Int64) (xtf : Nat → Int64) (xrg : Nat → Int64) (xfl : Nat → Int32) (xz : Nat) (xq : Nat) (md : Nat → Int32) (kn : Nat → Int64) (an : Nat → Int64) (x : Int32) (n : Int32) (v : Int64) (xhg : ∀ k : Nat, k < 12 → xfl k = 0 ∨ xfl k = 1 ∨ xfl k = 2 ∨ xfl k = 3 ∨ xfl k = 4 ∨ xfl k = 5) (xhz : xz ≤ 64) (xhq : xq < 64) (hlt : l.stackTraces = false) : k_M l yPD_again wsPD_again rm_PD_again (dC, dI) vwCl [(cI, .int), (cJ, .long), (cG, .array .long), (cZ, .boolean)] [.ref o0, .int x, .int n, .long v] [(o0, .inr (6, [.ref a0, .ref b0])), (b0, .inr (1, [.ref b1, .ref b2, .ref b3, .ref b4, .ref b5])), (b1, .inr (3, [.ref xn1, .ref xn2])), (xn1, .inl (cI, 8, .inl md)), (xn2, .inl (cJ, 8, .inr (.inl kn))), (b2, .inr (4, [.ref xp1, .ref xp2, .ref xp3])), (xp1, .inl (cJ, 12, .inr (.inl an))), (xp2, .inl (cJ, 12, .inr (.inl xsm))), (xp3, .inl (cI, 12, .inl xfl)), (b3, .inr (5, [.ref xt1])), (xt1, .inl (cJ, 8, .inr (.inl xtf))), (b5, .inr (2, [.ref xj1, .int (nI xz), .int (nI xq)])), (xj1, .inl (cJ, 64, .inr (.inl xrg)))] (some (.long (f_aA md kn an xsm xfl x n v))) [(o0, .inr (6, [.ref a0, .ref b0])), (b0, .inr (1, [.ref b1, .ref b2, .ref b3, .ref b4, .ref b5])), (b1, .inr (3, [.ref xn1, .ref xn2])), (xn1, .inl (cI, 8, .inl md)), (xn2, .inl (cJ, 8, .inr (.inl kn))), (b2, .inr (4, [.ref xp1, .ref xp2, .ref xp3])), (xp1, .inl (cJ, 12, .inr (.inl an))), (xp2, .inl (cJ, 12, .inr (.inl (f_aS md kn xsm xfl x n v)))), (xp3, .inl (cI, 12, .inl (f_aF md kn xfl x n))), (b3, .inr (5, [.ref xt1])), (xt1, .inl (cJ, 8, .inr (.inl (f_aT md kn xtf xfl x n)))), (b5, .inr (2, [.ref xj1, .int (nI (f_js xz)), .int (nI ((xq + 1) % 64))])), (xj1, .inl (cJ, 64, .inr (.inl (vp_updL xrg xq (f_aA md kn an xsm xfl x n v)))))] := by
  refine k_of (cc := cPD_again) (maxL := 5) (ret := (some .long)) (by decide) rfl (Nat.le_of_ble_eq_true rfl) ?_
  intro p e s m below meth c A ls hx hb hr hlocks hml hown hts hA hP hD hK hF hl hS
  have hown : s.vm.findClass RPD = some m.cls := hown
  have hl : lv_has ls 5 [(0, .ref o0), (1, .int x), (2, .int n), (3, .long v)] := hl
  refine lv_aload_n hx hb dPD_again_0 rfl (lv_at hl 0 rfl) ?_
  refine va_get (D := (dC, dI)) (ci := 6) (v := .ref b0) (C := RPD) (T := TPD) (N := 2) hx hb hts inPD hown hK hP 0 rfl rfl 1 (by decide) (hts _ m_f_PD_16) (fun _ h9 => h9) rfl dPD_again_1 ?_
  refine lv_iload_n hx hb dPD_again_4 rfl (lv_at hl 1 rfl) ?_
  refine lv_iload_n hx hb dPD_again_5 rfl (lv_at hl 2 rfl) ?_
  refine lv_lload_n hx hb dPD_again_6 rfl (lv_at hl 3 rfl) ?_
  refine k_V (wr := [(o0, .inr (6, [.ref a0, .ref b0]))]) (W1 := [(o0, .inr (6, [.ref a0, .ref b0])), (b0, .inr (1, [.ref b1, .ref b2, .ref b3, .ref b4, .ref b5])), (b1, .inr (3, [.ref xn1, .ref xn2])), (xn1, .inl (cI, 8, .inl md)), (xn2, .inl (cJ, 8, .inr (.inl kn))), (b2, .inr (4, [.ref xp1, .ref xp2, .ref xp3])), (xp1, .inl (cJ, 12, .inr (.inl an))), (xp2, .inl (cJ, 12, .inr (.inl (f_aS md kn xsm xfl x n v)))), (xp3, .inl (cI, 12, .inl (f_aF md kn xfl x n))), (b3, .inr (5, [.ref xt1])), (xt1, .inl (cJ, 8, .inr (.inl (f_aT md kn xtf xfl x n)))), (b5, .inr (2, [.ref xj1, .int (nI (f_js xz)), .int (nI ((xq + 1) % 64))])), (xj1, .inl (cJ, 64, .inr (.inl (vp_updL xrg xq (f_aA md kn an xsm xfl x n v)))))]) (st1 := [.long (f_aA md kn an xsm xfl x n v)]) ⟨hx, hb, hml, hown, hts⟩ (k_DK_ask l dC dI cI cJ cG cZ b0 b1 b2 b3 b4 b5 xn1 xn2 xp1 xp2 xp3 xt1 md kn an xsm xfl xtf x n v xj1 xrg xz xq xhg hlt xhz xhq) (cwV 3 hts (k_gV m_l_PD_82 m_i_DK_ask m_s_DK_ask m_in_DK m_c_DK_ask) rfl rfl rfl (by decide +kernel) ⟨Nat.le_of_ble_eq_true rfl, Nat.le_of_ble_eq_true rfl⟩) hK hF hP hD hS hA [1, 2, 3, 4, 5, 6, 7, 8, 9, 10, 11, 12] [0] [0, 1, 2, 3, 4, 5, 6, 7, 8, 9, 10, 11, 12] rfl rfl (by decide) (by decide) (by decide) rfl (by decide) rfl rfl rfl rfl hl.1 rfl (Nat.le_of_ble_eq_true rfl) dPD_again_7 ⟨Nat.le_of_ble_eq_true rfl, Nat.le_of_ble_eq_true rfl⟩ rfl (fun H locs hP hD hS => ?_)
  exact k_lret hx hb hr hlocks hP hK hD hS rfl dPD_again_10 ⟨Nat.le_of_ble_eq_true rfl, Nat.le_of_ble_eq_true rfl⟩

abbrev rm_PD_call : Room := { frames := 11, cells := 2, slots := 12, locals := 209 }
set_option maxHeartbeats 4000000 in
set_option maxRecDepth 100000 in
theorem k_PD_call (l : Launch) (dC : Nat → ClassId) (dI : Nat → Nat → Nat) (cI cJ cG cZ : ClassId) (o0 : Nat) (a0 : Nat) (a1 : Nat) (a2 : Nat) (a3 : Nat) (a4 : Nat) (a5 : Nat) (b0 : Nat) (b1 : Nat) (b2 : Nat) (b3 : Nat) (b4 : Nat) (b5 : Nat) (n1 : Nat) (n2 : Nat) (p1 : Nat) (p2 : Nat) (p3 : Nat) (t1 : Nat) (j1 : Nat) (sm : Nat → Int64) (tf : Nat → Int64) (rg : Nat → Int64) (fl : Nat → Int32) (z : Nat) (q : Nat) (xn1 : Nat) (xn2 : Nat) (xp1 : Nat) (xp2 : Nat) (xp3 : Nat) (xt1 : Nat) (xj1 : Nat) (xsm : Nat → Int64) (xtf : Nat → Int64) (xrg : Nat → Int64) (xfl : Nat → Int32) (xz : Nat) (xq : Nat) (md : Nat → Int32) (kn : Nat → Int64) (an : Nat → Int64) (x : Int32) (n : Int32) (v : Int64) (hg : ∀ k : Nat, k < 12 → fl k = 0 ∨ fl k = 1 ∨ fl k = 2 ∨ fl k = 3 ∨ fl k = 4 ∨ fl k = 5) (hz : z ≤ 64) (hq : q < 64) (xhg : ∀ k : Nat, k < 12 → xfl k = 0 ∨ xfl k = 1 ∨ xfl k = 2 ∨ xfl k = 3 ∨ xfl k = 4 ∨ xfl k = 5) (xhz : xz ≤ 64) (xhq : xq < 64) (hlt : l.stackTraces = false) : k_M l yPD_call wsPD_call rm_PD_call (dC, dI) vwCl [(cI, .int), (cJ, .long), (cG, .array .long), (cZ, .boolean)] [.ref o0, .int x, .int n, .long v] [(o0, .inr (6, [.ref a0, .ref b0])), (a0, .inr (1, [.ref a1, .ref a2, .ref a3, .ref a4, .ref a5])), (b0, .inr (1, [.ref b1, .ref b2, .ref b3, .ref b4, .ref b5])), (a1, .inr (3, [.ref n1, .ref n2])), (n1, .inl (cI, 8, .inl md)), (n2, .inl (cJ, 8, .inr (.inl kn))), (a2, .inr (4, [.ref p1, .ref p2, .ref p3])), (p1, .inl (cJ, 12, .inr (.inl an))), (p2, .inl (cJ, 12, .inr (.inl sm))), (p3, .inl (cI, 12, .inl fl)), (a3, .inr (5, [.ref t1])), (t1, .inl (cJ, 8, .inr (.inl tf))), (a5, .inr (2, [.ref j1, .int (nI z), .int (nI q)])), (j1, .inl (cJ, 64, .inr (.inl rg))), (b1, .inr (3, [.ref xn1, .ref xn2])), (xn1, .inl (cI, 8, .inl md)), (xn2, .inl (cJ, 8, .inr (.inl kn))), (b2, .inr (4, [.ref xp1, .ref xp2, .ref xp3])), (xp1, .inl (cJ, 12, .inr (.inl an))), (xp2, .inl (cJ, 12, .inr (.inl xsm))), (xp3, .inl (cI, 12, .inl xfl)), (b3, .inr (5, [.ref xt1])), (xt1, .inl (cJ, 8, .inr (.inl xtf))), (b5, .inr (2, [.ref xj1, .int (nI xz), .int (nI xq)])), (xj1, .inl (cJ, 64, .inr (.inl xrg)))] (some (.long (f_aA md kn an sm fl x n v))) [(o0, .inr (6, [.ref a0, .ref b0])), (a0, .inr (1, [.ref a1, .ref a2, .ref a3, .ref a4, .ref a5])), (b0, .inr (1, [.ref b1, .ref b2, .ref b3, .ref b4, .ref b5])), (a1, .inr (3, [.ref n1, .ref n2])), (n1, .inl (cI, 8, .inl md)), (n2, .inl (cJ, 8, .inr (.inl kn))), (a2, .inr (4, [.ref p1, .ref p2, .ref p3])), (p1, .inl (cJ, 12, .inr (.inl an))), (p2, .inl (cJ, 12, .inr (.inl (f_aS md kn sm fl x n v)))), (p3, .inl (cI, 12, .inl (f_aF md kn fl x n))), (a3, .inr (5, [.ref t1])), (t1, .inl (cJ, 8, .inr (.inl (f_aT md kn tf fl x n)))), (a5, .inr (2, [.ref j1, .int (nI (f_js z)), .int (nI ((q + 1) % 64))])), (j1, .inl (cJ, 64, .inr (.inl (vp_updL rg q (f_aA md kn an sm fl x n v))))), (b1, .inr (3, [.ref xn1, .ref xn2])), (xn1, .inl (cI, 8, .inl md)), (xn2, .inl (cJ, 8, .inr (.inl kn))), (b2, .inr (4, [.ref xp1, .ref xp2, .ref xp3])), (xp1, .inl (cJ, 12, .inr (.inl an))), (xp2, .inl (cJ, 12, .inr (.inl (f_aS md kn xsm xfl x n v)))), (xp3, .inl (cI, 12, .inl (f_aF md kn xfl x n))), (b3, .inr (5, [.ref xt1])), (xt1, .inl (cJ, 8, .inr (.inl (f_aT md kn xtf xfl x n)))), (b5, .inr (2, [.ref xj1, .int (nI (f_js xz)), .int (nI ((xq + 1) % 64))])), (xj1, .inl (cJ, 64, .inr (.inl (vp_updL xrg xq (f_aA md kn an xsm xfl x n v)))))] := by
  refine k_of (cc := cPD_call) (maxL := 5) (ret := (some .long)) (by decide) rfl (Nat.le_of_ble_eq_true rfl) ?_
  intro p e s m below meth c A ls hx hb hr hlocks hml hown hts hA hP hD hK hF hl hS
  have hown : s.vm.findClass RPD = some m.cls := hown
  have hl : lv_has ls 5 [(0, .ref o0), (1, .int x), (2, .int n), (3, .long v)] := hl
  refine lv_aload_n hx hb dPD_call_0 rfl (lv_at hl 0 rfl) ?_
  refine va_get (D := (dC, dI)) (ci := 6) (v := .ref b0) (C := RPD) (T := TPD) (N := 2) hx hb hts inPD hown hK hP 0 rfl rfl 1 (by decide) (hts _ m_f_PD_16) (fun _ h9 => h9) rfl dPD_call_1 ?_
  refine lv_iload_n hx hb dPD_call_4 rfl (lv_at hl 1 rfl) ?_
  refine lv_iload_n hx hb dPD_call_5 rfl (lv_at hl 2 rfl) ?_
  refine lv_lload_n hx hb dPD_call_6 rfl (lv_at hl 3 rfl) ?_
  refine k_V (wr := [(o0, .inr (6, [.ref a0, .ref b0])), (a0, .inr (1, [.ref a1, .ref a2, .ref a3, .ref a4, .ref a5])), (a1, .inr (3, [.ref n1, .ref n2])), (n1, .inl (cI, 8, .inl md)), (n2, .inl (cJ, 8, .inr (.inl kn))), (a2, .inr (4, [.ref p1, .ref p2, .ref p3])), (p1, .inl (cJ, 12, .inr (.inl an))), (p2, .inl (cJ, 12, .inr (.inl sm))), (p3, .inl (cI, 12, .inl fl)), (a3, .inr (5, [.ref t1])), (t1, .inl (cJ, 8, .inr (.inl tf))), (a5, .inr (2, [.ref j1, .int (nI z), .int (nI q)])), (j1, .inl (cJ, 64, .inr (.inl rg)))]) (W1 := [(o0, .inr (6, [.ref a0, .ref b0])), (a0, .inr (1, [.ref a1, .ref a2, .ref a3, .ref a4, .ref a5])), (b0, .inr (1, [.ref b1, .ref b2, .ref b3, .ref b4, .ref b5])), (a1, .inr (3, [.ref n1, .ref n2])), (n1, .inl (cI, 8, .inl md)), (n2, .inl (cJ, 8, .inr (.inl kn))), (a2, .inr (4, [.ref p1, .ref p2, .ref p3])), (p1, .inl (cJ, 12, .inr (.inl an))), (p2, .inl (cJ, 12, .inr (.inl sm))), (p3, .inl (cI, 12, .inl fl)), (a3, .inr (5, [.ref t1])), (t1, .inl (cJ, 8, .inr (.inl tf))), (a5, .inr (2, [.ref j1, .int (nI z), .int (nI q)])), (j1, .inl (cJ, 64, .inr (.inl rg))), (b1, .inr (3, [.ref xn1, .ref xn2])), (xn1, .inl (cI, 8, .inl md)), (xn2, .inl (cJ, 8, .inr (.inl kn))), (b2, .inr (4, [.ref xp1, .ref xp2, .ref xp3])), (xp1, .inl (cJ, 12, .inr (.inl an))), (xp2, .inl (cJ, 12, .inr (.inl (f_aS md kn xsm xfl x n v)))), (xp3, .inl (cI, 12, .inl (f_aF md kn xfl x n))), (b3, .inr (5, [.ref xt1])), (xt1, .inl (cJ, 8, .inr (.inl (f_aT md kn xtf xfl x n)))), (b5, .inr (2, [.ref xj1, .int (nI (f_js xz)), .int (nI ((xq + 1) % 64))])), (xj1, .inl (cJ, 64, .inr (.inl (vp_updL xrg xq (f_aA md kn an xsm xfl x n v)))))]) (st1 := [.long (f_aA md kn an xsm xfl x n v)]) ⟨hx, hb, hml, hown, hts⟩ (k_DK_ask l dC dI cI cJ cG cZ b0 b1 b2 b3 b4 b5 xn1 xn2 xp1 xp2 xp3 xt1 md kn an xsm xfl xtf x n v xj1 xrg xz xq xhg hlt xhz xhq) (cwV 3 hts (k_gV m_l_PD_82 m_i_DK_ask m_s_DK_ask m_in_DK m_c_DK_ask) rfl rfl rfl (by decide +kernel) ⟨Nat.le_of_ble_eq_true rfl, Nat.le_of_ble_eq_true rfl⟩) hK hF hP hD hS hA [2, 14, 15, 16, 17, 18, 19, 20, 21, 22, 23, 24] [0, 1, 3, 4, 5, 6, 7, 8, 9, 10, 11, 12, 13] [0, 1, 13, 2, 3, 4, 5, 6, 7, 8, 9, 10, 11, 12, 14, 15, 16, 17, 18, 19, 20, 21, 22, 23, 24] rfl rfl (by decide) (by decide) (by decide) rfl (by decide) rfl rfl rfl rfl hl.1 rfl (Nat.le_of_ble_eq_true rfl) dPD_call_7 ⟨Nat.le_of_ble_eq_true rfl, Nat.le_of_ble_eq_true rfl⟩ rfl (fun H locs hP hD hS => ?_)
  refine lv_pop2_2 hx hb dPD_call_10 rfl ?_
  refine lv_aload_n hx hb dPD_call_11 rfl (lv_at hl 0 rfl) ?_
  refine va_get (D := (dC, dI)) (ci := 6) (v := .ref a0) (C := RPD) (T := TPD) (N := 2) hx hb hts inPD hown hK hP 0 rfl rfl 0 (by decide) (hts _ m_f_PD_10) (fun _ h9 => h9) rfl dPD_call_12 ?_
  refine lv_iload_n hx hb dPD_call_15 rfl (lv_at hl 1 rfl) ?_
  refine lv_iload_n hx hb dPD_call_16 rfl (lv_at hl 2 rfl) ?_
  refine lv_lload_n hx hb dPD_call_17 rfl (lv_at hl 3 rfl) ?_
  refine k_V (wr := [(o0, .inr (6, [.ref a0, .ref b0])), (b0, .inr (1, [.ref b1, .ref b2, .ref b3, .ref b4, .ref b5])), (b1, .inr (3, [.ref xn1, .ref xn2])), (xn1, .inl (cI, 8, .inl md)), (xn2, .inl (cJ, 8, .inr (.inl kn))), (b2, .inr (4, [.ref xp1, .ref xp2, .ref xp3])), (xp1, .inl (cJ, 12, .inr (.inl an))), (xp2, .inl (cJ, 12, .inr (.inl (f_aS md kn xsm xfl x n v)))), (xp3, .inl (cI, 12, .inl (f_aF md kn xfl x n))), (b3, .inr (5, [.ref xt1])), (xt1, .inl (cJ, 8, .inr (.inl (f_aT md kn xtf xfl x n)))), (b5, .inr (2, [.ref xj1, .int (nI (f_js xz)), .int (nI ((xq + 1) % 64))])), (xj1, .inl (cJ, 64, .inr (.inl (vp_updL xrg xq (f_aA md kn an xsm xfl x n v)))))]) (W1 := [(o0, .inr (6, [.ref a0, .ref b0])), (a0, .inr (1, [.ref a1, .ref a2, .ref a3, .ref a4, .ref a5])), (b0, .inr (1, [.ref b1, .ref b2, .ref b3, .ref b4, .ref b5])), (a1, .inr (3, [.ref n1, .ref n2])), (n1, .inl (cI, 8, .inl md)), (n2, .inl (cJ, 8, .inr (.inl kn))), (a2, .inr (4, [.ref p1, .ref p2, .ref p3])), (p1, .inl (cJ, 12, .inr (.inl an))), (p2, .inl (cJ, 12, .inr (.inl (f_aS md kn sm fl x n v)))), (p3, .inl (cI, 12, .inl (f_aF md kn fl x n))), (a3, .inr (5, [.ref t1])), (t1, .inl (cJ, 8, .inr (.inl (f_aT md kn tf fl x n)))), (a5, .inr (2, [.ref j1, .int (nI (f_js z)), .int (nI ((q + 1) % 64))])), (j1, .inl (cJ, 64, .inr (.inl (vp_updL rg q (f_aA md kn an sm fl x n v))))), (b1, .inr (3, [.ref xn1, .ref xn2])), (xn1, .inl (cI, 8, .inl md)), (xn2, .inl (cJ, 8, .inr (.inl kn))), (b2, .inr (4, [.ref xp1, .ref xp2, .ref xp3])), (xp1, .inl (cJ, 12, .inr (.inl an))), (xp2, .inl (cJ, 12, .inr (.inl (f_aS md kn xsm xfl x n v)))), (xp3, .inl (cI, 12, .inl (f_aF md kn xfl x n))), (b3, .inr (5, [.ref xt1])), (xt1, .inl (cJ, 8, .inr (.inl (f_aT md kn xtf xfl x n)))), (b5, .inr (2, [.ref xj1, .int (nI (f_js xz)), .int (nI ((xq + 1) % 64))])), (xj1, .inl (cJ, 64, .inr (.inl (vp_updL xrg xq (f_aA md kn an xsm xfl x n v)))))]) (st1 := [.long (f_aA md kn an sm fl x n v)]) ⟨hx, hb, hml, hown, hts⟩ (k_DK_ask l dC dI cI cJ cG cZ a0 a1 a2 a3 a4 a5 n1 n2 p1 p2 p3 t1 md kn an sm fl tf x n v j1 rg z q hg hlt hz hq) (cwV 3 hts (k_gV m_l_PD_82 m_i_DK_ask m_s_DK_ask m_in_DK m_c_DK_ask) rfl rfl rfl (by decide +kernel) ⟨Nat.le_of_ble_eq_true rfl, Nat.le_of_ble_eq_true rfl⟩) hK hF hP hD hS hA [1, 3, 4, 5, 6, 7, 8, 9, 10, 11, 12, 13] [0, 2, 14, 15, 16, 17, 18, 19, 20, 21, 22, 23, 24] [0, 13, 1, 14, 15, 16, 17, 18, 19, 20, 21, 22, 23, 24, 2, 3, 4, 5, 6, 7, 8, 9, 10, 11, 12] rfl rfl (by decide) (by decide) (by decide) rfl (by decide) rfl rfl rfl rfl hl.1 rfl (Nat.le_of_ble_eq_true rfl) dPD_call_18 ⟨Nat.le_of_ble_eq_true rfl, Nat.le_of_ble_eq_true rfl⟩ rfl (fun H locs hP hD hS => ?_)
  exact k_lret hx hb hr hlocks hP hK hD hS rfl dPD_call_21 ⟨Nat.le_of_ble_eq_true rfl, Nat.le_of_ble_eq_true rfl⟩
