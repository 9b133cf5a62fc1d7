/-! ===== a part asked: what it answers, and what it leaves ===== -/
def f_apA (an sm : Nat → Int64) (fl : Nat → Int32) (k : Nat) (n : Int32) (v : Int64) : Int64 := if fl k = 0 then an k + 3 * n.toInt64 + (sm k + v) else (-100 - fl k).toInt64
def f_apS (sm : Nat → Int64) (fl : Nat → Int32) (k : Nat) (v : Int64) : Nat → Int64 := if fl k = 0 then vp_updL sm k (sm k + v) else sm
def f_apT (tf : Nat → Int64) (fl : Nat → Int32) (k : Nat) (n : Int32) : Nat → Int64 := if fl k = 0 then vp_updL tf 0 (tf 0 + 1) else vp_updL (vp_updL (vp_updL (vp_updL tf 4 (tf 4 + 1)) 5 ((fl k).toInt64)) 6 ((nI k).toInt64)) 7 (n.toInt64)
theorem f_back (sm : Nat → Int64) (k : Nat) (x : Int64) : vp_updL (vp_updL sm k x) k (sm k) = sm := by
  funext j
  unfold vp_updL
  by_cases h : j = k
  · rw [if_pos h, h]
  · rw [if_neg h, if_neg h]
theorem f_isPart_or (c : Int32) : f_isPart c = 0 ∨ ∃ k : Nat, k < 12 ∧ c = nI k := by
  unfold f_isPart
  by_cases h : c < 0
  · left; rw [if_pos h]
  · rw [if_neg h]
    by_cases h1 : 12 ≤ c
    · left; rw [if_pos h1]
    · right
      have h2 : (0 : Int) ≤ c.toInt := by
        have h9 : ¬ c.toInt < (0 : Int32).toInt := fun h9 => h (Int32.lt_iff_toInt_lt.mpr h9)
        have e9 : (0 : Int32).toInt = 0 := by decide
        omega
      have h3 : c.toInt < 12 := by
        have h9 : ¬ (12 : Int32).toInt ≤ c.toInt := fun h9 => h1 (Int32.le_iff_toInt_le.mpr h9)
        have e9 : (12 : Int32).toInt = 12 := by decide
        omega
      refine ⟨c.toInt.toNat, by omega, ?_⟩
      apply Int32.toInt.inj
      rw [nI_toInt (by omega)]
      omega
theorem f_isPart_nI {k : Nat} (h : k < 12) : f_isPart (nI k) = 1 := by
  have h0 : ¬ (nI k < 0) := fun h9 => absurd ((nI_ltI (a := k) (b := 0) (by omega) (by decide)).mp h9) (by omega)
  have h1 : ¬ (12 ≤ nI k) := fun h9 => absurd ((nI_leI (a := 12) (b := k) (by decide) (by omega)).mp h9) (by omega)
  unfold f_isPart
  rw [if_neg h0, if_neg h1]
/-- what becomes of a call: 0 it goes to its part, else the refusal's reason -/
def f_cd (md : Nat → Int32) (kn : Nat → Int64) (c n : Int32) : Nat := if f_isPart c = 0 then 1 else if f_wasMade md (c.toNatClampNeg % 8) n = 0 then 2 else if f_isKnown md kn (c.toNatClampNeg % 8) n = 0 then 3 else 0
def f_aA (md : Nat → Int32) (kn an sm : Nat → Int64) (fl : Nat → Int32) (c n : Int32) (v : Int64) : Int64 := if f_cd md kn c n = 0 then f_apA an sm fl c.toNatClampNeg n v else (-nI (f_cd md kn c n)).toInt64
def f_aS (md : Nat → Int32) (kn sm : Nat → Int64) (fl : Nat → Int32) (c n : Int32) (v : Int64) : Nat → Int64 := if f_cd md kn c n = 0 then f_apS sm fl c.toNatClampNeg v else sm
def f_aF (md : Nat → Int32) (kn : Nat → Int64) (fl : Nat → Int32) (c n : Int32) : Nat → Int32 := if f_cd md kn c n = 0 then upd fl c.toNatClampNeg 0 else fl
def f_aT (md : Nat → Int32) (kn tf : Nat → Int64) (fl : Nat → Int32) (c n : Int32) : Nat → Int64 := if f_cd md kn c n = 0 then f_apT tf fl c.toNatClampNeg n else vp_updL tf (f_cd md kn c n) (tf (f_cd md kn c n) + 1)
abbrev rm_PD_isDesk : Room := { frames := 0, cells := 0, slots := 0, locals := 0 }
set_option maxHeartbeats 4000000 in
set_option maxRecDepth 100000 in
theorem k_PD_isDesk (l : Launch) (dC : Nat → ClassId) (dI : Nat → Nat → Nat) (cI cJ cG cZ : ClassId) (x : Int32) : k_M l yPD_isDesk wsPD_isDesk rm_PD_isDesk (dC, dI) vwCl [(cI, .int), (cJ, .long), (cG, .array .long), (cZ, .boolean)] [.int x] [] (some (.int (f_isDesk x))) [] := by
  refine k_of (cc := cPD_isDesk) (maxL := 1) (ret := (some .boolean)) (by decide) rfl (Nat.le_of_ble_eq_true rfl) ?_
  intro p e s m below meth c A ls hx hb hr hlocks hml hown hts hA hP hD hK hF hl hS
  have hown : s.vm.findClass RPD = some m.cls := hown
  have hl : lv_has ls 1 [(0, .int x)] := hl
  refine lv_iload_n hx hb dPD_isDesk_0 rfl (lv_at hl 0 rfl) ?_
  refine lv_if_eq (tgt := 9) hx hb dPD_isDesk_1 (by decide) (fun c_1 => ?_) (fun c_1 => ?_)
  · refine lv_iconst (v := 1) hx hb dPD_isDesk_9 (by decide) ?_
    refine lv_goto (tgt := 14) hx hb dPD_isDesk_10 (by decide) ?_
    exact k_zret hx hb hr hlocks rfl hP hK hD hS (by unfold f_isDesk; rw [if_pos c_1]) dPD_isDesk_14 ⟨Nat.le_of_ble_eq_true rfl, Nat.le_of_ble_eq_true rfl⟩
  · refine lv_iload_n hx hb dPD_isDesk_4 rfl (lv_at hl 0 rfl) ?_
    refine lv_iconst (v := 1) hx hb dPD_isDesk_5 (by decide) ?_
    refine lv_icmp_ne (tgt := 13) hx hb dPD_isDesk_6 (by decide) (fun c_2 => ?_) (fun c_2 => ?_)
    · refine lv_iconst (v := 0) hx hb dPD_isDesk_13 (by decide) ?_
      exact k_zret hx hb hr hlocks rfl hP hK hD hS (by unfold f_isDesk; rw [if_neg c_1, if_neg c_2]) dPD_isDesk_14 ⟨Nat.le_of_ble_eq_true rfl, Nat.le_of_ble_eq_true rfl⟩
    · refine lv_iconst (v := 1) hx hb dPD_isDesk_9 (by decide) ?_
      refine lv_goto (tgt := 14) hx hb dPD_isDesk_10 (by decide) ?_
      exact k_zret hx hb hr hlocks rfl hP hK hD hS (by unfold f_isDesk; rw [if_neg c_1, if_pos c_2]) dPD_isDesk_14 ⟨Nat.le_of_ble_eq_true rfl, Nat.le_of_ble_eq_true rfl⟩

abbrev rm_PD_isKind : Room := { frames := 0, cells := 0, slots := 0, locals := 0 }
set_option maxHeartbeats 4000000 in
set_option maxRecDepth 100000 in
theorem k_PD_isKind (l : Launch) (dC : Nat → ClassId) (dI : Nat → Nat → Nat) (cI cJ cG cZ : ClassId) (x : Int32) : k_M l yPD_isKind wsPD_isKind rm_PD_isKind (dC, dI) vwCl [(cI, .int), (cJ, .long), (cG, .array .long), (cZ, .boolean)] [.int x] [] (some (.int (f_isKind x))) [] := by
  refine k_of (cc := cPD_isKind) (maxL := 1) (ret := (some .boolean)) (by decide) rfl (Nat.le_of_ble_eq_true rfl) ?_
  intro p e s m below meth c A ls hx hb hr hlocks hml hown hts hA hP hD hK hF hl hS
  have hown : s.vm.findClass RPD = some m.cls := hown
  have hl : lv_has ls 1 [(0, .int x)] := hl
  refine lv_iload_n hx hb dPD_isKind_0 rfl (lv_at hl 0 rfl) ?_
  refine lv_if_lt (tgt := 14) hx hb dPD_isKind_1 (by decide) (fun c_1 => ?_) (fun c_1 => ?_)
  · refine lv_iconst (v := 0) hx hb dPD_isKind_14 (by decide) ?_
    exact k_zret hx hb hr hlocks rfl hP hK hD hS (by unfold f_isKind; rw [if_pos c_1]) dPD_isKind_15 ⟨Nat.le_of_ble_eq_true rfl, Nat.le_of_ble_eq_true rfl⟩
  · refine lv_iload_n hx hb dPD_isKind_4 rfl (lv_at hl 0 rfl) ?_
    refine lv_bipush (v := 8) hx hb dPD_isKind_5 (by decide) ?_
    refine lv_icmp_ge (tgt := 14) hx hb dPD_isKind_7 (by decide) (fun c_2 => ?_) (fun c_2 => ?_)
    · refine lv_iconst (v := 0) hx hb dPD_isKind_14 (by decide) ?_
      exact k_zret hx hb hr hlocks rfl hP hK hD hS (by unfold f_isKind; rw [if_neg c_1, if_pos c_2]) dPD_isKind_15 ⟨Nat.le_of_ble_eq_true rfl, Nat.le_of_ble_eq_true rfl⟩
    · refine lv_iconst (v := 1) hx hb dPD_isKind_10 (by decide) ?_
      refine lv_goto (tgt := 15) hx hb dPD_isKind_11 (by decide) ?_
      exact k_zret hx hb hr hlocks rfl hP hK hD hS (by unfold f_isKind; rw [if_neg c_1, if_neg c_2]) dPD_isKind_15 ⟨Nat.le_of_ble_eq_true rfl, Nat.le_of_ble_eq_true rfl⟩

abbrev rm_PD_isPart : Room := { frames := 0, cells := 0, slots := 0, locals := 0 }
set_option maxHeartbeats 4000000 in
set_option maxRecDepth 100000 in
theorem k_PD_isPart (l : Launch) (dC : Nat → ClassId) (dI : Nat → Nat → Nat) (cI cJ cG cZ : ClassId) (x : Int32) : k_M l yPD_isPart wsPD_isPart rm_PD_isPart (dC, dI) vwCl [(cI, .int), (cJ, .long), (cG, .array .long), (cZ, .boolean)] [.int x] [] (some (.int (f_isPart x))) [] := by
  refine k_of (cc := cPD_isPart) (maxL := 1) (ret := (some .boolean)) (by decide) rfl (Nat.le_of_ble_eq_true rfl) ?_
  intro p e s m below meth c A ls hx hb hr hlocks hml hown hts hA hP hD hK hF hl hS
  have hown : s.vm.findClass RPD = some m.cls := hown
  have hl : lv_has ls 1 [(0, .int x)] := hl
  refine lv_iload_n hx hb dPD_isPart_0 rfl (lv_at hl 0 rfl) ?_
  refine lv_if_lt (tgt := 14) hx hb dPD_isPart_1 (by decide) (fun c_1 => ?_) (fun c_1 => ?_)
  · refine lv_iconst (v := 0) hx hb dPD_isPart_14 (by decide) ?_
    exact k_zret hx hb hr hlocks rfl hP hK hD hS (by unfold f_isPart; rw [if_pos c_1]) dPD_isPart_15 ⟨Nat.le_of_ble_eq_true rfl, Nat.le_of_ble_eq_true rfl⟩
  · refine lv_iload_n hx hb dPD_isPart_4 rfl (lv_at hl 0 rfl) ?_
    refine lv_bipush (v := 12) hx hb dPD_isPart_5 (by decide) ?_
    refine lv_icmp_ge (tgt := 14) hx hb dPD_isPart_7 (by decide) (fun c_2 => ?_) (fun c_2 => ?_)
    · refine lv_iconst (v := 0) hx hb dPD_isPart_14 (by decide) ?_
      exact k_zret hx hb hr hlocks rfl hP hK hD hS (by unfold f_isPart; rw [if_neg c_1, if_pos c_2]) dPD_isPart_15 ⟨Nat.le_of_ble_eq_true rfl, Nat.le_of_ble_eq_true rfl⟩
    · refine lv_iconst (v := 1) hx hb dPD_isPart_10 (by decide) ?_
      refine lv_goto (tgt := 15) hx hb dPD_isPart_11 (by decide) ?_
      exact k_zret hx hb hr hlocks rfl hP hK hD hS (by unfold f_isPart; rw [if_neg c_1, if_neg c_2]) dPD_isPart_15 ⟨Nat.le_of_ble_eq_true rfl, Nat.le_of_ble_eq_true rfl⟩
abbrev rm_PT_throwIfTold : Room := { frames := 6, cells := 1, slots := 6, locals := 82 }
set_option maxHeartbeats 4000000 in
set_option maxRecDepth 100000 in
theorem k_PT_throwIfTold (l : Launch) (dC : Nat → ClassId) (dI : Nat → Nat → Nat) (cI cJ cG cZ : ClassId) (h0 : Nat) (h1 : Nat) (h2 : Nat) (h3 : Nat) (an : Nat → Int64) (sm : Nat → Int64) (fl : Nat → Int32) (k : Nat) (hk : k < 12) (hf : fl k = 0) : k_M l yPT_throwIfTold wsPT_throwIfTold rm_PT_throwIfTold (dC, dI) vwCl [(cI, .int), (cJ, .long), (cG, .array .long), (cZ, .boolean)] [.ref h0, .int (nI k)] [(h0, .inr (4, [.ref h1, .ref h2, .ref h3])), (h1, .inl (cJ, 12, .inr (.inl an))), (h2, .inl (cJ, 12, .inr (.inl sm))), (h3, .inl (cI, 12, .inl fl))] none [(h0, .inr (4, [.ref h1, .ref h2, .ref h3])), (h1, .inl (cJ, 12, .inr (.inl an))), (h2, .inl (cJ, 12, .inr (.inl sm))), (h3, .inl (cI, 12, .inl (upd fl k 0)))] := by
  refine k_of (cc := cPT_throwIfTold) (maxL := 3) (ret := none) (by decide) rfl (Nat.le_of_ble_eq_true rfl) ?_
  intro p e s m below meth c A ls hx hb hr hlocks hml hown hts hA hP hD hK hF hl hS
  have hown : s.vm.findClass RPT = some m.cls := hown
  have hl : lv_has ls 3 [(0, .ref h0), (1, .int (nI k))] := hl
  refine lv_aload_n hx hb dPT_throwIfTold_0 rfl (lv_at hl 0 rfl) ?_
  refine va_get (D := (dC, dI)) (ci := 4) (v := .ref h3) (C := RPT) (T := TPT) (N := 3) hx hb hts inPT hown hK hP 0 rfl rfl 2 (by decide) (hts _ m_f_PT_18) (fun _ h9 => h9) rfl dPT_throwIfTold_1 ?_
  refine lv_iload_n hx hb dPT_throwIfTold_4 rfl (lv_at hl 1 rfl) ?_
  refine k_ild (v := fl k) hx hb hK hP 3 0 rfl rfl (j := k) rfl hk (by decide) rfl dPT_throwIfTold_5 ?_
  refine k_topi (y := 0) hf ?_
  refine lv_istore_n (lv' := [(2, .int 0), (0, .ref h0), (1, .int (nI k))]) hx hb dPT_throwIfTold_6 rfl hl (by decide) rfl (fun ls hl => ?_)
  refine lv_aload_n hx hb dPT_throwIfTold_7 rfl (lv_at hl 1 rfl) ?_
  refine va_get (D := (dC, dI)) (ci := 4) (v := .ref h3) (C := RPT) (T := TPT) (N := 3) hx hb hts inPT hown hK hP 0 rfl rfl 2 (by decide) (hts _ m_f_PT_18) (fun _ h9 => h9) rfl dPT_throwIfTold_8 ?_
  refine lv_iload_n hx hb dPT_throwIfTold_11 rfl (lv_at hl 2 rfl) ?_
  refine lv_iconst (v := 0) hx hb dPT_throwIfTold_12 (by decide) ?_
  refine k_ist (W1 := [(h0, .inr (4, [.ref h1, .ref h2, .ref h3])), (h1, .inl (cJ, 12, .inr (.inl an))), (h2, .inl (cJ, 12, .inr (.inl sm))), (h3, .inl (cI, 12, .inl (upd fl k 0)))]) hx hb hK hP hD hS 3 0 rfl rfl (j := k) rfl hk (by decide) rfl dPT_throwIfTold_13 (fun H locs hP hD hS => ?_)
  refine lv_iload_n hx hb dPT_throwIfTold_14 rfl (lv_at hl 0 rfl) ?_
  refine lv_tableOut (tgt := 98) hx hb dPT_throwIfTold_15 (by decide) (by decide) ?_
  exact k_vret hx hb hr hlocks hP hK hD hS dPT_throwIfTold_98 ⟨Nat.le_of_ble_eq_true rfl, Nat.le_of_ble_eq_true rfl⟩

set_option maxHeartbeats 4000000 in
set_option maxRecDepth 100000 in
theorem k_PT_throwIfTold_1 (l : Launch) (dC : Nat → ClassId) (dI : Nat → Nat → Nat) (cI cJ cG cZ : ClassId) (h0 : Nat) (h1 : Nat) (h2 : Nat) (h3 : Nat) (an : Nat → Int64) (sm : Nat → Int64) (fl : Nat → Int32) (k : Nat) (hk : k < 12) (hf : fl k = 1) (hlt : l.stackTraces = false) : k_T l yPT_throwIfTold wsPT_throwIfTold rm_PT_throwIfTold (dC, dI) vwCl [(cI, .int), (cJ, .long), (cG, .array .long), (cZ, .boolean)] [.ref h0, .int (nI k)] [(h0, .inr (4, [.ref h1, .ref h2, .ref h3])), (h1, .inl (cJ, 12, .inr (.inl an))), (h2, .inl (cJ, 12, .inr (.inl sm))), (h3, .inl (cI, 12, .inl fl))] "java/lang/IllegalStateException" [(h0, .inr (4, [.ref h1, .ref h2, .ref h3])), (h1, .inl (cJ, 12, .inr (.inl an))), (h2, .inl (cJ, 12, .inr (.inl sm))), (h3, .inl (cI, 12, .inl (upd fl k 0)))] := by
  refine k_tof (cc := cPT_throwIfTold) (maxL := 3) (ret := none) (by decide) rfl (Nat.le_of_ble_eq_true rfl) ?_
  intro p e s m below meth c A ls hx hb hr hlocks hml hown hts hA hP hD hK hF hl hS ht
  have hown : s.vm.findClass RPT = some m.cls := hown
  have hl : lv_has ls 3 [(0, .ref h0), (1, .int (nI k))] := hl
  refine lv_aload_n hx hb dPT_throwIfTold_0 rfl (lv_at hl 0 rfl) ?_
  refine va_get (D := (dC, dI)) (ci := 4) (v := .ref h3) (C := RPT) (T := TPT) (N := 3) hx hb hts inPT hown hK hP 0 rfl rfl 2 (by decide) (hts _ m_f_PT_18) (fun _ h9 => h9) rfl dPT_throwIfTold_1 ?_
  refine lv_iload_n hx hb dPT_throwIfTold_4 rfl (lv_at hl 1 rfl) ?_
  refine k_ild (v := fl k) hx hb hK hP 3 0 rfl rfl (j := k) rfl hk (by decide) rfl dPT_throwIfTold_5 ?_
  refine k_topi (y := 1) hf ?_
  refine lv_istore_n (lv' := [(2, .int 1), (0, .ref h0), (1, .int (nI k))]) hx hb dPT_throwIfTold_6 rfl hl (by decide) rfl (fun ls hl => ?_)
  refine lv_aload_n hx hb dPT_throwIfTold_7 rfl (lv_at hl 1 rfl) ?_
  refine va_get (D := (dC, dI)) (ci := 4) (v := .ref h3) (C := RPT) (T := TPT) (N := 3) hx hb hts inPT hown hK hP 0 rfl rfl 2 (by decide) (hts _ m_f_PT_18) (fun _ h9 => h9) rfl dPT_throwIfTold_8 ?_
  refine lv_iload_n hx hb dPT_throwIfTold_11 rfl (lv_at hl 2 rfl) ?_
  refine lv_iconst (v := 0) hx hb dPT_throwIfTold_12 (by decide) ?_
  refine k_ist (W1 := [(h0, .inr (4, [.ref h1, .ref h2, .ref h3])), (h1, .inl (cJ, 12, .inr (.inl an))), (h2, .inl (cJ, 12, .inr (.inl sm))), (h3, .inl (cI, 12, .inl (upd fl k 0)))]) hx hb hK hP hD hS 3 0 rfl rfl (j := k) rfl hk (by decide) rfl dPT_throwIfTold_13 (fun H locs hP hD hS => ?_)
  refine lv_iload_n hx hb dPT_throwIfTold_14 rfl (lv_at hl 0 rfl) ?_
  refine lv_tableIn (tgt := 48) (off := 33) hx hb dPT_throwIfTold_15 (by decide) (by decide) (by decide) (by decide) ?_
  exact k_thr (own := RPT) (names := exC) hx hb hlt hown hts (by decide +kernel) (by decide +kernel) m_cl_PT_28 m_in_IllegalStateException (List.mem_of_getElem? (i := 0) rfl) (List.mem_of_getElem? (i := 0) rfl) at_PT_32 hF hS (hl.1.trans hml.symm) dPT_throwIfTold_48 dPT_throwIfTold_51 dPT_throwIfTold_52 dPT_throwIfTold_54 dPT_throwIfTold_57 (fun x h9 => ht x _ h9) (by decide) (Nat.le_of_ble_eq_true rfl) (Nat.le_of_ble_eq_true rfl) (Nat.le_of_ble_eq_true rfl) hlocks hP hK hD (Nat.le_of_ble_eq_true rfl) (Nat.le_of_ble_eq_true rfl)

set_option maxHeartbeats 4000000 in
set_option maxRecDepth 100000 in
theorem k_PT_throwIfTold_2 (l : Launch) (dC : Nat → ClassId) (dI : Nat → Nat → Nat) (cI cJ cG cZ : ClassId) (h0 : Nat) (h1 : Nat) (h2 : Nat) (h3 : Nat) (an : Nat → Int64) (sm : Nat → Int64) (fl : Nat → Int32) (k : Nat) (hk : k < 12) (hf : fl k = 2) (hlt : l.stackTraces = false) : k_T l yPT_throwIfTold wsPT_throwIfTold rm_PT_throwIfTold (dC, dI) vwCl [(cI, .int), (cJ, .long), (cG, .array .long), (cZ, .boolean)] [.ref h0, .int (nI k)] [(h0, .inr (4, [.ref h1, .ref h2, .ref h3])), (h1, .inl (cJ, 12, .inr (.inl an))), (h2, .inl (cJ, 12, .inr (.inl sm))), (h3, .inl (cI, 12, .inl fl))] "java/lang/IllegalArgumentException" [(h0, .inr (4, [.ref h1, .ref h2, .ref h3])), (h1, .inl (cJ, 12, .inr (.inl an))), (h2, .inl (cJ, 12, .inr (.inl sm))), (h3, .inl (cI, 12, .inl (upd fl k 0)))] := by
  refine k_tof (cc := cPT_throwIfTold) (maxL := 3) (ret := none) (by decide) rfl (Nat.le_of_ble_eq_true rfl) ?_
  intro p e s m below meth c A ls hx hb hr hlocks hml hown hts hA hP hD hK hF hl hS ht
  have hown : s.vm.findClass RPT = some m.cls := hown
  have hl : lv_has ls 3 [(0, .ref h0), (1, .int (nI k))] := hl
  refine lv_aload_n hx hb dPT_throwIfTold_0 rfl (lv_at hl 0 rfl) ?_
  refine va_get (D := (dC, dI)) (ci := 4) (v := .ref h3) (C := RPT) (T := TPT) (N := 3) hx hb hts inPT hown hK hP 0 rfl rfl 2 (by decide) (hts _ m_f_PT_18) (fun _ h9 => h9) rfl dPT_throwIfTold_1 ?_
  refine lv_iload_n hx hb dPT_throwIfTold_4 rfl (lv_at hl 1 rfl) ?_
  refine k_ild (v := fl k) hx hb hK hP 3 0 rfl rfl (j := k) rfl hk (by decide) rfl dPT_throwIfTold_5 ?_
  refine k_topi (y := 2) hf ?_
  refine lv_istore_n (lv' := [(2, .int 2), (0, .ref h0), (1, .int (nI k))]) hx hb dPT_throwIfTold_6 rfl hl (by decide) rfl (fun ls hl => ?_)
  refine lv_aload_n hx hb dPT_throwIfTold_7 rfl (lv_at hl 1 rfl) ?_
  refine va_get (D := (dC, dI)) (ci := 4) (v := .ref h3) (C := RPT) (T := TPT) (N := 3) hx hb hts inPT hown hK hP 0 rfl rfl 2 (by decide) (hts _ m_f_PT_18) (fun _ h9 => h9) rfl dPT_throwIfTold_8 ?_
  refine lv_iload_n hx hb dPT_throwIfTold_11 rfl (lv_at hl 2 rfl) ?_
  refine lv_iconst (v := 0) hx hb dPT_throwIfTold_12 (by decide) ?_
  refine k_ist (W1 := [(h0, .inr (4, [.ref h1, .ref h2, .ref h3])), (h1, .inl (cJ, 12, .inr (.inl an))), (h2, .inl (cJ, 12, .inr (.inl sm))), (h3, .inl (cI, 12, .inl (upd fl k 0)))]) hx hb hK hP hD hS 3 0 rfl rfl (j := k) rfl hk (by decide) rfl dPT_throwIfTold_13 (fun H locs hP hD hS => ?_)
  refine lv_iload_n hx hb dPT_throwIfTold_14 rfl (lv_at hl 0 rfl) ?_
  refine lv_tableIn (tgt := 58) (off := 43) hx hb dPT_throwIfTold_15 (by decide) (by decide) (by decide) (by decide) ?_
  exact k_thr (own := RPT) (names := exC) hx hb hlt hown hts (by decide +kernel) (by decide +kernel) m_cl_PT_35 m_in_IllegalArgumentException (List.mem_of_getElem? (i := 1) rfl) (List.mem_of_getElem? (i := 1) rfl) at_PT_39 hF hS (hl.1.trans hml.symm) dPT_throwIfTold_58 dPT_throwIfTold_61 dPT_throwIfTold_62 dPT_throwIfTold_64 dPT_throwIfTold_67 (fun x h9 => ht x _ h9) (by decide) (Nat.le_of_ble_eq_true rfl) (Nat.le_of_ble_eq_true rfl) (Nat.le_of_ble_eq_true rfl) hlocks hP hK hD (Nat.le_of_ble_eq_true rfl) (Nat.le_of_ble_eq_true rfl)

set_option maxHeartbeats 4000000 in
set_option maxRecDepth 100000 in
theorem k_PT_throwIfTold_3 (l : Launch) (dC : Nat → ClassId) (dI : Nat → Nat → Nat) (cI cJ cG cZ : ClassId) (h0 : Nat) (h1 : Nat) (h2 : Nat) (h3 : Nat) (an : Nat → Int64) (sm : Nat → Int64) (fl : Nat → Int32) (k : Nat) (hk : k < 12) (hf : fl k = 3) (hlt : l.stackTraces = false) : k_T l yPT_throwIfTold wsPT_throwIfTold rm_PT_throwIfTold (dC, dI) vwCl [(cI, .int), (cJ, .long), (cG, .array .long), (cZ, .boolean)] [.ref h0, .int (nI k)] [(h0, .inr (4, [.ref h1, .ref h2, .ref h3])), (h1, .inl (cJ, 12, .inr (.inl an))), (h2, .inl (cJ, 12, .inr (.inl sm))), (h3, .inl (cI, 12, .inl fl))] "java/lang/IndexOutOfBoundsException" [(h0, .inr (4, [.ref h1, .ref h2, .ref h3])), (h1, .inl (cJ, 12, .inr (.inl an))), (h2, .inl (cJ, 12, .inr (.inl sm))), (h3, .inl (cI, 12, .inl (upd fl k 0)))] := by
  refine k_tof (cc := cPT_throwIfTold) (maxL := 3) (ret := none) (by decide) rfl (Nat.le_of_ble_eq_true rfl) ?_
  intro p e s m below meth c A ls hx hb hr hlocks hml hown hts hA hP hD hK hF hl hS ht
  have hown : s.vm.findClass RPT = some m.cls := hown
  have hl : lv_has ls 3 [(0, .ref h0), (1, .int (nI k))] := hl
  refine lv_aload_n hx hb dPT_throwIfTold_0 rfl (lv_at hl 0 rfl) ?_
  refine va_get (D := (dC, dI)) (ci := 4) (v := .ref h3) (C := RPT) (T := TPT) (N := 3) hx hb hts inPT hown hK hP 0 rfl rfl 2 (by decide) (hts _ m_f_PT_18) (fun _ h9 => h9) rfl dPT_throwIfTold_1 ?_
  refine lv_iload_n hx hb dPT_throwIfTold_4 rfl (lv_at hl 1 rfl) ?_
  refine k_ild (v := fl k) hx hb hK hP 3 0 rfl rfl (j := k) rfl hk (by decide) rfl dPT_throwIfTold_5 ?_
  refine k_topi (y := 3) hf ?_
  refine lv_istore_n (lv' := [(2, .int 3), (0, .ref h0), (1, .int (nI k))]) hx hb dPT_throwIfTold_6 rfl hl (by decide) rfl (fun ls hl => ?_)
  refine lv_aload_n hx hb dPT_throwIfTold_7 rfl (lv_at hl 1 rfl) ?_
  refine va_get (D := (dC, dI)) (ci := 4) (v := .ref h3) (C := RPT) (T := TPT) (N := 3) hx hb hts inPT hown hK hP 0 rfl rfl 2 (by decide) (hts _ m_f_PT_18) (fun _ h9 => h9) rfl dPT_throwIfTold_8 ?_
  refine lv_iload_n hx hb dPT_throwIfTold_11 rfl (lv_at hl 2 rfl) ?_
  refine lv_iconst (v := 0) hx hb dPT_throwIfTold_12 (by decide) ?_
  refine k_ist (W1 := [(h0, .inr (4, [.ref h1, .ref h2, .ref h3])), (h1, .inl (cJ, 12, .inr (.inl an))), (h2, .inl (cJ, 12, .inr (.inl sm))), (h3, .inl (cI, 12, .inl (upd fl k 0)))]) hx hb hK hP hD hS 3 0 rfl rfl (j := k) rfl hk (by decide) rfl dPT_throwIfTold_13 (fun H locs hP hD hS => ?_)
  refine lv_iload_n hx hb dPT_throwIfTold_14 rfl (lv_at hl 0 rfl) ?_
  refine lv_tableIn (tgt := 68) (off := 53) hx hb dPT_throwIfTold_15 (by decide) (by decide) (by decide) (by decide) ?_
  exact k_thr (own := RPT) (names := exC) hx hb hlt hown hts (by decide +kernel) (by decide +kernel) m_cl_PT_40 m_in_IndexOutOfBoundsException (List.mem_of_getElem? (i := 2) rfl) (List.mem_of_getElem? (i := 2) rfl) at_PT_44 hF hS (hl.1.trans hml.symm) dPT_throwIfTold_68 dPT_throwIfTold_71 dPT_throwIfTold_72 dPT_throwIfTold_74 dPT_throwIfTold_77 (fun x h9 => ht x _ h9) (by decide) (Nat.le_of_ble_eq_true rfl) (Nat.le_of_ble_eq_true rfl) (Nat.le_of_ble_eq_true rfl) hlocks hP hK hD (Nat.le_of_ble_eq_true rfl) (Nat.le_of_ble_eq_true rfl)

set_option maxHeartbeats 4000000 in
set_option maxRecDepth 100000 in
theorem k_PT_throwIfTold_4 (l : Launch) (dC : Nat → ClassId) (dI : Nat → Nat → Nat) (cI cJ cG cZ : ClassId) (h0 : Nat) (h1 : Nat) (h2 : Nat) (h3 : Nat) (an : Nat → Int64) (sm : Nat → Int64) (fl : Nat → Int32) (k : Nat) (hk : k < 12) (hf : fl k = 4) (hlt : l.stackTraces = false) : k_T l yPT_throwIfTold wsPT_throwIfTold rm_PT_throwIfTold (dC, dI) vwCl [(cI, .int), (cJ, .long), (cG, .array .long), (cZ, .boolean)] [.ref h0, .int (nI k)] [(h0, .inr (4, [.ref h1, .ref h2, .ref h3])), (h1, .inl (cJ, 12, .inr (.inl an))), (h2, .inl (cJ, 12, .inr (.inl sm))), (h3, .inl (cI, 12, .inl fl))] "java/lang/ArithmeticException" [(h0, .inr (4, [.ref h1, .ref h2, .ref h3])), (h1, .inl (cJ, 12, .inr (.inl an))), (h2, .inl (cJ, 12, .inr (.inl sm))), (h3, .inl (cI, 12, .inl (upd fl k 0)))] := by
  refine k_tof (cc := cPT_throwIfTold) (maxL := 3) (ret := none) (by decide) rfl (Nat.le_of_ble_eq_true rfl) ?_
  intro p e s m below meth c A ls hx hb hr hlocks hml hown hts hA hP hD hK hF hl hS ht
  have hown : s.vm.findClass RPT = some m.cls := hown
  have hl : lv_has ls 3 [(0, .ref h0), (1, .int (nI k))] := hl
  refine lv_aload_n hx hb dPT_throwIfTold_0 rfl (lv_at hl 0 rfl) ?_
  refine va_get (D := (dC, dI)) (ci := 4) (v := .ref h3) (C := RPT) (T := TPT) (N := 3) hx hb hts inPT hown hK hP 0 rfl rfl 2 (by decide) (hts _ m_f_PT_18) (fun _ h9 => h9) rfl dPT_throwIfTold_1 ?_
  refine lv_iload_n hx hb dPT_throwIfTold_4 rfl (lv_at hl 1 rfl) ?_
  refine k_ild (v := fl k) hx hb hK hP 3 0 rfl rfl (j := k) rfl hk (by decide) rfl dPT_throwIfTold_5 ?_
  refine k_topi (y := 4) hf ?_
  refine lv_istore_n (lv' := [(2, .int 4), (0, .ref h0), (1, .int (nI k))]) hx hb dPT_throwIfTold_6 rfl hl (by decide) rfl (fun ls hl => ?_)
  refine lv_aload_n hx hb dPT_throwIfTold_7 rfl (lv_at hl 1 rfl) ?_
  refine va_get (D := (dC, dI)) (ci := 4) (v := .ref h3) (C := RPT) (T := TPT) (N := 3) hx hb hts inPT hown hK hP 0 rfl rfl 2 (by decide) (hts _ m_f_PT_18) (fun _ h9 => h9) rfl dPT_throwIfTold_8 ?_
  refine lv_iload_n hx hb dPT_throwIfTold_11 rfl (lv_at hl 2 rfl) ?_
  refine lv_iconst (v := 0) hx hb dPT_throwIfTold_12 (by decide) ?_
  refine k_ist (W1 := [(h0, .inr (4, [.ref h1, .ref h2, .ref h3])), (h1, .inl (cJ, 12, .inr (.inl an))), (h2, .inl (cJ, 12, .inr (.inl sm))), (h3, .inl (cI, 12, .inl (upd fl k 0)))]) hx hb hK hP hD hS 3 0 rfl rfl (j := k) rfl hk (by decide) rfl dPT_throwIfTold_13 (fun H locs hP hD hS => ?_)
  refine lv_iload_n hx hb dPT_throwIfTold_14 rfl (lv_at hl 0 rfl) ?_
  refine lv_tableIn (tgt := 78) (off := 63) hx hb dPT_throwIfTold_15 (by decide) (by decide) (by decide) (by decide) ?_
  exact k_thr (own := RPT) (names := exC) hx hb hlt hown hts (by decide +kernel) (by decide +kernel) m_cl_PT_45 m_in_ArithmeticException (List.mem_of_getElem? (i := 3) rfl) (List.mem_of_getElem? (i := 3) rfl) at_PT_49 hF hS (hl.1.trans hml.symm) dPT_throwIfTold_78 dPT_throwIfTold_81 dPT_throwIfTold_82 dPT_throwIfTold_84 dPT_throwIfTold_87 (fun x h9 => ht x _ h9) (by decide) (Nat.le_of_ble_eq_true rfl) (Nat.le_of_ble_eq_true rfl) (Nat.le_of_ble_eq_true rfl) hlocks hP hK hD (Nat.le_of_ble_eq_true rfl) (Nat.le_of_ble_eq_true rfl)

set_option maxHeartbeats 4000000 in
set_option maxRecDepth 100000 in
theorem k_PT_throwIfTold_5 (l : Launch) (dC : Nat → ClassId) (dI : Nat → Nat → Nat) (cI cJ cG cZ : ClassId) (h0 : Nat) (h1 : Nat) (h2 : Nat) (h3 : Nat) (an : Nat → Int64) (sm : Nat → Int64) (fl : Nat → Int32) (k : Nat) (hk : k < 12) (hf : fl k = 5) (hlt : l.stackTraces = false) : k_T l yPT_throwIfTold wsPT_throwIfTold rm_PT_throwIfTold (dC, dI) vwCl [(cI, .int), (cJ, .long), (cG, .array .long), (cZ, .boolean)] [.ref h0, .int (nI k)] [(h0, .inr (4, [.ref h1, .ref h2, .ref h3])), (h1, .inl (cJ, 12, .inr (.inl an))), (h2, .inl (cJ, 12, .inr (.inl sm))), (h3, .inl (cI, 12, .inl fl))] "java/lang/UnsupportedOperationException" [(h0, .inr (4, [.ref h1, .ref h2, .ref h3])), (h1, .inl (cJ, 12, .inr (.inl an))), (h2, .inl (cJ, 12, .inr (.inl sm))), (h3, .inl (cI, 12, .inl (upd fl k 0)))] := by
  refine k_tof (cc := cPT_throwIfTold) (maxL := 3) (ret := none) (by decide) rfl (Nat.le_of_ble_eq_true rfl) ?_
  intro p e s m below meth c A ls hx hb hr hlocks hml hown hts hA hP hD hK hF hl hS ht
  have hown : s.vm.findClass RPT = some m.cls := hown
  have hl : lv_has ls 3 [(0, .ref h0), (1, .int (nI k))] := hl
  refine lv_aload_n hx hb dPT_throwIfTold_0 rfl (lv_at hl 0 rfl) ?_
  refine va_get (D := (dC, dI)) (ci := 4) (v := .ref h3) (C := RPT) (T := TPT) (N := 3) hx hb hts inPT hown hK hP 0 rfl rfl 2 (by decide) (hts _ m_f_PT_18) (fun _ h9 => h9) rfl dPT_throwIfTold_1 ?_
  refine lv_iload_n hx hb dPT_throwIfTold_4 rfl (lv_at hl 1 rfl) ?_
  refine k_ild (v := fl k) hx hb hK hP 3 0 rfl rfl (j := k) rfl hk (by decide) rfl dPT_throwIfTold_5 ?_
  refine k_topi (y := 5) hf ?_
  refine lv_istore_n (lv' := [(2, .int 5), (0, .ref h0), (1, .int (nI k))]) hx hb dPT_throwIfTold_6 rfl hl (by decide) rfl (fun ls hl => ?_)
  refine lv_aload_n hx hb dPT_throwIfTold_7 rfl (lv_at hl 1 rfl) ?_
  refine va_get (D := (dC, dI)) (ci := 4) (v := .ref h3) (C := RPT) (T := TPT) (N := 3) hx hb hts inPT hown hK hP 0 rfl rfl 2 (by decide) (hts _ m_f_PT_18) (fun _ h9 => h9) rfl dPT_throwIfTold_8 ?_
  refine lv_iload_n hx hb dPT_throwIfTold_11 rfl (lv_at hl 2 rfl) ?_
  refine lv_iconst (v := 0) hx hb dPT_throwIfTold_12 (by decide) ?_
  refine k_ist (W1 := [(h0, .inr (4, [.ref h1, .ref h2, .ref h3])), (h1, .inl (cJ, 12, .inr (.inl an))), (h2, .inl (cJ, 12, .inr (.inl sm))), (h3, .inl (cI, 12, .inl (upd fl k 0)))]) hx hb hK hP hD hS 3 0 rfl rfl (j := k) rfl hk (by decide) rfl dPT_throwIfTold_13 (fun H locs hP hD hS => ?_)
  refine lv_iload_n hx hb dPT_throwIfTold_14 rfl (lv_at hl 0 rfl) ?_
  refine lv_tableIn (tgt := 88) (off := 73) hx hb dPT_throwIfTold_15 (by decide) (by decide) (by decide) (by decide) ?_
  exact k_thr (own := RPT) (names := exC) hx hb hlt hown hts (by decide +kernel) (by decide +kernel) m_cl_PT_50 m_in_UnsupportedOperationException (List.mem_of_getElem? (i := 4) rfl) (List.mem_of_getElem? (i := 4) rfl) at_PT_54 hF hS (hl.1.trans hml.symm) dPT_throwIfTold_88 dPT_throwIfTold_91 dPT_throwIfTold_92 dPT_throwIfTold_94 dPT_throwIfTold_97 (fun x h9 => ht x _ h9) (by decide) (Nat.le_of_ble_eq_true rfl) (Nat.le_of_ble_eq_true rfl) (Nat.le_of_ble_eq_true rfl) hlocks hP hK hD (Nat.le_of_ble_eq_true rfl) (Nat.le_of_ble_eq_true rfl)

abbrev rm_PT_answerTo : Room := { frames := 7, cells := 1, slots := 6, locals := 104 }
set_option maxHeartbeats 4000000 in
set_option maxRecDepth 100000 in
theorem k_PT_answerTo (l : Launch) (dC : Nat → ClassId) (dI : Nat → Nat → Nat) (cI cJ cG cZ : ClassId) (h0 : Nat) (h1 : Nat) (h2 : Nat) (h3 : Nat) (an : Nat → Int64) (sm : Nat → Int64) (fl : Nat → Int32) (k : Nat) (n : Int32) (v : Int64) (hk : k < 12) (hf : fl k = 0) : k_M l yPT_answerTo wsPT_answerTo rm_PT_answerTo (dC, dI) vwCl [(cI, .int), (cJ, .long), (cG, .array .long), (cZ, .boolean)] [.ref h0, .int (nI k), .int n, .long v] [(h0, .inr (4, [.ref h1, .ref h2, .ref h3])), (h1, .inl (cJ, 12, .inr (.inl an))), (h2, .inl (cJ, 12, .inr (.inl sm))), (h3, .inl (cI, 12, .inl fl))] (some (.long (an k + 3 * n.toInt64 + (sm k + v)))) [(h0, .inr (4, [.ref h1, .ref h2, .ref h3])), (h1, .inl (cJ, 12, .inr (.inl an))), (h2, .inl (cJ, 12, .inr (.inl (vp_updL sm k (sm k + v))))), (h3, .inl (cI, 12, .inl (upd fl k 0)))] := by
  refine k_of (cc := cPT_answerTo) (maxL := 5) (ret := (some .long)) (by decide) rfl (Nat.le_of_ble_eq_true rfl) ?_
  intro p e s m below meth c A ls hx hb hr hlocks hml hown hts hA hP hD hK hF hl hS
  have hown : s.vm.findClass RPT = some m.cls := hown
  have hl : lv_has ls 5 [(0, .ref h0), (1, .int (nI k)), (2, .int n), (3, .long v)] := hl
  refine lv_aload_n hx hb dPT_answerTo_0 rfl (lv_at hl 0 rfl) ?_
  refine va_get (D := (dC, dI)) (ci := 4) (v := .ref h2) (C := RPT) (T := TPT) (N := 3) hx hb hts inPT hown hK hP 0 rfl rfl 1 (by decide) (hts _ m_f_PT_15) (fun _ h9 => h9) rfl dPT_answerTo_1 ?_
  refine lv_iload_n hx hb dPT_answerTo_4 rfl (lv_at hl 1 rfl) ?_
  refine lv_dup2_11 hx hb dPT_answerTo_5 rfl rfl ?_
  refine k_lld (v := sm k) hx hb hK hP 2 1 rfl rfl (j := k) rfl hk (by decide) rfl dPT_answerTo_6 ?_
  refine lv_lload_n hx hb dPT_answerTo_7 rfl (lv_at hl 3 rfl) ?_
  refine lv_ladd hx hb dPT_answerTo_8 ?_
  refine k_lst (W1 := [(h0, .inr (4, [.ref h1, .ref h2, .ref h3])), (h1, .inl (cJ, 12, .inr (.inl an))), (h2, .inl (cJ, 12, .inr (.inl (vp_updL sm k ((sm k) + v))))), (h3, .inl (cI, 12, .inl fl))]) hx hb hK hP hD hS 2 1 rfl rfl (j := k) rfl hk (by decide) rfl dPT_answerTo_9 (fun H locs hP hD hS => ?_)
  refine lv_aload_n hx hb dPT_answerTo_10 rfl (lv_at hl 0 rfl) ?_
  refine lv_iload_n hx hb dPT_answerTo_11 rfl (lv_at hl 1 rfl) ?_
  refine k_V (wr := []) (W1 := [(h0, .inr (4, [.ref h1, .ref h2, .ref h3])), (h1, .inl (cJ, 12, .inr (.inl an))), (h2, .inl (cJ, 12, .inr (.inl (vp_updL sm k ((sm k) + v))))), (h3, .inl (cI, 12, .inl (upd fl k 0)))]) (st1 := []) ⟨hx, hb, hml, hown, hts⟩ (k_PT_throwIfTold l dC dI cI cJ cG cZ h0 h1 h2 h3 an (vp_updL sm k ((sm k) + v)) fl k hk hf) (cwV 1 hts (k_gV m_l_PT_22 m_i_PT_throwIfTold m_s_PT_throwIfTold m_in_PT m_c_PT_throwIfTold) rfl rfl rfl (by decide +kernel) ⟨Nat.le_of_ble_eq_true rfl, Nat.le_of_ble_eq_true rfl⟩) hK hF hP hD hS hA [0, 1, 2, 3] [] [0, 1, 2, 3] rfl rfl (by decide) (by decide) (by decide) rfl (by decide) rfl rfl rfl rfl hl.1 rfl (Nat.le_of_ble_eq_true rfl) dPT_answerTo_12 ⟨Nat.le_of_ble_eq_true rfl, Nat.le_of_ble_eq_true rfl⟩ rfl (fun H locs hP hD hS => ?_)
  refine lv_aload_n hx hb dPT_answerTo_15 rfl (lv_at hl 0 rfl) ?_
  refine va_get (D := (dC, dI)) (ci := 4) (v := .ref h1) (C := RPT) (T := TPT) (N := 3) hx hb hts inPT hown hK hP 0 rfl rfl 0 (by decide) (hts _ m_f_PT_9) (fun _ h9 => h9) rfl dPT_answerTo_16 ?_
  refine lv_iload_n hx hb dPT_answerTo_19 rfl (lv_at hl 1 rfl) ?_
  refine k_lld (v := an k) hx hb hK hP 1 1 rfl rfl (j := k) rfl hk (by decide) rfl dPT_answerTo_20 ?_
  refine lv_ldc2 (v := 3) hx hb hown (hts _ m_k_PT_26) dPT_answerTo_21 ?_
  refine lv_iload_n hx hb dPT_answerTo_24 rfl (lv_at hl 2 rfl) ?_
  refine lv_i2l hx hb dPT_answerTo_25 rfl ?_
  refine lv_lmul hx hb dPT_answerTo_26 ?_
  refine lv_ladd hx hb dPT_answerTo_27 ?_
  refine lv_aload_n hx hb dPT_answerTo_28 rfl (lv_at hl 0 rfl) ?_
  refine va_get (D := (dC, dI)) (ci := 4) (v := .ref h2) (C := RPT) (T := TPT) (N := 3) hx hb hts inPT hown hK hP 0 rfl rfl 1 (by decide) (hts _ m_f_PT_15) (fun _ h9 => h9) rfl dPT_answerTo_29 ?_
  refine lv_iload_n hx hb dPT_answerTo_32 rfl (lv_at hl 1 rfl) ?_
  refine k_lld (v := ((sm k) + v)) hx hb hK hP 2 1 rfl rfl (j := k) rfl hk (by decide) pk_uLs dPT_answerTo_33 ?_
  refine lv_ladd hx hb dPT_answerTo_34 ?_
  exact k_lret hx hb hr hlocks hP hK hD hS rfl dPT_answerTo_35 ⟨Nat.le_of_ble_eq_true rfl, Nat.le_of_ble_eq_true rfl⟩

set_option maxHeartbeats 4000000 in
set_option maxRecDepth 100000 in
theorem k_PT_answerTo_1 (l : Launch) (dC : Nat → ClassId) (dI : Nat → Nat → Nat) (cI cJ cG cZ : ClassId) (h0 : Nat) (h1 : Nat) (h2 : Nat) (h3 : Nat) (an : Nat → Int64) (sm : Nat → Int64) (fl : Nat → Int32) (k : Nat) (n : Int32) (v : Int64) (hk : k < 12) (hf : fl k = 1) (hlt : l.stackTraces = false) : k_T l yPT_answerTo wsPT_answerTo rm_PT_answerTo (dC, dI) vwCl [(cI, .int), (cJ, .long), (cG, .array .long), (cZ, .boolean)] [.ref h0, .int (nI k), .int n, .long v] [(h0, .inr (4, [.ref h1, .ref h2, .ref h3])), (h1, .inl (cJ, 12, .inr (.inl an))), (h2, .inl (cJ, 12, .inr (.inl sm))), (h3, .inl (cI, 12, .inl fl))] "java/lang/IllegalStateException" [(h0, .inr (4, [.ref h1, .ref h2, .ref h3])), (h1, .inl (cJ, 12, .inr (.inl an))), (h2, .inl (cJ, 12, .inr (.inl (vp_updL sm k (sm k + v))))), (h3, .inl (cI, 12, .inl (upd fl k 0)))] := by
  refine k_tof (cc := cPT_answerTo) (maxL := 5) (ret := (some .long)) (by decide) rfl (Nat.le_of_ble_eq_true rfl) ?_
  intro p e s m below meth c A ls hx hb hr hlocks hml hown hts hA hP hD hK hF hl hS ht
  have hown : s.vm.findClass RPT = some m.cls := hown
  have hl : lv_has ls 5 [(0, .ref h0), (1, .int (nI k)), (2, .int n), (3, .long v)] := hl
  refine lv_aload_n hx hb dPT_answerTo_0 rfl (lv_at hl 0 rfl) ?_
  refine va_get (D := (dC, dI)) (ci := 4) (v := .ref h2) (C := RPT) (T := TPT) (N := 3) hx hb hts inPT hown hK hP 0 rfl rfl 1 (by decide) (hts _ m_f_PT_15) (fun _ h9 => h9) rfl dPT_answerTo_1 ?_
  refine lv_iload_n hx hb dPT_answerTo_4 rfl (lv_at hl 1 rfl) ?_
  refine lv_dup2_11 hx hb dPT_answerTo_5 rfl rfl ?_
  refine k_lld (v := sm k) hx hb hK hP 2 1 rfl rfl (j := k) rfl hk (by decide) rfl dPT_answerTo_6 ?_
  refine lv_lload_n hx hb dPT_answerTo_7 rfl (lv_at hl 3 rfl) ?_
  refine lv_ladd hx hb dPT_answerTo_8 ?_
  refine k_lst (W1 := [(h0, .inr (4, [.ref h1, .ref h2, .ref h3])), (h1, .inl (cJ, 12, .inr (.inl an))), (h2, .inl (cJ, 12, .inr (.inl (vp_updL sm k ((sm k) + v))))), (h3, .inl (cI, 12, .inl fl))]) hx hb hK hP hD hS 2 1 rfl rfl (j := k) rfl hk (by decide) rfl dPT_answerTo_9 (fun H locs hP hD hS => ?_)
  refine lv_aload_n hx hb dPT_answerTo_10 rfl (lv_at hl 0 rfl) ?_
  refine lv_iload_n hx hb dPT_answerTo_11 rfl (lv_at hl 1 rfl) ?_
  refine k_VT (wr := []) (W1 := [(h0, .inr (4, [.ref h1, .ref h2, .ref h3])), (h1, .inl (cJ, 12, .inr (.inl an))), (h2, .inl (cJ, 12, .inr (.inl (vp_updL sm k ((sm k) + v))))), (h3, .inl (cI, 12, .inl (upd fl k 0)))]) (rest := []) ⟨hx, hb, hml, hown, hts⟩ (k_PT_throwIfTold_1 l dC dI cI cJ cG cZ h0 h1 h2 h3 an (vp_updL sm k ((sm k) + v)) fl k hk hf hlt) (cwV 1 hts (k_gV m_l_PT_22 m_i_PT_throwIfTold m_s_PT_throwIfTold m_in_PT m_c_PT_throwIfTold) rfl rfl rfl (by decide +kernel) ⟨Nat.le_of_ble_eq_true rfl, Nat.le_of_ble_eq_true rfl⟩) hK hF hP hD hS hA [0, 1, 2, 3] [] [0, 1, 2, 3] rfl rfl (by decide) (by decide) (by decide) rfl (by decide) rfl rfl rfl rfl hl.1 rfl (Nat.le_of_ble_eq_true rfl) dPT_answerTo_12 ⟨Nat.le_of_ble_eq_true rfl, Nat.le_of_ble_eq_true rfl⟩ (fun q9 ce H locs hP hD hS hce hcv hcl => ?_)
  exact k_pass (fun x h9 => ht x _ h9) hlocks hce hcv hcl hP hK hD hS ⟨Nat.le_of_ble_eq_true rfl, Nat.le_of_ble_eq_true rfl⟩

set_option maxHeartbeats 4000000 in
set_option maxRecDepth 100000 in
theorem k_PT_answerTo_2 (l : Launch) (dC : Nat → ClassId) (dI : Nat → Nat → Nat) (cI cJ cG cZ : ClassId) (h0 : Nat) (h1 : Nat) (h2 : Nat) (h3 : Nat) (an : Nat → Int64) (sm : Nat → Int64) (fl : Nat → Int32) (k : Nat) (n : Int32) (v : Int64) (hk : k < 12) (hf : fl k = 2) (hlt : l.stackTraces = false) : k_T l yPT_answerTo wsPT_answerTo rm_PT_answerTo (dC, dI) vwCl [(cI, .int), (cJ, .long), (cG, .array .long), (cZ, .boolean)] [.ref h0, .int (nI k), .int n, .long v] [(h0, .inr (4, [.ref h1, .ref h2, .ref h3])), (h1, .inl (cJ, 12, .inr (.inl an))), (h2, .inl (cJ, 12, .inr (.inl sm))), (h3, .inl (cI, 12, .inl fl))] "java/lang/IllegalArgumentException" [(h0, .inr (4, [.ref h1, .ref h2, .ref h3])), (h1, .inl (cJ, 12, .inr (.inl an))), (h2, .inl (cJ, 12, .inr (.inl (vp_updL sm k (sm k + v))))), (h3, .inl (cI, 12, .inl (upd fl k 0)))] := by
  refine k_tof (cc := cPT_answerTo) (maxL := 5) (ret := (some .long)) (by decide) rfl (Nat.le_of_ble_eq_true rfl) ?_
  intro p e s m below meth c A ls hx hb hr hlocks hml hown hts hA hP hD hK hF hl hS ht
  have hown : s.vm.findClass RPT = some m.cls := hown
  have hl : lv_has ls 5 [(0, .ref h0), (1, .int (nI k)), (2, .int n), (3, .long v)] := hl
  refine lv_aload_n hx hb dPT_answerTo_0 rfl (lv_at hl 0 rfl) ?_
  refine va_get (D := (dC, dI)) (ci := 4) (v := .ref h2) (C := RPT) (T := TPT) (N := 3) hx hb hts inPT hown hK hP 0 rfl rfl 1 (by decide) (hts _ m_f_PT_15) (fun _ h9 => h9) rfl dPT_answerTo_1 ?_
  refine lv_iload_n hx hb dPT_answerTo_4 rfl (lv_at hl 1 rfl) ?_
  refine lv_dup2_11 hx hb dPT_answerTo_5 rfl rfl ?_
  refine k_lld (v := sm k) hx hb hK hP 2 1 rfl rfl (j := k) rfl hk (by decide) rfl dPT_answerTo_6 ?_
  refine lv_lload_n hx hb dPT_answerTo_7 rfl (lv_at hl 3 rfl) ?_
  refine lv_ladd hx hb dPT_answerTo_8 ?_
  refine k_lst (W1 := [(h0, .inr (4, [.ref h1, .ref h2, .ref h3])), (h1, .inl (cJ, 12, .inr (.inl an))), (h2, .inl (cJ, 12, .inr (.inl (vp_updL sm k ((sm k) + v))))), (h3, .inl (cI, 12, .inl fl))]) hx hb hK hP hD hS 2 1 rfl rfl (j := k) rfl hk (by decide) rfl dPT_answerTo_9 (fun H locs hP hD hS => ?_)
  refine lv_aload_n hx hb dPT_answerTo_10 rfl (lv_at hl 0 rfl) ?_
  refine lv_iload_n hx hb dPT_answerTo_11 rfl (lv_at hl 1 rfl) ?_
  refine k_VT (wr := []) (W1 := [(h0, .inr (4, [.ref h1, .ref h2, .ref h3])), (h1, .inl (cJ, 12, .inr (.inl an))), (h2, .inl (cJ, 12, .inr (.inl (vp_updL sm k ((sm k) + v))))), (h3, .inl (cI, 12, .inl (upd fl k 0)))]) (rest := []) ⟨hx, hb, hml, hown, hts⟩ (k_PT_throwIfTold_2 l dC dI cI cJ cG cZ h0 h1 h2 h3 an (vp_updL sm k ((sm k) + v)) fl k hk hf hlt) (cwV 1 hts (k_gV m_l_PT_22 m_i_PT_throwIfTold m_s_PT_throwIfTold m_in_PT m_c_PT_throwIfTold) rfl rfl rfl (by decide +kernel) ⟨Nat.le_of_ble_eq_true rfl, Nat.le_of_ble_eq_true rfl⟩) hK hF hP hD hS hA [0, 1, 2, 3] [] [0, 1, 2, 3] rfl rfl (by decide) (by decide) (by decide) rfl (by decide) rfl rfl rfl rfl hl.1 rfl (Nat.le_of_ble_eq_true rfl) dPT_answerTo_12 ⟨Nat.le_of_ble_eq_true rfl, Nat.le_of_ble_eq_true rfl⟩ (fun q9 ce H locs hP hD hS hce hcv hcl => ?_)
  exact k_pass (fun x h9 => ht x _ h9) hlocks hce hcv hcl hP hK hD hS ⟨Nat.le_of_ble_eq_true rfl, Nat.le_of_ble_eq_true rfl⟩

set_option maxHeartbeats 4000000 in
set_option maxRecDepth 100000 in
theorem k_PT_answerTo_3 (l : Launch) (dC : Nat → ClassId) (dI : Nat → Nat → Nat) (cI cJ cG cZ : ClassId) (h0 : Nat) (h1 : Nat) (h2 : Nat) (h3 : Nat) (an : Nat → Int64) (sm : Nat → Int64) (fl : Nat → Int32) (k : Nat) (n : Int32) (v : Int64) (hk : k < 12) (hf : fl k = 3) (hlt : l.stackTraces = false) : k_T l yPT_answerTo wsPT_answerTo rm_PT_answerTo (dC, dI) vwCl [(cI, .int), (cJ, .long), (cG, .array .long), (cZ, .boolean)] [.ref h0, .int (nI k), .int n, .long v] [(h0, .inr (4, [.ref h1, .ref h2, .ref h3])), (h1, .inl (cJ, 12, .inr (.inl an))), (h2, .inl (cJ, 12, .inr (.inl sm))), (h3, .inl (cI, 12, .inl fl))] "java/lang/IndexOutOfBoundsException" [(h0, .inr (4, [.ref h1, .ref h2, .ref h3])), (h1, .inl (cJ, 12, .inr (.inl an))), (h2, .inl (cJ, 12, .inr (.inl (vp_updL sm k (sm k + v))))), (h3, .inl (cI, 12, .inl (upd fl k 0)))] := by
  refine k_tof (cc := cPT_answerTo) (maxL := 5) (ret := (some .long)) (by decide) rfl (Nat.le_of_ble_eq_true rfl) ?_
  intro p e s m below meth c A ls hx hb hr hlocks hml hown hts hA hP hD hK hF hl hS ht
  have hown : s.vm.findClass RPT = some m.cls := hown
  have hl : lv_has ls 5 [(0, .ref h0), (1, .int (nI k)), (2, .int n), (3, .long v)] := hl
  refine lv_aload_n hx hb dPT_answerTo_0 rfl (lv_at hl 0 rfl) ?_
  refine va_get (D := (dC, dI)) (ci := 4) (v := .ref h2) (C := RPT) (T := TPT) (N := 3) hx hb hts inPT hown hK hP 0 rfl rfl 1 (by decide) (hts _ m_f_PT_15) (fun _ h9 => h9) rfl dPT_answerTo_1 ?_
  refine lv_iload_n hx hb dPT_answerTo_4 rfl (lv_at hl 1 rfl) ?_
  refine lv_dup2_11 hx hb dPT_answerTo_5 rfl rfl ?_
  refine k_lld (v := sm k) hx hb hK hP 2 1 rfl rfl (j := k) rfl hk (by decide) rfl dPT_answerTo_6 ?_
  refine lv_lload_n hx hb dPT_answerTo_7 rfl (lv_at hl 3 rfl) ?_
  refine lv_ladd hx hb dPT_answerTo_8 ?_
  refine k_lst (W1 := [(h0, .inr (4, [.ref h1, .ref h2, .ref h3])), (h1, .inl (cJ, 12, .inr (.inl an))), (h2, .inl (cJ, 12, .inr (.inl (vp_updL sm k ((sm k) + v))))), (h3, .inl (cI, 12, .inl fl))]) hx hb hK hP hD hS 2 1 rfl rfl (j := k) rfl hk (by decide) rfl dPT_answerTo_9 (fun H locs hP hD hS => ?_)
  refine lv_aload_n hx hb dPT_answerTo_10 rfl (lv_at hl 0 rfl) ?_
  refine lv_iload_n hx hb dPT_answerTo_11 rfl (lv_at hl 1 rfl) ?_
  refine k_VT (wr := []) (W1 := [(h0, .inr (4, [.ref h1, .ref h2, .ref h3])), (h1, .inl (cJ, 12, .inr (.inl an))), (h2, .inl (cJ, 12, .inr (.inl (vp_updL sm k ((sm k) + v))))), (h3, .inl (cI, 12, .inl (upd fl k 0)))]) (rest := []) ⟨hx, hb, hml, hown, hts⟩ (k_PT_throwIfTold_3 l dC dI cI cJ cG cZ h0 h1 h2 h3 an (vp_updL sm k ((sm k) + v)) fl k hk hf hlt) (cwV 1 hts (k_gV m_l_PT_22 m_i_PT_throwIfTold m_s_PT_throwIfTold m_in_PT m_c_PT_throwIfTold) rfl rfl rfl (by decide +kernel) ⟨Nat.le_of_ble_eq_true rfl, Nat.le_of_ble_eq_true rfl⟩) hK hF hP hD hS hA [0, 1, 2, 3] [] [0, 1, 2, 3] rfl rfl (by decide) (by decide) (by decide) rfl (by decide) rfl rfl rfl rfl hl.1 rfl (Nat.le_of_ble_eq_true rfl) dPT_answerTo_12 ⟨Nat.le_of_ble_eq_true rfl, Nat.le_of_ble_eq_true rfl⟩ (fun q9 ce H locs hP hD hS hce hcv hcl => ?_)
  exact k_pass (fun x h9 => ht x _ h9) hlocks hce hcv hcl hP hK hD hS ⟨Nat.le_of_ble_eq_true rfl, Nat.le_of_ble_eq_true rfl⟩

set_option maxHeartbeats 4000000 in
set_option maxRecDepth 100000 in
theorem k_PT_answerTo_4 (l : Launch) (dC : Nat → ClassId) (dI : Nat → Nat → Nat) (cI cJ cG cZ : ClassId) (h0 : Nat) (h1 : Nat) (h2 : Nat) (h3 : Nat) (an : Nat → Int64) (sm : Nat → Int64) (fl : Nat → Int32) (k : Nat) (n : Int32) (v : Int64) (hk : k < 12) (hf : fl k = 4) (hlt : l.stackTraces = false) : k_T l yPT_answerTo wsPT_answerTo rm_PT_answerTo (dC, dI) vwCl [(cI, .int), (cJ, .long), (cG, .array .long), (cZ, .boolean)] [.ref h0, .int (nI k), .int n, .long v] [(h0, .inr (4, [.ref h1, .ref h2, .ref h3])), (h1, .inl (cJ, 12, .inr (.inl an))), (h2, .inl (cJ, 12, .inr (.inl sm))), (h3, .inl (cI, 12, .inl fl))] "java/lang/ArithmeticException" [(h0, .inr (4, [.ref h1, .ref h2, .ref h3])), (h1, .inl (cJ, 12, .inr (.inl an))), (h2, .inl (cJ, 12, .inr (.inl (vp_updL sm k (sm k + v))))), (h3, .inl (cI, 12, .inl (upd fl k 0)))] := by
  refine k_tof (cc := cPT_answerTo) (maxL := 5) (ret := (some .long)) (by decide) rfl (Nat.le_of_ble_eq_true rfl) ?_
  intro p e s m below meth c A ls hx hb hr hlocks hml hown hts hA hP hD hK hF hl hS ht
  have hown : s.vm.findClass RPT = some m.cls := hown
  have hl : lv_has ls 5 [(0, .ref h0), (1, .int (nI k)), (2, .int n), (3, .long v)] := hl
  refine lv_aload_n hx hb dPT_answerTo_0 rfl (lv_at hl 0 rfl) ?_
  refine va_get (D := (dC, dI)) (ci := 4) (v := .ref h2) (C := RPT) (T := TPT) (N := 3) hx hb hts inPT hown hK hP 0 rfl rfl 1 (by decide) (hts _ m_f_PT_15) (fun _ h9 => h9) rfl dPT_answerTo_1 ?_
  refine lv_iload_n hx hb dPT_answerTo_4 rfl (lv_at hl 1 rfl) ?_
  refine lv_dup2_11 hx hb dPT_answerTo_5 rfl rfl ?_
  refine k_lld (v := sm k) hx hb hK hP 2 1 rfl rfl (j := k) rfl hk (by decide) rfl dPT_answerTo_6 ?_
  refine lv_lload_n hx hb dPT_answerTo_7 rfl (lv_at hl 3 rfl) ?_
  refine lv_ladd hx hb dPT_answerTo_8 ?_
  refine k_lst (W1 := [(h0, .inr (4, [.ref h1, .ref h2, .ref h3])), (h1, .inl (cJ, 12, .inr (.inl an))), (h2, .inl (cJ, 12, .inr (.inl (vp_updL sm k ((sm k) + v))))), (h3, .inl (cI, 12, .inl fl))]) hx hb hK hP hD hS 2 1 rfl rfl (j := k) rfl hk (by decide) rfl dPT_answerTo_9 (fun H locs hP hD hS => ?_)
  refine lv_aload_n hx hb dPT_answerTo_10 rfl (lv_at hl 0 rfl) ?_
  refine lv_iload_n hx hb dPT_answerTo_11 rfl (lv_at hl 1 rfl) ?_
  refine k_VT (wr := []) (W1 := [(h0, .inr (4, [.ref h1, .ref h2, .ref h3])), (h1, .inl (cJ, 12, .inr (.inl an))), (h2, .inl (cJ, 12, .inr (.inl (vp_updL sm k ((sm k) + v))))), (h3, .inl (cI, 12, .inl (upd fl k 0)))]) (rest := []) ⟨hx, hb, hml, hown, hts⟩ (k_PT_throwIfTold_4 l dC dI cI cJ cG cZ h0 h1 h2 h3 an (vp_updL sm k ((sm k) + v)) fl k hk hf hlt) (cwV 1 hts (k_gV m_l_PT_22 m_i_PT_throwIfTold m_s_PT_throwIfTold m_in_PT m_c_PT_throwIfTold) rfl rfl rfl (by decide +kernel) ⟨Nat.le_of_ble_eq_true rfl, Nat.le_of_ble_eq_true rfl⟩) hK hF hP hD hS hA [0, 1, 2, 3] [] [0, 1, 2, 3] rfl rfl (by decide) (by decide) (by decide) rfl (by decide) rfl rfl rfl rfl hl.1 rfl (Nat.le_of_ble_eq_true rfl) dPT_answerTo_12 ⟨Nat.le_of_ble_eq_true rfl, Nat.le_of_ble_eq_true rfl⟩ (fun q9 ce H locs hP hD hS hce hcv hcl => ?_)
  exact k_pass (fun x h9 => ht x _ h9) hlocks hce hcv hcl hP hK hD hS ⟨Nat.le_of_ble_eq_true rfl, Nat.le_of_ble_eq_true rfl⟩

set_option maxHeartbeats 4000000 in
set_option maxRecDepth 100000 in
theorem k_PT_answerTo_5 (l : Launch) (dC : Nat → ClassId) (dI : Nat → Nat → Nat) (cI cJ cG cZ : ClassId) (h0 : Nat) (h1 : Nat) (h2 : Nat) (h3 : Nat) (an : Nat → Int64) (sm : Nat → Int64) (fl : Nat → Int32) (k : Nat) (n : Int32) (v : Int64) (hk : k < 12) (hf : fl k = 5) (hlt : l.stackTraces = false) : k_T l yPT_answerTo wsPT_answerTo rm_PT_answerTo (dC, dI) vwCl [(cI, .int), (cJ, .long), (cG, .array .long), (cZ, .boolean)] [.ref h0, .int (nI k), .int n, .long v] [(h0, .inr (4, [.ref h1, .ref h2, .ref h3])), (h1, .inl (cJ, 12, .inr (.inl an))), (h2, .inl (cJ, 12, .inr (.inl sm))), (h3, .inl (cI, 12, .inl fl))] "java/lang/UnsupportedOperationException" [(h0, .inr (4, [.ref h1, .ref h2, .ref h3])), (h1, .inl (cJ, 12, .inr (.inl an))), (h2, .inl (cJ, 12, .inr (.inl (vp_updL sm k (sm k + v))))), (h3, .inl (cI, 12, .inl (upd fl k 0)))] := by
  refine k_tof (cc := cPT_answerTo) (maxL := 5) (ret := (some .long)) (by decide) rfl (Nat.le_of_ble_eq_true rfl) ?_
  intro p e s m below meth c A ls hx hb hr hlocks hml hown hts hA hP hD hK hF hl hS ht
  have hown : s.vm.findClass RPT = some m.cls := hown
  have hl : lv_has ls 5 [(0, .ref h0), (1, .int (nI k)), (2, .int n), (3, .long v)] := hl
  refine lv_aload_n hx hb dPT_answerTo_0 rfl (lv_at hl 0 rfl) ?_
  refine va_get (D := (dC, dI)) (ci := 4) (v := .ref h2) (C := RPT) (T := TPT) (N := 3) hx hb hts inPT hown hK hP 0 rfl rfl 1 (by decide) (hts _ m_f_PT_15) (fun _ h9 => h9) rfl dPT_answerTo_1 ?_
  refine lv_iload_n hx hb dPT_answerTo_4 rfl (lv_at hl 1 rfl) ?_
  refine lv_dup2_11 hx hb dPT_answerTo_5 rfl rfl ?_
  refine k_lld (v := sm k) hx hb hK hP 2 1 rfl rfl (j := k) rfl hk (by decide) rfl dPT_answerTo_6 ?_
  refine lv_lload_n hx hb dPT_answerTo_7 rfl (lv_at hl 3 rfl) ?_
  refine lv_ladd hx hb dPT_answerTo_8 ?_
  refine k_lst (W1 := [(h0, .inr (4, [.ref h1, .ref h2, .ref h3])), (h1, .inl (cJ, 12, .inr (.inl an))), (h2, .inl (cJ, 12, .inr (.inl (vp_updL sm k ((sm k) + v))))), (h3, .inl (cI, 12, .inl fl))]) hx hb hK hP hD hS 2 1 rfl rfl (j := k) rfl hk (by decide) rfl dPT_answerTo_9 (fun H locs hP hD hS => ?_)
  refine lv_aload_n hx hb dPT_answerTo_10 rfl (lv_at hl 0 rfl) ?_
  refine lv_iload_n hx hb dPT_answerTo_11 rfl (lv_at hl 1 rfl) ?_
  refine k_VT (wr := []) (W1 := [(h0, .inr (4, [.ref h1, .ref h2, .ref h3])), (h1, .inl (cJ, 12, .inr (.inl an))), (h2, .inl (cJ, 12, .inr (.inl (vp_updL sm k ((sm k) + v))))), (h3, .inl (cI, 12, .inl (upd fl k 0)))]) (rest := []) ⟨hx, hb, hml, hown, hts⟩ (k_PT_throwIfTold_5 l dC dI cI cJ cG cZ h0 h1 h2 h3 an (vp_updL sm k ((sm k) + v)) fl k hk hf hlt) (cwV 1 hts (k_gV m_l_PT_22 m_i_PT_throwIfTold m_s_PT_throwIfTold m_in_PT m_c_PT_throwIfTold) rfl rfl rfl (by decide +kernel) ⟨Nat.le_of_ble_eq_true rfl, Nat.le_of_ble_eq_true rfl⟩) hK hF hP hD hS hA [0, 1, 2, 3] [] [0, 1, 2, 3] rfl rfl (by decide) (by decide) (by decide) rfl (by decide) rfl rfl rfl rfl hl.1 rfl (Nat.le_of_ble_eq_true rfl) dPT_answerTo_12 ⟨Nat.le_of_ble_eq_true rfl, Nat.le_of_ble_eq_true rfl⟩ (fun q9 ce H locs hP hD hS hce hcv hcl => ?_)
  exact k_pass (fun x h9 => ht x _ h9) hlocks hce hcv hcl hP hK hD hS ⟨Nat.le_of_ble_eq_true rfl, Nat.le_of_ble_eq_true rfl⟩
