/-! ===== the class's own numbers, as its code computes them ===== -/
def f_bit (x : Int32) : Int64 := 1 <<< ((x - 1).toInt64 &&& 63)
def f_isFull (md : Nat → Int32) (k : Nat) : Int32 := if md k < 40 then 0 else 1
def f_wasMade (md : Nat → Int32) (k : Nat) (n : Int32) : Int32 := if n < 1 then 0 else if md k < n then 0 else 1
def f_isKnown (md : Nat → Int32) (kn : Nat → Int64) (k : Nat) (n : Int32) : Int32 := if f_wasMade md k n = 0 then 0 else if lg_cmp (kn k &&& f_bit n) 0 = 0 then 0 else 1
def f_isDesk (x : Int32) : Int32 := if x = 0 then 1 else if x = 1 then 1 else 0
def f_isKind (x : Int32) : Int32 := if x < 0 then 0 else if 8 ≤ x then 0 else 1
def f_isPart (x : Int32) : Int32 := if x < 0 then 0 else if 12 ≤ x then 0 else 1
theorem n_le {i n : Nat} {N : Int32} (hN : N = nI n) (hn : n < 2 ^ 31) (hi : i < 2 ^ 31) : N ≤ nI i ↔ n ≤ i := by subst hN; exact nI_leI hn hi
theorem n_lt {i n : Nat} {N : Int32} (hN : N = nI n) (hn : n < 2 ^ 31) (hi : i < 2 ^ 31) : nI i < N ↔ i < n := by subst hN; exact nI_ltI hi hn
theorem n_eq0 {x y : Int64} : lg_cmp x y = 0 ↔ x = y := by
  unfold lg_cmp
  by_cases h1 : y < x
  · rw [if_pos h1]
    exact ⟨fun h => absurd h (by decide), fun h => absurd h1 (by rw [h]; exact Int64.lt_irrefl)⟩
  · rw [if_neg h1]
    by_cases h2 : x = y
    · rw [if_pos h2]
      exact ⟨fun _ => h2, fun _ => rfl⟩
    · rw [if_neg h2]
      exact ⟨fun h => absurd h (by decide), fun h => absurd h h2⟩
abbrev rm_NU_bitOf : Room := { frames := 0, cells := 0, slots := 0, locals := 0 }
set_option maxHeartbeats 4000000 in
set_option maxRecDepth 100000 in
theorem k_NU_bitOf (l : Launch) (dC : Nat → ClassId) (dI : Nat → Nat → Nat) (cI cJ cG cZ : ClassId) (x : Int32) : k_M l yNU_bitOf wsNU_bitOf rm_NU_bitOf (dC, dI) vwCl [(cI, .int), (cJ, .long), (cG, .array .long), (cZ, .boolean)] [.int x] [] (some (.long (f_bit x))) [] := by
  refine k_of (cc := cNU_bitOf) (maxL := 1) (ret := (some .long)) (by decide) rfl (Nat.le_of_ble_eq_true rfl) ?_
  intro p e s m below meth c A ls hx hb hr hlocks hml hown hts hA hP hD hK hF hl hS
  have hown : s.vm.findClass RNU = some m.cls := hown
  have hl : lv_has ls 1 [(0, .int x)] := hl
  refine lv_lconst (v := 1) hx hb dNU_bitOf_0 (by decide) ?_
  refine lv_iload_n hx hb dNU_bitOf_1 rfl (lv_at hl 0 rfl) ?_
  refine lv_iconst (v := 1) hx hb dNU_bitOf_2 (by decide) ?_
  refine lv_isub hx hb dNU_bitOf_3 ?_
  refine lv_lshl hx hb dNU_bitOf_4 rfl ?_
  exact k_lret hx hb hr hlocks hP hK hD hS rfl dNU_bitOf_5 ⟨Nat.le_of_ble_eq_true rfl, Nat.le_of_ble_eq_true rfl⟩

abbrev rm_NU_isFull : Room := { frames := 0, cells := 0, slots := 0, locals := 0 }
set_option maxHeartbeats 4000000 in
set_option maxRecDepth 100000 in
theorem k_NU_isFull (l : Launch) (dC : Nat → ClassId) (dI : Nat → Nat → Nat) (cI cJ cG cZ : ClassId) (h0 : Nat) (h1 : Nat) (h2 : Nat) (md : Nat → Int32) (kn : Nat → Int64) (k : Nat) (hk : k < 8) : k_M l yNU_isFull wsNU_isFull rm_NU_isFull (dC, dI) vwCl [(cI, .int), (cJ, .long), (cG, .array .long), (cZ, .boolean)] [.ref h0, .int (nI k)] [(h0, .inr (3, [.ref h1, .ref h2])), (h1, .inl (cI, 8, .inl md)), (h2, .inl (cJ, 8, .inr (.inl kn)))] (some (.int (f_isFull md k))) [(h0, .inr (3, [.ref h1, .ref h2])), (h1, .inl (cI, 8, .inl md)), (h2, .inl (cJ, 8, .inr (.inl kn)))] := by
  refine k_of (cc := cNU_isFull) (maxL := 2) (ret := (some .boolean)) (by decide) rfl (Nat.le_of_ble_eq_true rfl) ?_
  intro p e s m below meth c A ls hx hb hr hlocks hml hown hts hA hP hD hK hF hl hS
  have hown : s.vm.findClass RNU = some m.cls := hown
  have hl : lv_has ls 2 [(0, .ref h0), (1, .int (nI k))] := hl
  refine lv_aload_n hx hb dNU_isFull_0 rfl (lv_at hl 0 rfl) ?_
  refine va_get (D := (dC, dI)) (ci := 3) (v := .ref h1) (C := RNU) (T := TNU) (N := 2) hx hb hts inNU hown hK hP 0 rfl rfl 0 (by decide) (hts _ m_f_NU_9) (fun _ h9 => h9) rfl dNU_isFull_1 ?_
  refine lv_iload_n hx hb dNU_isFull_4 rfl (lv_at hl 1 rfl) ?_
  refine k_ild (v := md k) hx hb hK hP 1 0 rfl rfl (j := k) rfl hk (by decide) rfl dNU_isFull_5 ?_
  refine lv_bipush (v := 40) hx hb dNU_isFull_6 (by decide) ?_
  refine lv_icmp_lt (tgt := 15) hx hb dNU_isFull_8 (by decide) (fun c_1 => ?_) (fun c_1 => ?_)
  · refine lv_iconst (v := 0) hx hb dNU_isFull_15 (by decide) ?_
    exact k_zret hx hb hr hlocks rfl hP hK hD hS (by unfold f_isFull; rw [if_pos c_1]) dNU_isFull_16 ⟨Nat.le_of_ble_eq_true rfl, Nat.le_of_ble_eq_true rfl⟩
  · refine lv_iconst (v := 1) hx hb dNU_isFull_11 (by decide) ?_
    refine lv_goto (tgt := 16) hx hb dNU_isFull_12 (by decide) ?_
    exact k_zret hx hb hr hlocks rfl hP hK hD hS (by unfold f_isFull; rw [if_neg c_1]) dNU_isFull_16 ⟨Nat.le_of_ble_eq_true rfl, Nat.le_of_ble_eq_true rfl⟩

abbrev rm_NU_makeNext : Room := { frames := 1, cells := 0, slots := 0, locals := 20 }
set_option maxHeartbeats 4000000 in
set_option maxRecDepth 100000 in
theorem k_NU_makeNext (l : Launch) (dC : Nat → ClassId) (dI : Nat → Nat → Nat) (cI cJ cG cZ : ClassId) (h0 : Nat) (h1 : Nat) (h2 : Nat) (md : Nat → Int32) (kn : Nat → Int64) (k : Nat) (hk : k < 8) : k_M l yNU_makeNext wsNU_makeNext rm_NU_makeNext (dC, dI) vwCl [(cI, .int), (cJ, .long), (cG, .array .long), (cZ, .boolean)] [.ref h0, .int (nI k)] [(h0, .inr (3, [.ref h1, .ref h2])), (h1, .inl (cI, 8, .inl md)), (h2, .inl (cJ, 8, .inr (.inl kn)))] (some (.int (md k + 1))) [(h0, .inr (3, [.ref h1, .ref h2])), (h1, .inl (cI, 8, .inl (upd md k (md k + 1)))), (h2, .inl (cJ, 8, .inr (.inl (vp_updL kn k (kn k ||| f_bit (md k + 1))))))] := by
  refine k_of (cc := cNU_makeNext) (maxL := 2) (ret := (some .int)) (by decide) rfl (Nat.le_of_ble_eq_true rfl) ?_
  intro p e s m below meth c A ls hx hb hr hlocks hml hown hts hA hP hD hK hF hl hS
  have hown : s.vm.findClass RNU = some m.cls := hown
  have hl : lv_has ls 2 [(0, .ref h0), (1, .int (nI k))] := hl
  refine lv_aload_n hx hb dNU_makeNext_0 rfl (lv_at hl 0 rfl) ?_
  refine va_get (D := (dC, dI)) (ci := 3) (v := .ref h1) (C := RNU) (T := TNU) (N := 2) hx hb hts inNU hown hK hP 0 rfl rfl 0 (by decide) (hts _ m_f_NU_9) (fun _ h9 => h9) rfl dNU_makeNext_1 ?_
  refine lv_iload_n hx hb dNU_makeNext_4 rfl (lv_at hl 1 rfl) ?_
  refine lv_dup2_11 hx hb dNU_makeNext_5 rfl rfl ?_
  refine k_ild (v := md k) hx hb hK hP 1 0 rfl rfl (j := k) rfl hk (by decide) rfl dNU_makeNext_6 ?_
  refine lv_iconst (v := 1) hx hb dNU_makeNext_7 (by decide) ?_
  refine lv_iadd hx hb dNU_makeNext_8 ?_
  refine k_ist (W1 := [(h0, .inr (3, [.ref h1, .ref h2])), (h1, .inl (cI, 8, .inl (upd md k ((md k) + 1)))), (h2, .inl (cJ, 8, .inr (.inl kn)))]) hx hb hK hP hD hS 1 0 rfl rfl (j := k) rfl hk (by decide) rfl dNU_makeNext_9 (fun H locs hP hD hS => ?_)
  refine lv_aload_n hx hb dNU_makeNext_10 rfl (lv_at hl 0 rfl) ?_
  refine va_get (D := (dC, dI)) (ci := 3) (v := .ref h2) (C := RNU) (T := TNU) (N := 2) hx hb hts inNU hown hK hP 0 rfl rfl 1 (by decide) (hts _ m_f_NU_15) (fun _ h9 => h9) rfl dNU_makeNext_11 ?_
  refine lv_iload_n hx hb dNU_makeNext_14 rfl (lv_at hl 1 rfl) ?_
  refine lv_dup2_11 hx hb dNU_makeNext_15 rfl rfl ?_
  refine k_lld (v := kn k) hx hb hK hP 2 1 rfl rfl (j := k) rfl hk (by decide) rfl dNU_makeNext_16 ?_
  refine lv_aload_n hx hb dNU_makeNext_17 rfl (lv_at hl 0 rfl) ?_
  refine va_get (D := (dC, dI)) (ci := 3) (v := .ref h1) (C := RNU) (T := TNU) (N := 2) hx hb hts inNU hown hK hP 0 rfl rfl 0 (by decide) (hts _ m_f_NU_9) (fun _ h9 => h9) rfl dNU_makeNext_18 ?_
  refine lv_iload_n hx hb dNU_makeNext_21 rfl (lv_at hl 1 rfl) ?_
  refine k_ild (v := ((md k) + 1)) hx hb hK hP 1 0 rfl rfl (j := k) rfl hk (by decide) pk_us dNU_makeNext_22 ?_
  refine k_S (wr := [(h0, .inr (3, [.ref h1, .ref h2])), (h1, .inl (cI, 8, .inl (upd md k ((md k) + 1)))), (h2, .inl (cJ, 8, .inr (.inl kn)))]) (W1 := [(h0, .inr (3, [.ref h1, .ref h2])), (h1, .inl (cI, 8, .inl (upd md k ((md k) + 1)))), (h2, .inl (cJ, 8, .inr (.inl kn)))]) (st1 := [.long (f_bit ((md k) + 1)), .long (kn k), .int (nI k), .ref h2]) ⟨hx, hb, hml, hown, hts⟩ (k_NU_bitOf l dC dI cI cJ cG cZ ((md k) + 1)) (va_cwS 1 hts (k_gS m_l_NU_19 m_st_NU_bitOf m_in_NU m_c_NU_bitOf) rfl rfl rfl (by decide +kernel) ⟨Nat.le_of_ble_eq_true rfl, Nat.le_of_ble_eq_true rfl⟩) hK hF hP hD hS hA [] [0, 1, 2] [0, 1, 2] rfl rfl (by decide) (by decide) (by decide) rfl (by decide) rfl hl.1 rfl (Nat.le_of_ble_eq_true rfl) dNU_makeNext_23 ⟨Nat.le_of_ble_eq_true rfl, Nat.le_of_ble_eq_true rfl⟩ rfl (fun H locs hP hD hS => ?_)
  refine lv_lor hx hb dNU_makeNext_26 ?_
  refine k_lst (W1 := [(h0, .inr (3, [.ref h1, .ref h2])), (h1, .inl (cI, 8, .inl (upd md k ((md k) + 1)))), (h2, .inl (cJ, 8, .inr (.inl (vp_updL kn k ((kn k) ||| (f_bit ((md k) + 1)))))))]) hx hb hK hP hD hS 2 1 rfl rfl (j := k) rfl hk (by decide) rfl dNU_makeNext_27 (fun H locs hP hD hS => ?_)
  refine lv_aload_n hx hb dNU_makeNext_28 rfl (lv_at hl 0 rfl) ?_
  refine va_get (D := (dC, dI)) (ci := 3) (v := .ref h1) (C := RNU) (T := TNU) (N := 2) hx hb hts inNU hown hK hP 0 rfl rfl 0 (by decide) (hts _ m_f_NU_9) (fun _ h9 => h9) rfl dNU_makeNext_29 ?_
  refine lv_iload_n hx hb dNU_makeNext_32 rfl (lv_at hl 1 rfl) ?_
  refine k_ild (v := ((md k) + 1)) hx hb hK hP 1 0 rfl rfl (j := k) rfl hk (by decide) pk_us dNU_makeNext_33 ?_
  exact k_iret hx hb hr hlocks hP hK hD hS rfl dNU_makeNext_34 ⟨Nat.le_of_ble_eq_true rfl, Nat.le_of_ble_eq_true rfl⟩

abbrev rm_NU_forget : Room := { frames := 1, cells := 0, slots := 0, locals := 20 }
set_option maxHeartbeats 4000000 in
set_option maxRecDepth 100000 in
theorem k_NU_forget (l : Launch) (dC : Nat → ClassId) (dI : Nat → Nat → Nat) (cI cJ cG cZ : ClassId) (h0 : Nat) (h1 : Nat) (h2 : Nat) (md : Nat → Int32) (kn : Nat → Int64) (k : Nat) (n : Int32) (hk : k < 8) : k_M l yNU_forget wsNU_forget rm_NU_forget (dC, dI) vwCl [(cI, .int), (cJ, .long), (cG, .array .long), (cZ, .boolean)] [.ref h0, .int (nI k), .int n] [(h0, .inr (3, [.ref h1, .ref h2])), (h1, .inl (cI, 8, .inl md)), (h2, .inl (cJ, 8, .inr (.inl kn)))] none [(h0, .inr (3, [.ref h1, .ref h2])), (h1, .inl (cI, 8, .inl md)), (h2, .inl (cJ, 8, .inr (.inl (vp_updL kn k (kn k &&& (f_bit n ^^^ (-1)))))))] := by
  refine k_of (cc := cNU_forget) (maxL := 3) (ret := none) (by decide) rfl (Nat.le_of_ble_eq_true rfl) ?_
  intro p e s m below meth c A ls hx hb hr hlocks hml hown hts hA hP hD hK hF hl hS
  have hown : s.vm.findClass RNU = some m.cls := hown
  have hl : lv_has ls 3 [(0, .ref h0), (1, .int (nI k)), (2, .int n)] := hl
  refine lv_aload_n hx hb dNU_forget_0 rfl (lv_at hl 0 rfl) ?_
  refine va_get (D := (dC, dI)) (ci := 3) (v := .ref h2) (C := RNU) (T := TNU) (N := 2) hx hb hts inNU hown hK hP 0 rfl rfl 1 (by decide) (hts _ m_f_NU_15) (fun _ h9 => h9) rfl dNU_forget_1 ?_
  refine lv_iload_n hx hb dNU_forget_4 rfl (lv_at hl 1 rfl) ?_
  refine lv_dup2_11 hx hb dNU_forget_5 rfl rfl ?_
  refine k_lld (v := kn k) hx hb hK hP 2 1 rfl rfl (j := k) rfl hk (by decide) rfl dNU_forget_6 ?_
  refine lv_iload_n hx hb dNU_forget_7 rfl (lv_at hl 2 rfl) ?_
  refine k_S (wr := [(h0, .inr (3, [.ref h1, .ref h2])), (h1, .inl (cI, 8, .inl md)), (h2, .inl (cJ, 8, .inr (.inl kn)))]) (W1 := [(h0, .inr (3, [.ref h1, .ref h2])), (h1, .inl (cI, 8, .inl md)), (h2, .inl (cJ, 8, .inr (.inl kn)))]) (st1 := [.long (f_bit n), .long (kn k), .int (nI k), .ref h2]) ⟨hx, hb, hml, hown, hts⟩ (k_NU_bitOf l dC dI cI cJ cG cZ n) (va_cwS 1 hts (k_gS m_l_NU_19 m_st_NU_bitOf m_in_NU m_c_NU_bitOf) rfl rfl rfl (by decide +kernel) ⟨Nat.le_of_ble_eq_true rfl, Nat.le_of_ble_eq_true rfl⟩) hK hF hP hD hS hA [] [0, 1, 2] [0, 1, 2] rfl rfl (by decide) (by decide) (by decide) rfl (by decide) rfl hl.1 rfl (Nat.le_of_ble_eq_true rfl) dNU_forget_8 ⟨Nat.le_of_ble_eq_true rfl, Nat.le_of_ble_eq_true rfl⟩ rfl (fun H locs hP hD hS => ?_)
  refine lv_ldc2 (v := (-1)) hx hb hown (hts _ m_k_NU_23) dNU_forget_11 ?_
  refine lv_lxor hx hb dNU_forget_14 ?_
  refine lv_land hx hb dNU_forget_15 ?_
  refine k_lst (W1 := [(h0, .inr (3, [.ref h1, .ref h2])), (h1, .inl (cI, 8, .inl md)), (h2, .inl (cJ, 8, .inr (.inl (vp_updL kn k ((kn k) &&& ((f_bit n) ^^^ (-1)))))))]) hx hb hK hP hD hS 2 1 rfl rfl (j := k) rfl hk (by decide) rfl dNU_forget_16 (fun H locs hP hD hS => ?_)
  exact k_vret hx hb hr hlocks hP hK hD hS dNU_forget_17 ⟨Nat.le_of_ble_eq_true rfl, Nat.le_of_ble_eq_true rfl⟩

abbrev rm_NU_wasMade : Room := { frames := 0, cells := 0, slots := 0, locals := 0 }
set_option maxHeartbeats 4000000 in
set_option maxRecDepth 100000 in
theorem k_NU_wasMade (l : Launch) (dC : Nat → ClassId) (dI : Nat → Nat → Nat) (cI cJ cG cZ : ClassId) (h0 : Nat) (h1 : Nat) (h2 : Nat) (md : Nat → Int32) (kn : Nat → Int64) (k : Nat) (n : Int32) (hk : k < 8) : k_M l yNU_wasMade wsNU_wasMade rm_NU_wasMade (dC, dI) vwCl [(cI, .int), (cJ, .long), (cG, .array .long), (cZ, .boolean)] [.ref h0, .int (nI k), .int n] [(h0, .inr (3, [.ref h1, .ref h2])), (h1, .inl (cI, 8, .inl md)), (h2, .inl (cJ, 8, .inr (.inl kn)))] (some (.int (f_wasMade md k n))) [(h0, .inr (3, [.ref h1, .ref h2])), (h1, .inl (cI, 8, .inl md)), (h2, .inl (cJ, 8, .inr (.inl kn)))] := by
  refine k_of (cc := cNU_wasMade) (maxL := 3) (ret := (some .boolean)) (by decide) rfl (Nat.le_of_ble_eq_true rfl) ?_
  intro p e s m below meth c A ls hx hb hr hlocks hml hown hts hA hP hD hK hF hl hS
  have hown : s.vm.findClass RNU = some m.cls := hown
  have hl : lv_has ls 3 [(0, .ref h0), (1, .int (nI k)), (2, .int n)] := hl
  refine lv_iload_n hx hb dNU_wasMade_0 rfl (lv_at hl 2 rfl) ?_
  refine lv_iconst (v := 1) hx hb dNU_wasMade_1 (by decide) ?_
  refine lv_icmp_lt (tgt := 19) hx hb dNU_wasMade_2 (by decide) (fun c_1 => ?_) (fun c_1 => ?_)
  · refine lv_iconst (v := 0) hx hb dNU_wasMade_19 (by decide) ?_
    exact k_zret hx hb hr hlocks rfl hP hK hD hS (by unfold f_wasMade; rw [if_pos c_1]) dNU_wasMade_20 ⟨Nat.le_of_ble_eq_true rfl, Nat.le_of_ble_eq_true rfl⟩
  · refine lv_iload_n hx hb dNU_wasMade_5 rfl (lv_at hl 2 rfl) ?_
    refine lv_aload_n hx hb dNU_wasMade_6 rfl (lv_at hl 0 rfl) ?_
    refine va_get (D := (dC, dI)) (ci := 3) (v := .ref h1) (C := RNU) (T := TNU) (N := 2) hx hb hts inNU hown hK hP 0 rfl rfl 0 (by decide) (hts _ m_f_NU_9) (fun _ h9 => h9) rfl dNU_wasMade_7 ?_
    refine lv_iload_n hx hb dNU_wasMade_10 rfl (lv_at hl 1 rfl) ?_
    refine k_ild (v := md k) hx hb hK hP 1 0 rfl rfl (j := k) rfl hk (by decide) rfl dNU_wasMade_11 ?_
    refine lv_icmp_gt (tgt := 19) hx hb dNU_wasMade_12 (by decide) (fun c_2 => ?_) (fun c_2 => ?_)
    · refine lv_iconst (v := 0) hx hb dNU_wasMade_19 (by decide) ?_
      exact k_zret hx hb hr hlocks rfl hP hK hD hS (by unfold f_wasMade; rw [if_neg c_1, if_pos c_2]) dNU_wasMade_20 ⟨Nat.le_of_ble_eq_true rfl, Nat.le_of_ble_eq_true rfl⟩
    · refine lv_iconst (v := 1) hx hb dNU_wasMade_15 (by decide) ?_
      refine lv_goto (tgt := 20) hx hb dNU_wasMade_16 (by decide) ?_
      exact k_zret hx hb hr hlocks rfl hP hK hD hS (by unfold f_wasMade; rw [if_neg c_1, if_neg c_2]) dNU_wasMade_20 ⟨Nat.le_of_ble_eq_true rfl, Nat.le_of_ble_eq_true rfl⟩

abbrev rm_NU_isKnown : Room := { frames := 1, cells := 0, slots := 0, locals := 22 }
set_option maxHeartbeats 4000000 in
set_option maxRecDepth 100000 in
theorem k_NU_isKnown (l : Launch) (dC : Nat → ClassId) (dI : Nat → Nat → Nat) (cI cJ cG cZ : ClassId) (h0 : Nat) (h1 : Nat) (h2 : Nat) (md : Nat → Int32) (kn : Nat → Int64) (k : Nat) (n : Int32) (hk : k < 8) : k_M l yNU_isKnown wsNU_isKnown rm_NU_isKnown (dC, dI) vwCl [(cI, .int), (cJ, .long), (cG, .array .long), (cZ, .boolean)] [.ref h0, .int (nI k), .int n] [(h0, .inr (3, [.ref h1, .ref h2])), (h1, .inl (cI, 8, .inl md)), (h2, .inl (cJ, 8, .inr (.inl kn)))] (some (.int (f_isKnown md kn k n))) [(h0, .inr (3, [.ref h1, .ref h2])), (h1, .inl (cI, 8, .inl md)), (h2, .inl (cJ, 8, .inr (.inl kn)))] := by
  refine k_of (cc := cNU_isKnown) (maxL := 3) (ret := (some .boolean)) (by decide) rfl (Nat.le_of_ble_eq_true rfl) ?_
  intro p e s m below meth c A ls hx hb hr hlocks hml hown hts hA hP hD hK hF hl hS
  have hown : s.vm.findClass RNU = some m.cls := hown
  have hl : lv_has ls 3 [(0, .ref h0), (1, .int (nI k)), (2, .int n)] := hl
  refine lv_aload_n hx hb dNU_isKnown_0 rfl (lv_at hl 0 rfl) ?_
  refine lv_iload_n hx hb dNU_isKnown_1 rfl (lv_at hl 1 rfl) ?_
  refine lv_iload_n hx hb dNU_isKnown_2 rfl (lv_at hl 2 rfl) ?_
  refine k_V (wr := []) (W1 := [(h0, .inr (3, [.ref h1, .ref h2])), (h1, .inl (cI, 8, .inl md)), (h2, .inl (cJ, 8, .inr (.inl kn)))]) (st1 := [.int (f_wasMade md k n)]) ⟨hx, hb, hml, hown, hts⟩ (k_NU_wasMade l dC dI cI cJ cG cZ h0 h1 h2 md kn k n hk) (cwV 2 hts (k_gV m_l_NU_25 m_i_NU_wasMade m_s_NU_wasMade m_in_NU m_c_NU_wasMade) rfl rfl rfl (by decide +kernel) ⟨Nat.le_of_ble_eq_true rfl, Nat.le_of_ble_eq_true rfl⟩) hK hF hP hD hS hA [0, 1, 2] [] [0, 1, 2] rfl rfl (by decide) (by decide) (by decide) rfl (by decide) rfl rfl rfl rfl hl.1 rfl (Nat.le_of_ble_eq_true rfl) dNU_isKnown_3 ⟨Nat.le_of_ble_eq_true rfl, Nat.le_of_ble_eq_true rfl⟩ rfl (fun H locs hP hD hS => ?_)
  refine lv_if_eq (tgt := 29) hx hb dNU_isKnown_6 (by decide) (fun c_1 => ?_) (fun c_1 => ?_)
  · refine lv_iconst (v := 0) hx hb dNU_isKnown_29 (by decide) ?_
    exact k_zret hx hb hr hlocks rfl hP hK hD hS (by unfold f_isKnown; rw [if_pos c_1]) dNU_isKnown_30 ⟨Nat.le_of_ble_eq_true rfl, Nat.le_of_ble_eq_true rfl⟩
  · refine lv_aload_n hx hb dNU_isKnown_9 rfl (lv_at hl 0 rfl) ?_
    refine va_get (D := (dC, dI)) (ci := 3) (v := .ref h2) (C := RNU) (T := TNU) (N := 2) hx hb hts inNU hown hK hP 0 rfl rfl 1 (by decide) (hts _ m_f_NU_15) (fun _ h9 => h9) rfl dNU_isKnown_10 ?_
    refine lv_iload_n hx hb dNU_isKnown_13 rfl (lv_at hl 1 rfl) ?_
    refine k_lld (v := kn k) hx hb hK hP 2 1 rfl rfl (j := k) rfl hk (by decide) rfl dNU_isKnown_14 ?_
    refine lv_iload_n hx hb dNU_isKnown_15 rfl (lv_at hl 2 rfl) ?_
    refine k_S (wr := [(h0, .inr (3, [.ref h1, .ref h2])), (h1, .inl (cI, 8, .inl md)), (h2, .inl (cJ, 8, .inr (.inl kn)))]) (W1 := [(h0, .inr (3, [.ref h1, .ref h2])), (h1, .inl (cI, 8, .inl md)), (h2, .inl (cJ, 8, .inr (.inl kn)))]) (st1 := [.long (f_bit n), .long (kn k)]) ⟨hx, hb, hml, hown, hts⟩ (k_NU_bitOf l dC dI cI cJ cG cZ n) (va_cwS 1 hts (k_gS m_l_NU_19 m_st_NU_bitOf m_in_NU m_c_NU_bitOf) rfl rfl rfl (by decide +kernel) ⟨Nat.le_of_ble_eq_true rfl, Nat.le_of_ble_eq_true rfl⟩) hK hF hP hD hS hA [] [0, 1, 2] [0, 1, 2] rfl rfl (by decide) (by decide) (by decide) rfl (by decide) rfl hl.1 rfl (Nat.le_of_ble_eq_true rfl) dNU_isKnown_16 ⟨Nat.le_of_ble_eq_true rfl, Nat.le_of_ble_eq_true rfl⟩ rfl (fun H locs hP hD hS => ?_)
    refine lv_land hx hb dNU_isKnown_19 ?_
    refine lv_lconst (v := 0) hx hb dNU_isKnown_20 (by decide) ?_
    refine W.lcmp hx hb dNU_isKnown_21 ?_
    refine lv_if_eq (tgt := 29) hx hb dNU_isKnown_22 (by decide) (fun c_2 => ?_) (fun c_2 => ?_)
    · refine lv_iconst (v := 0) hx hb dNU_isKnown_29 (by decide) ?_
      exact k_zret hx hb hr hlocks rfl hP hK hD hS (by unfold f_isKnown; rw [if_neg c_1, if_pos c_2]) dNU_isKnown_30 ⟨Nat.le_of_ble_eq_true rfl, Nat.le_of_ble_eq_true rfl⟩
    · refine lv_iconst (v := 1) hx hb dNU_isKnown_25 (by decide) ?_
      refine lv_goto (tgt := 30) hx hb dNU_isKnown_26 (by decide) ?_
      exact k_zret hx hb hr hlocks rfl hP hK hD hS (by unfold f_isKnown; rw [if_neg c_1, if_neg c_2]) dNU_isKnown_30 ⟨Nat.le_of_ble_eq_true rfl, Nat.le_of_ble_eq_true rfl⟩
