section KZ
variable {p : Program} {l : Launch} {e : Env} {R : Room} {s : State} {m : MethodId} {args : Array Value} {below : List Frame} {meth : Method} {c : Code} {H : Heap} {locs : List Loc} {cells slots : Nat} {Q : State → Prop}
variable {cc : ByteArray} {pc : Nat} {ls : Array Slot} {rest : List Value} {D : va_G} {cl : List vw_C} {A : Nat → Prop} {a : Nat} {tys : List (ClassId × FieldType)} {ws W1 : va_W} {H0 : Heap}
theorem k_zld (hx : p.tables.exec = Jvm.exec) (hb : c.code = cc) (hK : va_K D cl tys s) (hP : va_P D cl ws H) (q0 t0 : Nat) {cA : ClassId} {n j : Nat} {f : Nat → Int32} {v : Int32} (ha : ws[q0]? = some (a, .inl (cA, n, .inl f))) (ht : tys[t0]? = some (cA, .boolean)) {i : Int32} (hi : i = nI j) (hj : j < n) (hn : n < 2 ^ 31) (hv : f j = v) (hdg : decode cc pc = .ok (.baload, 1))
    (kk : W p l e R s m args below meth c H locs cells slots Q (F0 m (pc + 1) ls (.int v :: rest))) : W p l e R s m args below meth c H locs cells slots Q (F0 m pc ls (.int i :: .ref a :: rest)) := by
  subst hi; subst hv
  refine va_zald hx hb hK hP q0 t0 ha ht (vp_in_nI hj hn) hdg ?_
  rw [nI_clamp (Nat.lt_trans hj hn)]
  exact kk
theorem k_zst (hx : p.tables.exec = Jvm.exec) (hb : c.code = cc) (hK : va_K D cl tys s) (hP : va_P D cl ws H) (hD : va_D A ws) (hS : va_S A H0 H locs) (q0 t0 : Nat) {cA : ClassId} {n j : Nat} {f : Nat → Int32} (ha : ws[q0]? = some (a, .inl (cA, n, .inl f))) (ht : tys[t0]? = some (cA, .boolean)) {i : Int32} (hi : i = nI j) (hj : j < n) (hn : n < 2 ^ 31) (hW : ws.set q0 (a, .inl (cA, n, .inl (upd f j 1))) = W1) (hdg : decode cc pc = .ok (.bastore, 1))
    (kk : ∀ (H1 : Heap) (locs1 : List Loc), va_P D cl W1 H1 → va_D A W1 → va_S A H0 H1 locs1 → W p l e R s m args below meth c H1 locs1 cells slots Q (F0 m (pc + 1) ls rest)) : W p l e R s m args below meth c H locs cells slots Q (F0 m pc ls (.int 1 :: .int i :: .ref a :: rest)) := by
  subst hi; subst hW
  refine va_zast hx hb hK hP hD hS q0 t0 ha ht (vp_in_nI hj hn) hdg ?_
  rw [nI_clamp (Nat.lt_trans hj hn)]
  exact kk
end KZ
/-! ===== the reference's own numbers ===== -/
def f_in (v a b : Int64) : Int32 := if lg_cmp v a < 0 then 0 else if 0 < lg_cmp v b then 0 else 1
theorem f_in_lo {x : Int32} {b : Int64} (h : x < 0) : f_in x.toInt64 0 b = 0 := by
  unfold f_in
  rw [if_pos]
  rw [lg_cmp_lt, Int64.lt_iff_toInt_lt, Int32.toInt_toInt64]
  exact Int32.lt_iff_toInt_lt.mp h
theorem f_in_hi {x c : Int32} (h : c < x) : f_in x.toInt64 0 c.toInt64 = 0 := by
  unfold f_in
  by_cases h1 : lg_cmp x.toInt64 0 < 0
  · rw [if_pos h1]
  · rw [if_neg h1, if_pos]
    rw [lg_cmp_gt, Int64.lt_iff_toInt_lt, Int32.toInt_toInt64, Int32.toInt_toInt64]
    exact Int32.lt_iff_toInt_lt.mp h
theorem f_in_in {x c : Int32} (h0 : ¬ x < 0) (h : x ≤ c) : f_in x.toInt64 0 c.toInt64 = 1 := by
  unfold f_in
  rw [if_neg, if_neg]
  · rw [lg_cmp_gt, Int64.lt_iff_toInt_lt, Int32.toInt_toInt64, Int32.toInt_toInt64]
    have h9 := Int32.le_iff_toInt_le.mp h
    omega
  · rw [lg_cmp_lt, Int64.lt_iff_toInt_lt, Int32.toInt_toInt64]
    intro h9
    exact h0 (Int32.lt_iff_toInt_lt.mpr h9)
theorem f_in7 (v : Int64) : f_in v 0 7 = f_can3 v := by
  unfold f_in f_can3
  by_cases h : lg_cmp v 0 < 0
  · rw [if_pos h, if_pos h]
  · rw [if_neg h, if_neg h]
    have e : 0 < lg_cmp v 7 ↔ 0 ≤ lg_cmp v 8 := by
      rw [lg_cmp_gt, lg_cmp_ge, Int64.lt_iff_toInt_lt, Int64.le_iff_toInt_le]
      have e7 : (7 : Int64).toInt = 7 := by decide
      have e8 : (8 : Int64).toInt = 8 := by decide
      omega
    by_cases h1 : 0 < lg_cmp v 7
    · rw [if_pos h1, if_pos (e.mp h1)]
    · rw [if_neg h1, if_neg (fun h9 => h1 (e.mpr h9))]
def f_kb (x : Int64) (j : Nat) : Bool := x.toBitVec.getLsbD j
theorem f_bitj : ∀ j, j < 40 → (f_bit (nI (j + 1))).toBitVec = BitVec.twoPow 64 j := by decide +kernel
theorem f_bit0 {x : Int64} {j : Nat} (hj : j < 40) : lg_cmp (x &&& f_bit (nI (j + 1))) 0 = 0 ↔ f_kb x j = false := by
  rw [lg_cmp_eq, ← Int64.toBitVec_inj, Int64.toBitVec_and, f_bitj j hj, BitVec.and_twoPow]
  unfold f_kb
  cases h : x.toBitVec.getLsbD j with
  | false => simp
  | true =>
    simp only [if_true, Bool.true_eq_false, iff_false]
    intro h9
    have h8 := congrArg (fun b : BitVec 64 => b.getLsbD j) h9
    rw [BitVec.getLsbD_twoPow] at h8
    simp at h8
    omega
theorem f_wasMade_j {md : Nat → Int32} {k j M : Nat} (hM : md k = nI M) (hM4 : M ≤ 40) (hj : j < M) : f_wasMade md k (nI (j + 1)) = 1 := by
  unfold f_wasMade
  rw [if_neg (show ¬ nI (j + 1) < 1 from fun h9 => absurd ((nI_ltI (a := j + 1) (b := 1) (by omega) (by decide)).mp h9) (by omega)), hM, if_neg (fun h9 => absurd ((nI_ltI (by omega) (by omega)).mp h9) (by omega))]
theorem f_isKnown_j {md : Nat → Int32} {kn : Nat → Int64} {k j M : Nat} (hM : md k = nI M) (hM4 : M ≤ 40) (hj : j < M) : f_isKnown md kn k (nI (j + 1)) = if f_kb (kn k) j = false then 0 else 1 := by
  unfold f_isKnown
  rw [if_neg (by rw [f_wasMade_j hM hM4 hj]; decide)]
  by_cases h : f_kb (kn k) j = false
  · rw [if_pos h, if_pos ((f_bit0 (by omega)).mpr h)]
  · rw [if_neg h, if_neg (fun h9 => h ((f_bit0 (by omega)).mp h9))]
theorem f_made {md : Nat → Int32} {k M : Nat} (hM : md k = nI M) (hM4 : M ≤ 40) (n : Int32) : n < 1 ∨ (¬ n < 1 ∧ md k < n) ∨ ∃ j : Nat, j < M ∧ n = nI (j + 1) := by
  by_cases h : n < 1
  · exact Or.inl h
  · right
    by_cases h1 : md k < n
    · exact Or.inl ⟨h, h1⟩
    · right
      have e1 : (1 : Int32).toInt = 1 := by decide
      have h0 : ¬ n < 0 := fun h9 => h (by
        rw [Int32.lt_iff_toInt_lt] at h9 ⊢
        have e0 : (0 : Int32).toInt = 0 := by decide
        omega)
      obtain ⟨i, hi, rfl⟩ := nI_of h0
      rw [hM] at h1
      have h2 : ¬ i < 1 := fun h9 => h (nI_lt (a := i) (b := 1) h9 (by decide))
      have h3 : ¬ M < i := fun h9 => h1 (nI_lt h9 hi)
      exact ⟨i - 1, by omega, by rw [show i - 1 + 1 = i by omega]⟩
theorem f_ixd (k j : Nat) : 40 * nI k + nI (j + 1) - 1 = nI (40 * k + j) := by
  rw [show (40 : Int32) = nI 40 from rfl, pk_mul, nI_add]
  show nI (40 * k + (j + 1)) - nI 1 = _
  rw [pk_sub (by omega)]
  rfl
theorem f_can31 {v : Int64} (h : ¬ f_in v 0 7 = 0) : (1 : Int32) = f_can 3 v := by
  have h1 : ¬ f_can3 v = 0 := by rw [← f_in7]; exact h
  show 1 = f_can3 v
  unfold f_can3 at h1 ⊢
  by_cases h2 : lg_cmp v 0 < 0
  · rw [if_pos h2] at h1; exact absurd rfl h1
  · rw [if_neg h2] at h1 ⊢
    by_cases h3 : 0 ≤ lg_cmp v 8
    · rw [if_pos h3] at h1; exact absurd rfl h1
    · rw [if_neg h3]
theorem f_narz {x : Int32} (h : x = 0 ∨ x = 1) : narrow .boolean (.int x) = .int x := by rcases h with rfl | rfl <;> rfl
theorem f_in01 (v a b : Int64) : f_in v a b = 0 ∨ f_in v a b = 1 := by unfold f_in; split; exact Or.inl rfl; split; exact Or.inl rfl; exact Or.inr rfl
abbrev rm_MO_in : Room := { frames := 0, cells := 0, slots := 0, locals := 0 }
set_option maxHeartbeats 4000000 in
set_option maxRecDepth 100000 in
theorem k_MO_in (l : Launch) (dC : Nat → ClassId) (dI : Nat → Nat → Nat) (cI cJ cG cZ : ClassId) (v : Int64) (a : Int64) (b : Int64) : k_M l yMO_in wsMO_in rm_MO_in (dC, dI) vwCl [(cI, .int), (cJ, .long), (cG, .array .long), (cZ, .boolean)] [.long v, .long a, .long b] [] (some (.int (f_in v a b))) [] := by
  refine k_of (cc := cMO_in) (maxL := 6) (ret := (some .boolean)) (by decide) rfl (Nat.le_of_ble_eq_true rfl) ?_
  intro p e s m below meth c A ls hx hb hr hlocks hml hown hts hA hP hD hK hF hl hS
  have hown : s.vm.findClass RMO = some m.cls := hown
  have hl : lv_has ls 6 [(0, .long v), (2, .long a), (4, .long b)] := hl
  refine lv_lload_n hx hb dMO_in_0 rfl (lv_at hl 0 rfl) ?_
  refine lv_lload_n hx hb dMO_in_1 rfl (lv_at hl 1 rfl) ?_
  refine W.lcmp hx hb dMO_in_2 ?_
  refine lv_if_lt (tgt := 17) hx hb dMO_in_3 (by decide) (fun c_1 => ?_) (fun c_1 => ?_)
  · refine lv_iconst (v := 0) hx hb dMO_in_17 (by decide) ?_
    exact k_zret hx hb hr hlocks rfl hP hK hD hS (by unfold f_in; rw [if_pos c_1]) dMO_in_18 ⟨Nat.le_of_ble_eq_true rfl, Nat.le_of_ble_eq_true rfl⟩
  · refine lv_lload_n hx hb dMO_in_6 rfl (lv_at hl 0 rfl) ?_
    refine lv_lload hx hb dMO_in_7 (lv_at hl 2 rfl) ?_
    refine W.lcmp hx hb dMO_in_9 ?_
    refine lv_if_gt (tgt := 17) hx hb dMO_in_10 (by decide) (fun c_2 => ?_) (fun c_2 => ?_)
    · refine lv_iconst (v := 0) hx hb dMO_in_17 (by decide) ?_
      exact k_zret hx hb hr hlocks rfl hP hK hD hS (by unfold f_in; rw [if_neg c_1, if_pos c_2]) dMO_in_18 ⟨Nat.le_of_ble_eq_true rfl, Nat.le_of_ble_eq_true rfl⟩
    · refine lv_iconst (v := 1) hx hb dMO_in_13 (by decide) ?_
      refine lv_goto (tgt := 18) hx hb dMO_in_14 (by decide) ?_
      exact k_zret hx hb hr hlocks rfl hP hK hD hS (by unfold f_in; rw [if_neg c_1, if_neg c_2]) dMO_in_18 ⟨Nat.le_of_ble_eq_true rfl, Nat.le_of_ble_eq_true rfl⟩

abbrev rm_MO_isPart : Room := { frames := 0, cells := 0, slots := 0, locals := 0 }
set_option maxHeartbeats 4000000 in
set_option maxRecDepth 100000 in
theorem k_MO_isPart (l : Launch) (dC : Nat → ClassId) (dI : Nat → Nat → Nat) (cI cJ cG cZ : ClassId) (x : Int32) : k_M l yMO_isPart wsMO_isPart rm_MO_isPart (dC, dI) vwCl [(cI, .int), (cJ, .long), (cG, .array .long), (cZ, .boolean)] [.int x] [] (some (.int (f_isPart x))) [] := by
  refine k_of (cc := cMO_isPart) (maxL := 1) (ret := (some .boolean)) (by decide) rfl (Nat.le_of_ble_eq_true rfl) ?_
  intro p e s m below meth c A ls hx hb hr hlocks hml hown hts hA hP hD hK hF hl hS
  have hown : s.vm.findClass RMO = some m.cls := hown
  have hl : lv_has ls 1 [(0, .int x)] := hl
  refine lv_iload_n hx hb dMO_isPart_0 rfl (lv_at hl 0 rfl) ?_
  refine lv_if_lt (tgt := 14) hx hb dMO_isPart_1 (by decide) (fun c_1 => ?_) (fun c_1 => ?_)
  · refine lv_iconst (v := 0) hx hb dMO_isPart_14 (by decide) ?_
    exact k_zret hx hb hr hlocks rfl hP hK hD hS (by unfold f_isPart; rw [if_pos c_1]) dMO_isPart_15 ⟨Nat.le_of_ble_eq_true rfl, Nat.le_of_ble_eq_true rfl⟩
  · refine lv_iload_n hx hb dMO_isPart_4 rfl (lv_at hl 0 rfl) ?_
    refine lv_bipush (v := 12) hx hb dMO_isPart_5 (by decide) ?_
    refine lv_icmp_ge (tgt := 14) hx hb dMO_isPart_7 (by decide) (fun c_2 => ?_) (fun c_2 => ?_)
    · refine lv_iconst (v := 0) hx hb dMO_isPart_14 (by decide) ?_
      exact k_zret hx hb hr hlocks rfl hP hK hD hS (by unfold f_isPart; rw [if_neg c_1, if_pos c_2]) dMO_isPart_15 ⟨Nat.le_of_ble_eq_true rfl, Nat.le_of_ble_eq_true rfl⟩
    · refine lv_iconst (v := 1) hx hb dMO_isPart_10 (by decide) ?_
      refine lv_goto (tgt := 15) hx hb dMO_isPart_11 (by decide) ?_
      exact k_zret hx hb hr hlocks rfl hP hK hD hS (by unfold f_isPart; rw [if_neg c_1, if_neg c_2]) dMO_isPart_15 ⟨Nat.le_of_ble_eq_true rfl, Nat.le_of_ble_eq_true rfl⟩

abbrev rm_MO_isKind : Room := { frames := 0, cells := 0, slots := 0, locals := 0 }
set_option maxHeartbeats 4000000 in
set_option maxRecDepth 100000 in
theorem k_MO_isKind (l : Launch) (dC : Nat → ClassId) (dI : Nat → Nat → Nat) (cI cJ cG cZ : ClassId) (x : Int32) : k_M l yMO_isKind wsMO_isKind rm_MO_isKind (dC, dI) vwCl [(cI, .int), (cJ, .long), (cG, .array .long), (cZ, .boolean)] [.int x] [] (some (.int (f_isKind x))) [] := by
  refine k_of (cc := cMO_isKind) (maxL := 1) (ret := (some .boolean)) (by decide) rfl (Nat.le_of_ble_eq_true rfl) ?_
  intro p e s m below meth c A ls hx hb hr hlocks hml hown hts hA hP hD hK hF hl hS
  have hown : s.vm.findClass RMO = some m.cls := hown
  have hl : lv_has ls 1 [(0, .int x)] := hl
  refine lv_iload_n hx hb dMO_isKind_0 rfl (lv_at hl 0 rfl) ?_
  refine lv_if_lt (tgt := 14) hx hb dMO_isKind_1 (by decide) (fun c_1 => ?_) (fun c_1 => ?_)
  · refine lv_iconst (v := 0) hx hb dMO_isKind_14 (by decide) ?_
    exact k_zret hx hb hr hlocks rfl hP hK hD hS (by unfold f_isKind; rw [if_pos c_1]) dMO_isKind_15 ⟨Nat.le_of_ble_eq_true rfl, Nat.le_of_ble_eq_true rfl⟩
  · refine lv_iload_n hx hb dMO_isKind_4 rfl (lv_at hl 0 rfl) ?_
    refine lv_bipush (v := 8) hx hb dMO_isKind_5 (by decide) ?_
    refine lv_icmp_ge (tgt := 14) hx hb dMO_isKind_7 (by decide) (fun c_2 => ?_) (fun c_2 => ?_)
    · refine lv_iconst (v := 0) hx hb dMO_isKind_14 (by decide) ?_
      exact k_zret hx hb hr hlocks rfl hP hK hD hS (by unfold f_isKind; rw [if_neg c_1, if_pos c_2]) dMO_isKind_15 ⟨Nat.le_of_ble_eq_true rfl, Nat.le_of_ble_eq_true rfl⟩
    · refine lv_iconst (v := 1) hx hb dMO_isKind_10 (by decide) ?_
      refine lv_goto (tgt := 15) hx hb dMO_isKind_11 (by decide) ?_
      exact k_zret hx hb hr hlocks rfl hP hK hD hS (by unfold f_isKind; rw [if_neg c_1, if_neg c_2]) dMO_isKind_15 ⟨Nat.le_of_ble_eq_true rfl, Nat.le_of_ble_eq_true rfl⟩

abbrev rm_MO_thrown : Room := { frames := 0, cells := 0, slots := 0, locals := 0 }
set_option maxHeartbeats 4000000 in
set_option maxRecDepth 100000 in
theorem k_MO_thrown (l : Launch) (dC : Nat → ClassId) (dI : Nat → Nat → Nat) (cI cJ cG cZ : ClassId) (u0 : Nat) (u1 : Nat) (u2 : Nat) (u3 : Nat) (u4 : Nat) (u5 : Nat) (u6 : Nat) (u7 : Nat) (u8 : Nat) (u9 : Nat) (u10 : Nat) (th : Int32) : k_M l yMO_thrown wsMO_thrown rm_MO_thrown (dC, dI) vwCl [(cI, .int), (cJ, .long), (cG, .array .long), (cZ, .boolean)] [.ref u0] [(u0, .inr (7, [.int th, .ref u1, .ref u2, .ref u3, .ref u4, .ref u5, .ref u6, .ref u7, .ref u8, .ref u9, .ref u10]))] (some (.int th)) [(u0, .inr (7, [.int th, .ref u1, .ref u2, .ref u3, .ref u4, .ref u5, .ref u6, .ref u7, .ref u8, .ref u9, .ref u10]))] := by
  refine k_of (cc := cMO_thrown) (maxL := 1) (ret := (some .int)) (by decide) rfl (Nat.le_of_ble_eq_true rfl) ?_
  intro p e s m below meth c A ls hx hb hr hlocks hml hown hts hA hP hD hK hF hl hS
  have hown : s.vm.findClass RMO = some m.cls := hown
  have hl : lv_has ls 1 [(0, .ref u0)] := hl
  refine lv_aload_n hx hb dMO_thrown_0 rfl (lv_at hl 0 rfl) ?_
  refine va_get (D := (dC, dI)) (ci := 7) (v := .int th) (C := RMO) (T := TMO) (N := 11) hx hb hts inMO hown hK hP 0 rfl rfl 0 (by decide) (hts _ m_f_MO_44) (fun _ h9 => h9) rfl dMO_thrown_1 ?_
  exact k_iret hx hb hr hlocks hP hK hD hS rfl dMO_thrown_4 ⟨Nat.le_of_ble_eq_true rfl, Nat.le_of_ble_eq_true rfl⟩

abbrev rm_MO_refuse : Room := { frames := 0, cells := 0, slots := 0, locals := 0 }
set_option maxHeartbeats 4000000 in
set_option maxRecDepth 100000 in
theorem k_MO_refuse (l : Launch) (dC : Nat → ClassId) (dI : Nat → Nat → Nat) (cI cJ cG cZ : ClassId) (u0 : Nat) (u1 : Nat) (u2 : Nat) (u3 : Nat) (u4 : Nat) (u5 : Nat) (u6 : Nat) (u7 : Nat) (u8 : Nat) (u9 : Nat) (u10 : Nat) (th : Int32) (g : Int32) : k_M l yMO_refuse wsMO_refuse rm_MO_refuse (dC, dI) vwCl [(cI, .int), (cJ, .long), (cG, .array .long), (cZ, .boolean)] [.ref u0, .int g] [(u0, .inr (7, [.int th, .ref u1, .ref u2, .ref u3, .ref u4, .ref u5, .ref u6, .ref u7, .ref u8, .ref u9, .ref u10]))] (some (.int 0)) [(u0, .inr (7, [.int g, .ref u1, .ref u2, .ref u3, .ref u4, .ref u5, .ref u6, .ref u7, .ref u8, .ref u9, .ref u10]))] := by
  refine k_of (cc := cMO_refuse) (maxL := 2) (ret := (some .int)) (by decide) rfl (Nat.le_of_ble_eq_true rfl) ?_
  intro p e s m below meth c A ls hx hb hr hlocks hml hown hts hA hP hD hK hF hl hS
  have hown : s.vm.findClass RMO = some m.cls := hown
  have hl : lv_has ls 2 [(0, .ref u0), (1, .int g)] := hl
  refine lv_aload_n hx hb dMO_refuse_0 rfl (lv_at hl 0 rfl) ?_
  refine lv_iload_n hx hb dMO_refuse_1 rfl (lv_at hl 1 rfl) ?_
  refine va_put (D := (dC, dI)) (ci := 7) (v := .int g) (ty := .int) (C := RMO) (T := TMO) (N := 11) hx hb hts inMO tyMO tyMO_ok nmMO hown hK hP hD hS 0 rfl rfl 0 (by decide) (hts _ m_f_MO_44) (fun _ h9 => h9) rfl (by decide +kernel) rfl rfl (Nat.le_of_ble_eq_true rfl) dMO_refuse_2 (fun H locs hP hD hS => ?_)
  have hP : va_P (dC, dI) vwCl [(u0, .inr (7, [.int g, .ref u1, .ref u2, .ref u3, .ref u4, .ref u5, .ref u6, .ref u7, .ref u8, .ref u9, .ref u10]))] H := hP
  have hD : va_D A [(u0, .inr (7, [.int g, .ref u1, .ref u2, .ref u3, .ref u4, .ref u5, .ref u6, .ref u7, .ref u8, .ref u9, .ref u10]))] := hD
  refine lv_iconst (v := 0) hx hb dMO_refuse_5 (by decide) ?_
  exact k_iret hx hb hr hlocks hP hK hD hS rfl dMO_refuse_6 ⟨Nat.le_of_ble_eq_true rfl, Nat.le_of_ble_eq_true rfl⟩

abbrev rm_MO_fits : Room := { frames := 1, cells := 0, slots := 0, locals := 25 }
set_option maxHeartbeats 4000000 in
set_option maxRecDepth 100000 in
theorem k_MO_fits (l : Launch) (dC : Nat → ClassId) (dI : Nat → Nat → Nat) (cI cJ cG cZ : ClassId) (k : Nat) (v : Int64) (hk : k < 4) : k_M l yMO_fits wsMO_fits rm_MO_fits (dC, dI) vwCl [(cI, .int), (cJ, .long), (cG, .array .long), (cZ, .boolean)] [.int (nI k), .long v] [] (some (.int (f_can k v))) [] := by
  rcases (show k = 0 ∨ k = 1 ∨ k = 2 ∨ k = 3 by omega) with rfl | rfl | rfl | rfl
  · refine k_of (cc := cMO_fits) (maxL := 3) (ret := (some .boolean)) (by decide) rfl (Nat.le_of_ble_eq_true rfl) ?_
    intro p e s m below meth c A ls hx hb hr hlocks hml hown hts hA hP hD hK hF hl hS
    have hown : s.vm.findClass RMO = some m.cls := hown
    have hl : lv_has ls 3 [(0, .int (nI 0)), (1, .long v)] := hl
    refine lv_iload_n hx hb dMO_fits_0 rfl (lv_at hl 0 rfl) ?_
    refine lv_if_ne (tgt := 17) hx hb dMO_fits_1 (by decide) (fun c_1 => ?_) (fun c_1 => ?_)
    · exact absurd (show nI 0 = 0 by decide) c_1
    · refine lv_lload_n hx hb dMO_fits_4 rfl (lv_at hl 1 rfl) ?_
      refine lv_ldc2 (v := 32) hx hb hown (hts _ m_k_MO_48) dMO_fits_5 ?_
      refine lv_ldc2 (v := 126) hx hb hown (hts _ m_k_MO_50) dMO_fits_8 ?_
      refine k_S (wr := []) (W1 := []) (st1 := [.int (f_in v 32 126)]) ⟨hx, hb, hml, hown, hts⟩ (k_MO_in l dC dI cI cJ cG cZ v 32 126) (va_cwS 3 hts (k_gS m_l_MO_52 m_st_MO_in m_in_MO m_c_MO_in) rfl rfl rfl (by decide +kernel) ⟨Nat.le_of_ble_eq_true rfl, Nat.le_of_ble_eq_true rfl⟩) hK hF hP hD hS hA [] [] [] rfl rfl (by decide) (by decide) (by decide) rfl (by decide) rfl hl.1 rfl (Nat.le_of_ble_eq_true rfl) dMO_fits_11 ⟨Nat.le_of_ble_eq_true rfl, Nat.le_of_ble_eq_true rfl⟩ rfl (fun H locs hP hD hS => ?_)
      refine lv_goto (tgt := 59) hx hb dMO_fits_14 (by decide) ?_
      exact k_zret hx hb hr hlocks (f_narz (f_in01 _ _ _)) hP hK hD hS rfl dMO_fits_59 ⟨Nat.le_of_ble_eq_true rfl, Nat.le_of_ble_eq_true rfl⟩
  · refine k_of (cc := cMO_fits) (maxL := 3) (ret := (some .boolean)) (by decide) rfl (Nat.le_of_ble_eq_true rfl) ?_
    intro p e s m below meth c A ls hx hb hr hlocks hml hown hts hA hP hD hK hF hl hS
    have hown : s.vm.findClass RMO = some m.cls := hown
    have hl : lv_has ls 3 [(0, .int (nI 1)), (1, .long v)] := hl
    refine lv_iload_n hx hb dMO_fits_0 rfl (lv_at hl 0 rfl) ?_
    refine lv_if_ne (tgt := 17) hx hb dMO_fits_1 (by decide) (fun c_1 => ?_) (fun c_1 => ?_)
    · refine lv_iload_n hx hb dMO_fits_17 rfl (lv_at hl 0 rfl) ?_
      refine lv_iconst (v := 1) hx hb dMO_fits_18 (by decide) ?_
      refine lv_icmp_ne (tgt := 33) hx hb dMO_fits_19 (by decide) (fun c_2 => ?_) (fun c_2 => ?_)
      · exact absurd (show nI 1 = 1 by decide) c_2
      · refine lv_lload_n hx hb dMO_fits_22 rfl (lv_at hl 1 rfl) ?_
        refine lv_lconst (v := 0) hx hb dMO_fits_23 (by decide) ?_
        refine lv_ldc2 (v := 255) hx hb hown (hts _ m_k_MO_56) dMO_fits_24 ?_
        refine k_S (wr := []) (W1 := []) (st1 := [.int (f_in v 0 255)]) ⟨hx, hb, hml, hown, hts⟩ (k_MO_in l dC dI cI cJ cG cZ v 0 255) (va_cwS 3 hts (k_gS m_l_MO_52 m_st_MO_in m_in_MO m_c_MO_in) rfl rfl rfl (by decide +kernel) ⟨Nat.le_of_ble_eq_true rfl, Nat.le_of_ble_eq_true rfl⟩) hK hF hP hD hS hA [] [] [] rfl rfl (by decide) (by decide) (by decide) rfl (by decide) rfl hl.1 rfl (Nat.le_of_ble_eq_true rfl) dMO_fits_27 ⟨Nat.le_of_ble_eq_true rfl, Nat.le_of_ble_eq_true rfl⟩ rfl (fun H locs hP hD hS => ?_)
        refine lv_goto (tgt := 59) hx hb dMO_fits_30 (by decide) ?_
        exact k_zret hx hb hr hlocks (f_narz (f_in01 _ _ _)) hP hK hD hS rfl dMO_fits_59 ⟨Nat.le_of_ble_eq_true rfl, Nat.le_of_ble_eq_true rfl⟩
    · exact absurd c_1 (show ¬ nI 1 = 0 by decide)
  · refine k_of (cc := cMO_fits) (maxL := 3) (ret := (some .boolean)) (by decide) rfl (Nat.le_of_ble_eq_true rfl) ?_
    intro p e s m below meth c A ls hx hb hr hlocks hml hown hts hA hP hD hK hF hl hS
    have hown : s.vm.findClass RMO = some m.cls := hown
    have hl : lv_has ls 3 [(0, .int (nI 2)), (1, .long v)] := hl
    refine lv_iload_n hx hb dMO_fits_0 rfl (lv_at hl 0 rfl) ?_
    refine lv_if_ne (tgt := 17) hx hb dMO_fits_1 (by decide) (fun c_1 => ?_) (fun c_1 => ?_)
    · refine lv_iload_n hx hb dMO_fits_17 rfl (lv_at hl 0 rfl) ?_
      refine lv_iconst (v := 1) hx hb dMO_fits_18 (by decide) ?_
      refine lv_icmp_ne (tgt := 33) hx hb dMO_fits_19 (by decide) (fun c_2 => ?_) (fun c_2 => ?_)
      · refine lv_iload_n hx hb dMO_fits_33 rfl (lv_at hl 0 rfl) ?_
        refine lv_iconst (v := 2) hx hb dMO_fits_34 (by decide) ?_
        refine lv_icmp_eq (tgt := 54) hx hb dMO_fits_35 (by decide) (fun c_3 => ?_) (fun c_3 => ?_)
        · refine lv_iconst (v := 1) hx hb dMO_fits_54 (by decide) ?_
          refine lv_goto (tgt := 59) hx hb dMO_fits_55 (by decide) ?_
          exact k_zret hx hb hr hlocks rfl hP hK hD hS rfl dMO_fits_59 ⟨Nat.le_of_ble_eq_true rfl, Nat.le_of_ble_eq_true rfl⟩
        · exact absurd (show nI 2 = 2 by decide) c_3
      · exact absurd c_2 (show ¬ nI 2 = 1 by decide)
    · exact absurd c_1 (show ¬ nI 2 = 0 by decide)
  · refine k_of (cc := cMO_fits) (maxL := 3) (ret := (some .boolean)) (by decide) rfl (Nat.le_of_ble_eq_true rfl) ?_
    intro p e s m below meth c A ls hx hb hr hlocks hml hown hts hA hP hD hK hF hl hS
    have hown : s.vm.findClass RMO = some m.cls := hown
    have hl : lv_has ls 3 [(0, .int (nI 3)), (1, .long v)] := hl
    refine lv_iload_n hx hb dMO_fits_0 rfl (lv_at hl 0 rfl) ?_
    refine lv_if_ne (tgt := 17) hx hb dMO_fits_1 (by decide) (fun c_1 => ?_) (fun c_1 => ?_)
    · refine lv_iload_n hx hb dMO_fits_17 rfl (lv_at hl 0 rfl) ?_
      refine lv_iconst (v := 1) hx hb dMO_fits_18 (by decide) ?_
      refine lv_icmp_ne (tgt := 33) hx hb dMO_fits_19 (by decide) (fun c_2 => ?_) (fun c_2 => ?_)
      · refine lv_iload_n hx hb dMO_fits_33 rfl (lv_at hl 0 rfl) ?_
        refine lv_iconst (v := 2) hx hb dMO_fits_34 (by decide) ?_
        refine lv_icmp_eq (tgt := 54) hx hb dMO_fits_35 (by decide) (fun c_3 => ?_) (fun c_3 => ?_)
        · exact absurd c_3 (show ¬ nI 3 = 2 by decide)
        · refine lv_iload_n hx hb dMO_fits_38 rfl (lv_at hl 0 rfl) ?_
          refine lv_iconst (v := 3) hx hb dMO_fits_39 (by decide) ?_
          refine lv_icmp_ne (tgt := 58) hx hb dMO_fits_40 (by decide) (fun c_4 => ?_) (fun c_4 => ?_)
          · exact absurd (show nI 3 = 3 by decide) c_4
          · refine lv_lload_n hx hb dMO_fits_43 rfl (lv_at hl 1 rfl) ?_
            refine lv_lconst (v := 0) hx hb dMO_fits_44 (by decide) ?_
            refine lv_ldc2 (v := 7) hx hb hown (hts _ m_k_MO_58) dMO_fits_45 ?_
            refine k_S (wr := []) (W1 := []) (st1 := [.int (f_in v 0 7)]) ⟨hx, hb, hml, hown, hts⟩ (k_MO_in l dC dI cI cJ cG cZ v 0 7) (va_cwS 3 hts (k_gS m_l_MO_52 m_st_MO_in m_in_MO m_c_MO_in) rfl rfl rfl (by decide +kernel) ⟨Nat.le_of_ble_eq_true rfl, Nat.le_of_ble_eq_true rfl⟩) hK hF hP hD hS hA [] [] [] rfl rfl (by decide) (by decide) (by decide) rfl (by decide) rfl hl.1 rfl (Nat.le_of_ble_eq_true rfl) dMO_fits_48 ⟨Nat.le_of_ble_eq_true rfl, Nat.le_of_ble_eq_true rfl⟩ rfl (fun H locs hP hD hS => ?_)
            refine lv_if_eq (tgt := 58) hx hb dMO_fits_51 (by decide) (fun c_5 => ?_) (fun c_5 => ?_)
            · refine lv_iconst (v := 0) hx hb dMO_fits_58 (by decide) ?_
              exact k_zret hx hb hr hlocks rfl hP hK hD hS ((f_in7 v).symm.trans c_5).symm dMO_fits_59 ⟨Nat.le_of_ble_eq_true rfl, Nat.le_of_ble_eq_true rfl⟩
            · refine lv_iconst (v := 1) hx hb dMO_fits_54 (by decide) ?_
              refine lv_goto (tgt := 59) hx hb dMO_fits_55 (by decide) ?_
              exact k_zret hx hb hr hlocks rfl hP hK hD hS (f_can31 c_5) dMO_fits_59 ⟨Nat.le_of_ble_eq_true rfl, Nat.le_of_ble_eq_true rfl⟩
      · exact absurd c_2 (show ¬ nI 3 = 1 by decide)
    · exact absurd c_1 (show ¬ nI 3 = 0 by decide)

abbrev rm_MO_isKnown : Room := { frames := 0, cells := 0, slots := 0, locals := 0 }
set_option maxHeartbeats 4000000 in
set_option maxRecDepth 100000 in
theorem k_MO_isKnown (l : Launch) (dC : Nat → ClassId) (dI : Nat → Nat → Nat) (cI cJ cG cZ : ClassId) (u0 : Nat) (u1 : Nat) (u2 : Nat) (u3 : Nat) (u4 : Nat) (u5 : Nat) (u6 : Nat) (u7 : Nat) (u8 : Nat) (u9 : Nat) (u10 : Nat) (th : Int32) (md : Nat → Int32) (dr : Nat → Int32) (kn : Nat → Int64) (mn : Nat → Nat) (k : Nat) (n : Int32) (hmn : ∀ k : Nat, k < 8 → md k = nI (mn k) ∧ mn k ≤ 40) (hkd : ∀ k : Nat, k < 8 → ∀ j : Nat, j < mn k → (dr (40 * k + j) = 0 ↔ f_kb (kn k) j = true)) (hk : k < 8) : k_M l yMO_isKnown wsMO_isKnown rm_MO_isKnown (dC, dI) vwCl [(cI, .int), (cJ, .long), (cG, .array .long), (cZ, .boolean)] [.ref u0, .int (nI k), .int n] [(u0, .inr (7, [.int th, .ref u1, .ref u2, .ref u3, .ref u4, .ref u5, .ref u6, .ref u7, .ref u8, .ref u9, .ref u10])), (u1, .inl (cI, 8, .inl md)), (u2, .inl (cZ, 320, .inl dr))] (some (.int (f_isKnown md kn k n))) [(u0, .inr (7, [.int th, .ref u1, .ref u2, .ref u3, .ref u4, .ref u5, .ref u6, .ref u7, .ref u8, .ref u9, .ref u10])), (u1, .inl (cI, 8, .inl md)), (u2, .inl (cZ, 320, .inl dr))] := by
  rcases f_made (hmn k hk).1 (hmn k hk).2 n with h1 | ⟨h1, h2⟩ | ⟨j, hj, rfl⟩
  · have e1 : f_isKnown md kn k n = 0 := by unfold f_isKnown; rw [if_pos]; unfold f_wasMade; rw [if_pos h1]
    rw [e1]
    refine k_of (cc := cMO_isKnown) (maxL := 3) (ret := (some .boolean)) (by decide) rfl (Nat.le_of_ble_eq_true rfl) ?_
    intro p e s m below meth c A ls hx hb hr hlocks hml hown hts hA hP hD hK hF hl hS
    have hown : s.vm.findClass RMO = some m.cls := hown
    have hl : lv_has ls 3 [(0, .ref u0), (1, .int (nI k)), (2, .int n)] := hl
    refine lv_iload_n hx hb dMO_isKnown_0 rfl (lv_at hl 2 rfl) ?_
    refine lv_iconst (v := 1) hx hb dMO_isKnown_1 (by decide) ?_
    refine lv_icmp_lt (tgt := 54) hx hb dMO_isKnown_2 (by decide) (fun c_1 => ?_) (fun c_1 => ?_)
    · refine lv_iconst (v := 0) hx hb dMO_isKnown_54 (by decide) ?_
      exact k_zret hx hb hr hlocks rfl hP hK hD hS rfl dMO_isKnown_55 ⟨Nat.le_of_ble_eq_true rfl, Nat.le_of_ble_eq_true rfl⟩
    · exact absurd h1 c_1
  · have e1 : f_isKnown md kn k n = 0 := by unfold f_isKnown; rw [if_pos]; unfold f_wasMade; rw [if_neg h1, if_pos h2]
    rw [e1]
    refine k_of (cc := cMO_isKnown) (maxL := 3) (ret := (some .boolean)) (by decide) rfl (Nat.le_of_ble_eq_true rfl) ?_
    intro p e s m below meth c A ls hx hb hr hlocks hml hown hts hA hP hD hK hF hl hS
    have hown : s.vm.findClass RMO = some m.cls := hown
    have hl : lv_has ls 3 [(0, .ref u0), (1, .int (nI k)), (2, .int n)] := hl
    refine lv_iload_n hx hb dMO_isKnown_0 rfl (lv_at hl 2 rfl) ?_
    refine lv_iconst (v := 1) hx hb dMO_isKnown_1 (by decide) ?_
    refine lv_icmp_lt (tgt := 54) hx hb dMO_isKnown_2 (by decide) (fun c_1 => ?_) (fun c_1 => ?_)
    · exact absurd c_1 h1
    · refine lv_iload_n hx hb dMO_isKnown_5 rfl (lv_at hl 2 rfl) ?_
      refine lv_aload_n hx hb dMO_isKnown_6 rfl (lv_at hl 0 rfl) ?_
      refine va_get (D := (dC, dI)) (ci := 7) (v := .ref u1) (C := RMO) (T := TMO) (N := 11) hx hb hts inMO hown hK hP 0 rfl rfl 1 (by decide) (hts _ m_f_MO_7) (fun _ h9 => h9) rfl dMO_isKnown_7 ?_
      refine lv_iload_n hx hb dMO_isKnown_10 rfl (lv_at hl 1 rfl) ?_
      refine k_ild (v := md k) hx hb hK hP 1 0 rfl rfl (j := k) rfl hk (by decide) rfl dMO_isKnown_11 ?_
      refine lv_icmp_gt (tgt := 54) hx hb dMO_isKnown_12 (by decide) (fun c_2 => ?_) (fun c_2 => ?_)
      · refine lv_iconst (v := 0) hx hb dMO_isKnown_54 (by decide) ?_
        exact k_zret hx hb hr hlocks rfl hP hK hD hS rfl dMO_isKnown_55 ⟨Nat.le_of_ble_eq_true rfl, Nat.le_of_ble_eq_true rfl⟩
      · exact absurd h2 c_2
  · have b1 := (hmn k hk).2
    have n1 : ¬ nI (j + 1) < 1 := fun h9 => absurd ((nI_ltI (a := j + 1) (b := 1) (by omega) (by decide)).mp h9) (by omega)
    have n2 : ¬ md k < nI (j + 1) := by rw [(hmn k hk).1]; exact fun h9 => absurd ((nI_ltI (by omega) (by omega)).mp h9) (by omega)
    rw [f_isKnown_j (hmn k hk).1 b1 hj]
    refine k_of (cc := cMO_isKnown) (maxL := 3) (ret := (some .boolean)) (by decide) rfl (Nat.le_of_ble_eq_true rfl) ?_
    intro p e s m below meth c A ls hx hb hr hlocks hml hown hts hA hP hD hK hF hl hS
    have hown : s.vm.findClass RMO = some m.cls := hown
    have hl : lv_has ls 3 [(0, .ref u0), (1, .int (nI k)), (2, .int (nI (j + 1)))] := hl
    refine lv_iload_n hx hb dMO_isKnown_0 rfl (lv_at hl 2 rfl) ?_
    refine lv_iconst (v := 1) hx hb dMO_isKnown_1 (by decide) ?_
    refine lv_icmp_lt (tgt := 54) hx hb dMO_isKnown_2 (by decide) (fun c_1 => ?_) (fun c_1 => ?_)
    · exact absurd c_1 n1
    · refine lv_iload_n hx hb dMO_isKnown_5 rfl (lv_at hl 2 rfl) ?_
      refine lv_aload_n hx hb dMO_isKnown_6 rfl (lv_at hl 0 rfl) ?_
      refine va_get (D := (dC, dI)) (ci := 7) (v := .ref u1) (C := RMO) (T := TMO) (N := 11) hx hb hts inMO hown hK hP 0 rfl rfl 1 (by decide) (hts _ m_f_MO_7) (fun _ h9 => h9) rfl dMO_isKnown_7 ?_
      refine lv_iload_n hx hb dMO_isKnown_10 rfl (lv_at hl 1 rfl) ?_
      refine k_ild (v := md k) hx hb hK hP 1 0 rfl rfl (j := k) rfl hk (by decide) rfl dMO_isKnown_11 ?_
      refine lv_icmp_gt (tgt := 54) hx hb dMO_isKnown_12 (by decide) (fun c_2 => ?_) (fun c_2 => ?_)
      · exact absurd c_2 n2
      · refine lv_aload_n hx hb dMO_isKnown_15 rfl (lv_at hl 0 rfl) ?_
        refine va_get (D := (dC, dI)) (ci := 7) (v := .ref u2) (C := RMO) (T := TMO) (N := 11) hx hb hts inMO hown hK hP 0 rfl rfl 2 (by decide) (hts _ m_f_MO_13) (fun _ h9 => h9) rfl dMO_isKnown_16 ?_
        refine lv_bipush (v := 40) hx hb dMO_isKnown_19 (by decide) ?_
        refine lv_iload_n hx hb dMO_isKnown_21 rfl (lv_at hl 1 rfl) ?_
        refine lv_imul hx hb dMO_isKnown_22 ?_
        refine lv_iload_n hx hb dMO_isKnown_23 rfl (lv_at hl 2 rfl) ?_
        refine lv_iconst (v := 1) hx hb dMO_isKnown_24 (by decide) ?_
        refine lv_icmp_lt (tgt := 42) hx hb dMO_isKnown_25 (by decide) (fun c_3 => ?_) (fun c_3 => ?_)
        · exact absurd c_3 n1
        · refine lv_iload_n hx hb dMO_isKnown_28 rfl (lv_at hl 2 rfl) ?_
          refine lv_aload_n hx hb dMO_isKnown_29 rfl (lv_at hl 0 rfl) ?_
          refine va_get (D := (dC, dI)) (ci := 7) (v := .ref u1) (C := RMO) (T := TMO) (N := 11) hx hb hts inMO hown hK hP 0 rfl rfl 1 (by decide) (hts _ m_f_MO_7) (fun _ h9 => h9) rfl dMO_isKnown_30 ?_
          refine lv_iload_n hx hb dMO_isKnown_33 rfl (lv_at hl 1 rfl) ?_
          refine k_ild (v := md k) hx hb hK hP 1 0 rfl rfl (j := k) rfl hk (by decide) rfl dMO_isKnown_34 ?_
          refine lv_icmp_gt (tgt := 42) hx hb dMO_isKnown_35 (by decide) (fun c_4 => ?_) (fun c_4 => ?_)
          · exact absurd c_4 n2
          · refine lv_iload_n hx hb dMO_isKnown_38 rfl (lv_at hl 2 rfl) ?_
            refine lv_goto (tgt := 43) hx hb dMO_isKnown_39 (by decide) ?_
            refine lv_iadd hx hb dMO_isKnown_43 ?_
            refine lv_iconst (v := 1) hx hb dMO_isKnown_44 (by decide) ?_
            refine lv_isub hx hb dMO_isKnown_45 ?_
            refine k_topi (y := nI (40 * k + j)) (f_ixd k j) ?_
            refine k_zld (v := dr (40 * k + j)) hx hb hK hP 2 3 rfl rfl (j := (40 * k + j)) rfl (by omega) (by decide) rfl dMO_isKnown_46 ?_
            refine lv_if_ne (tgt := 54) hx hb dMO_isKnown_47 (by decide) (fun c_5 => ?_) (fun c_5 => ?_)
            · refine lv_iconst (v := 0) hx hb dMO_isKnown_54 (by decide) ?_
              exact k_zret hx hb hr hlocks rfl hP hK hD hS (if_pos (by cases hq : f_kb (kn k) j with | false => rfl | true => exact absurd ((hkd k hk j hj).mpr hq) c_5)).symm dMO_isKnown_55 ⟨Nat.le_of_ble_eq_true rfl, Nat.le_of_ble_eq_true rfl⟩
            · refine lv_iconst (v := 1) hx hb dMO_isKnown_50 (by decide) ?_
              refine lv_goto (tgt := 55) hx hb dMO_isKnown_51 (by decide) ?_
              exact k_zret hx hb hr hlocks rfl hP hK hD hS (if_neg (by rw [(hkd k hk j hj).mp c_5]; decide)).symm dMO_isKnown_55 ⟨Nat.le_of_ble_eq_true rfl, Nat.le_of_ble_eq_true rfl⟩
