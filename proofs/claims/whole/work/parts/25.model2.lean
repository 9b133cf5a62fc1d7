theorem k_cvP {D : va_G} {cl : List vw_C} {W0 W1 : va_W} {H : Heap} (h : W1 = W0) (hP : va_P D cl W0 H) : va_P D cl W1 H := h ▸ hP
theorem k_cvD {A : Nat → Prop} {W0 W1 : va_W} (h : W1 = W0) (hD : va_D A W0) : va_D A W1 := h ▸ hD
def f_shf (lg : Nat → Int64) (B i : Nat) : Nat → Int64 := fun j => if B ≤ j ∧ j + 1 < B + i then lg (j + 1) else lg j
def f_wr (lg : Nat → Int64) (z : Nat) (v : Int64) (B : Nat) : Nat → Int64 := if z = 64 then vp_updL (f_shf lg B 64) (B + 63) v else vp_updL lg (B + z) v
theorem f_shf1 (lg : Nat → Int64) (B : Nat) : f_shf lg B 1 = lg := by
  funext j
  unfold f_shf
  rw [if_neg (by omega)]
theorem f_shfS {lg : Nat → Int64} {B i : Nat} (h : 1 ≤ i) : f_shf lg B (i + 1) = vp_updL (f_shf lg B i) (B + (i - 1)) (f_shf lg B i (B + i)) := by
  funext j
  unfold vp_updL
  by_cases h1 : j = B + (i - 1)
  · rw [if_pos h1]
    unfold f_shf
    rw [if_pos (by omega), if_neg (by omega), h1, show B + (i - 1) + 1 = B + i by omega]
  · rw [if_neg h1]
    unfold f_shf
    by_cases h2 : B ≤ j ∧ j + 1 < B + i
    · rw [if_pos h2, if_pos (by omega)]
    · rw [if_neg h2, if_neg (by omega)]
theorem f_ixm {B i : Nat} (h : 1 ≤ i) : nI B + nI i - 1 = nI (B + (i - 1)) := by
  rw [nI_add]
  show nI (B + i) - nI 1 = _
  rw [pk_sub (by omega), show B + i - 1 = B + (i - 1) by omega]
theorem f_8a (j : Nat) : 8 * 0 + nI j = nI j := by rw [show (8 : Int32) * 0 = nI 0 by decide, nI_add, Nat.zero_add]
theorem f_8b (j : Nat) : 8 * 1 + nI j = nI (8 + j) := by rw [show (8 : Int32) * 1 = nI 8 by decide, nI_add]
theorem f_loA {z xz : Nat} (h : z ≠ 64) (h1 : z ≤ 64) : f_lo (f_js z) xz = upd (f_lo z xz) 0 (nI z + 1) := by
  funext i
  simp only [f_lo, f_js, upd]
  by_cases h2 : i = 0
  · simp [h2, show z < 64 by omega, nI_1]
  · simp [h2]
theorem f_loB {z xz : Nat} (h : xz ≠ 64) (h1 : xz ≤ 64) : f_lo z (f_js xz) = upd (f_lo z xz) 1 (nI xz + 1) := by
  funext i
  simp only [f_lo, f_js, upd]
  by_cases h2 : i = 0
  · simp [h2]
  · by_cases h3 : i = 1
    · simp [h3, show xz < 64 by omega, nI_1]
    · simp [h2, h3]
theorem f_loA' {xz : Nat} : f_lo (f_js 64) xz = upd (upd (f_lo 64 xz) 0 (nI 63)) 0 (nI 63 + 1) := by
  funext i
  simp only [f_lo, f_js, upd]
  by_cases h2 : i = 0
  · simp [h2, nI_1]
  · simp [h2]
theorem f_loB' {z : Nat} : f_lo z (f_js 64) = upd (upd (f_lo z 64) 1 (nI 63)) 1 (nI 63 + 1) := by
  funext i
  simp only [f_lo, f_js, upd]
  by_cases h2 : i = 0
  · simp [h2]
  · by_cases h3 : i = 1
    · simp [h3, nI_1]
    · simp [h2, h3]
theorem f_wm {md : Nat → Int32} {k : Nat} {n : Int32} (h1 : ¬ n < 1) (h2 : n ≤ md k) : ¬ f_wasMade md k n = 0 := by
  unfold f_wasMade
  rw [if_neg h1, if_neg (Int32.not_lt.mpr h2)]
  decide
theorem f_wm1 {md : Nat → Int32} {k : Nat} {n : Int32} (h : ¬ f_wasMade md k n = 0) : ¬ n < 1 ∧ n ≤ md k := by
  unfold f_wasMade at h
  by_cases h1 : n < 1
  · rw [if_pos h1] at h; exact absurd rfl h
  · rw [if_neg h1] at h
    by_cases h2 : md k < n
    · rw [if_pos h2] at h; exact absurd rfl h
    · exact ⟨h1, Int32.not_lt.mp h2⟩
theorem f_kn0 {md : Nat → Int32} {kn : Nat → Int64} {k : Nat} {n : Int32} (h : f_wasMade md k n = 0) : f_isKnown md kn k n = 0 := if_pos h
theorem f_tellT (tf : Nat → Int64) (a b d : Int64) : vp_updL (vp_updL (vp_updL (vp_updL tf 4 (tf 4 + 1)) 5 a) 6 b) 7 d = vp_updL (vp_updL (vp_updL (vp_updL tf 5 a) 6 b) 7 d) 4 (vp_updL (vp_updL (vp_updL tf 5 a) 6 b) 7 d 4 + 1) := by
  funext i
  unfold vp_updL
  by_cases h4 : i = 4
  · subst h4; rfl
  · by_cases h5 : i = 5
    · subst h5; rfl
    · by_cases h6 : i = 6
      · subst h6; rfl
      · by_cases h7 : i = 7
        · subst h7; rfl
        · simp [h4, h5, h6, h7]
abbrev rm_MO_writes : Room := { frames := 0, cells := 0, slots := 0, locals := 0 }
set_option maxHeartbeats 4000000 in
set_option maxRecDepth 100000 in
theorem k_MO_writes_0 (l : Launch) (dC : Nat → ClassId) (dI : Nat → Nat → Nat) (cI cJ cG cZ : ClassId) (u0 : Nat) (u1 : Nat) (u2 : Nat) (u3 : Nat) (u4 : Nat) (u5 : Nat) (u6 : Nat) (u7 : Nat) (u8 : Nat) (u9 : Nat) (u10 : Nat) (th : Int32) (lg : Nat → Int64) (tf : Nat → Int64) (xtf : Nat → Int64) (z : Nat) (xz : Nat) (t : Nat) (v : Int64) (hz : z ≤ 64) (ht : t < 8) : k_M l yMO_writes wsMO_writes rm_MO_writes (dC, dI) vwCl [(cI, .int), (cJ, .long), (cG, .array .long), (cZ, .boolean)] [.ref u0, .int 0, .long v, .int (nI t)] [(u0, .inr (7, [.int th, .ref u1, .ref u2, .ref u3, .ref u4, .ref u5, .ref u6, .ref u7, .ref u8, .ref u9, .ref u10])), (u6, .inl (cI, 2, .inl (f_lo z xz))), (u7, .inl (cJ, 128, .inr (.inl lg))), (u8, .inl (cJ, 16, .inr (.inl (f_twoL 8 tf xtf))))] (some (.long v)) [(u0, .inr (7, [.int th, .ref u1, .ref u2, .ref u3, .ref u4, .ref u5, .ref u6, .ref u7, .ref u8, .ref u9, .ref u10])), (u6, .inl (cI, 2, .inl (f_lo (f_js z) xz))), (u7, .inl (cJ, 128, .inr (.inl (f_wr lg z v 0)))), (u8, .inl (cJ, 16, .inr (.inl (f_twoL 8 (vp_updL tf t (tf t + 1)) xtf))))] := by
  by_cases h0 : z = 64
  · subst h0
    rw [show f_lo (f_js 64) xz = upd (upd (f_lo 64 xz) 0 (nI 63)) 0 (nI 63 + 1) from f_loA', show f_wr lg 64 v 0 = vp_updL (f_shf lg 0 64) (0 + 63) v from if_pos rfl]
    rw [show f_twoL 8 (vp_updL tf t (tf t + 1)) xtf = vp_updL (f_twoL 8 tf xtf) (t) (f_twoL 8 tf xtf (t) + 1) by rw [f_uL0 ht, f_tL0 ht]]
    refine k_of (cc := cMO_writes) (maxL := 7) (ret := (some .long)) (by decide) rfl (Nat.le_of_ble_eq_true rfl) ?_
    intro p e s m below meth c A ls hx hb hr hlocks hml hown hts hA hP hD hK hF hl hS
    have hown : s.vm.findClass RMO = some m.cls := hown
    have hl : lv_has ls 7 [(0, .ref u0), (1, .int 0), (2, .long v), (4, .int (nI t))] := hl
    refine lv_bipush (v := 64) hx hb dMO_writes_0 (by decide) ?_
    refine lv_iload_n hx hb dMO_writes_2 rfl (lv_at hl 1 rfl) ?_
    refine lv_imul hx hb dMO_writes_3 ?_
    refine k_topi (y := nI 0) (show (64 : Int32) * 0 = nI 0 by decide) ?_
    refine lv_istore (lv' := [(5, .int (nI 0)), (0, .ref u0), (1, .int 0), (2, .long v), (4, .int (nI t))]) hx hb dMO_writes_4 hl (by decide) rfl (fun ls hl => ?_)
    refine lv_aload_n hx hb dMO_writes_6 rfl (lv_at hl 1 rfl) ?_
    refine va_get (D := (dC, dI)) (ci := 7) (v := .ref u6) (C := RMO) (T := TMO) (N := 11) hx hb hts inMO hown hK hP 0 rfl rfl 6 (by decide) (hts _ m_f_MO_27) (fun _ h9 => h9) rfl dMO_writes_7 ?_
    refine lv_iload_n hx hb dMO_writes_10 rfl (lv_at hl 2 rfl) ?_
    refine k_ild (v := (f_lo 64 xz) 0) hx hb hK hP 1 0 rfl rfl (j := 0) (by decide) (by decide) (by decide) rfl dMO_writes_11 ?_
    refine k_topi (y := nI 64) rfl ?_
    refine lv_bipush (v := 64) hx hb dMO_writes_12 (by decide) ?_
    refine lv_icmp_ne (tgt := 65) hx hb dMO_writes_14 (by decide) (fun c_1 => ?_) (fun c_1 => ?_)
    · exact absurd (show nI 64 = 64 by decide) c_1
    · refine lv_iconst (v := 1) hx hb dMO_writes_17 (by decide) ?_
      refine lv_istore (lv' := [(6, .int 1), (5, .int (nI 0)), (0, .ref u0), (1, .int 0), (2, .long v), (4, .int (nI t))]) hx hb dMO_writes_18 hl (by decide) rfl (fun ls hl => ?_)
      have hl : lv_has ls 7 [(6, .int (nI 1)), (5, .int (nI 0)), (0, .ref u0), (1, .int 0), (2, .long v), (4, .int (nI t))] := hl
      have hP := k_cvP (W1 := [(u0, .inr (7, [.int th, .ref u1, .ref u2, .ref u3, .ref u4, .ref u5, .ref u6, .ref u7, .ref u8, .ref u9, .ref u10])), (u6, .inl (cI, 2, .inl (f_lo 64 xz))), (u7, .inl (cJ, 128, .inr (.inl (f_shf lg 0 1)))), (u8, .inl (cJ, 16, .inr (.inl (f_twoL 8 tf xtf))))]) (by rw [show f_shf lg 0 1 = lg from f_shf1 lg 0]) hP
      have hD := k_cvD (W1 := [(u0, .inr (7, [.int th, .ref u1, .ref u2, .ref u3, .ref u4, .ref u5, .ref u6, .ref u7, .ref u8, .ref u9, .ref u10])), (u6, .inl (cI, 2, .inl (f_lo 64 xz))), (u7, .inl (cJ, 128, .inr (.inl (f_shf lg 0 1)))), (u8, .inl (cJ, 16, .inr (.inl (f_twoL 8 tf xtf))))]) (by rw [show f_shf lg 0 1 = lg from f_shf1 lg 0]) hD
      have lp : ∀ (n i : Nat), 64 < i + n → i ≤ 64 → (1 ≤ i) → ∀ (H : Heap) (locs : List Loc), va_P (dC, dI) vwCl [(u0, .inr (7, [.int th, .ref u1, .ref u2, .ref u3, .ref u4, .ref u5, .ref u6, .ref u7, .ref u8, .ref u9, .ref u10])), (u6, .inl (cI, 2, .inl (f_lo 64 xz))), (u7, .inl (cJ, 128, .inr (.inl (f_shf lg 0 i)))), (u8, .inl (cJ, 16, .inr (.inl (f_twoL 8 tf xtf))))] H → va_D A [(u0, .inr (7, [.int th, .ref u1, .ref u2, .ref u3, .ref u4, .ref u5, .ref u6, .ref u7, .ref u8, .ref u9, .ref u10])), (u6, .inl (cI, 2, .inl (f_lo 64 xz))), (u7, .inl (cJ, 128, .inr (.inl (f_shf lg 0 i)))), (u8, .inl (cJ, 16, .inr (.inl (f_twoL 8 tf xtf))))] → va_S A s.heap H locs → ∀ (ls : Array Slot), lv_has ls 7 [(6, .int (nI i)), (5, .int (nI 0)), (0, .ref u0), (1, .int 0), (2, .long v), (4, .int (nI t))] → W p l e rm_MO_writes s m ([.ref u0, .int 0, .long v, .int (nI t)] : List Value).toArray below meth c H locs 0 0 (MQ below (k_Q (dC, dI) vwCl [(cI, .int), (cJ, .long), (cG, .array .long), (cZ, .boolean)] (some (.long v)) [(u0, .inr (7, [.int th, .ref u1, .ref u2, .ref u3, .ref u4, .ref u5, .ref u6, .ref u7, .ref u8, .ref u9, .ref u10])), (u6, .inl (cI, 2, .inl (upd (upd (f_lo 64 xz) 0 (nI 63)) 0 (nI 63 + 1)))), (u7, .inl (cJ, 128, .inr (.inl (vp_updL (f_shf lg 0 64) (0 + 63) v)))), (u8, .inl (cJ, 16, .inr (.inl (vp_updL (f_twoL 8 tf xtf) (t) (f_twoL 8 tf xtf (t) + 1)))))] A) ([.ref u0, .int 0, .long v, .int (nI t)] : List Value).toArray s rm_MO_writes.cells rm_MO_writes.slots A) (F0 m 20 ls []) := by
        intro n
        induction n with
        | zero => intro i h8 h9; exact absurd h8 (by omega)
        | succ n ih =>
          intro i hn hle hinv H locs hP hD hS ls hl
          refine lv_iload hx hb dMO_writes_20 (lv_at hl 0 rfl) ?_
          refine lv_bipush (v := 64) hx hb dMO_writes_22 (by decide) ?_
          refine lv_icmp_ge (tgt := 55) hx hb dMO_writes_24 (by decide) (fun c_2 => ?_) (fun c_2 => ?_)
          · have hi : i = 64 := by have h9 := (nI_leI (a := 64) (b := i) (by decide) (by omega)).mp c_2; omega
            have hP := k_cvP (W1 := [(u0, .inr (7, [.int th, .ref u1, .ref u2, .ref u3, .ref u4, .ref u5, .ref u6, .ref u7, .ref u8, .ref u9, .ref u10])), (u6, .inl (cI, 2, .inl (f_lo 64 xz))), (u7, .inl (cJ, 128, .inr (.inl (f_shf lg 0 64)))), (u8, .inl (cJ, 16, .inr (.inl (f_twoL 8 tf xtf))))]) (by rw [show f_shf lg 0 64 = f_shf lg 0 i by rw [hi]]) hP
            have hD := k_cvD (W1 := [(u0, .inr (7, [.int th, .ref u1, .ref u2, .ref u3, .ref u4, .ref u5, .ref u6, .ref u7, .ref u8, .ref u9, .ref u10])), (u6, .inl (cI, 2, .inl (f_lo 64 xz))), (u7, .inl (cJ, 128, .inr (.inl (f_shf lg 0 64)))), (u8, .inl (cJ, 16, .inr (.inl (f_twoL 8 tf xtf))))]) (by rw [show f_shf lg 0 64 = f_shf lg 0 i by rw [hi]]) hD
            refine lv_aload_n hx hb dMO_writes_55 rfl (lv_at hl 2 rfl) ?_
            refine va_get (D := (dC, dI)) (ci := 7) (v := .ref u6) (C := RMO) (T := TMO) (N := 11) hx hb hts inMO hown hK hP 0 rfl rfl 6 (by decide) (hts _ m_f_MO_27) (fun _ h9 => h9) rfl dMO_writes_56 ?_
            refine lv_iload_n hx hb dMO_writes_59 rfl (lv_at hl 3 rfl) ?_
            refine lv_dup2_11 hx hb dMO_writes_60 rfl rfl ?_
            refine k_ild (v := (f_lo 64 xz) 0) hx hb hK hP 1 0 rfl rfl (j := 0) (by decide) (by decide) (by decide) rfl dMO_writes_61 ?_
            refine k_topi (y := nI 64) rfl ?_
            refine lv_iconst (v := 1) hx hb dMO_writes_62 (by decide) ?_
            refine lv_isub hx hb dMO_writes_63 ?_
            refine k_topi (y := nI 63) (show nI 64 - 1 = nI 63 by decide) ?_
            refine k_ist (W1 := [(u0, .inr (7, [.int th, .ref u1, .ref u2, .ref u3, .ref u4, .ref u5, .ref u6, .ref u7, .ref u8, .ref u9, .ref u10])), (u6, .inl (cI, 2, .inl (upd (f_lo 64 xz) 0 (nI 63)))), (u7, .inl (cJ, 128, .inr (.inl (f_shf lg 0 64)))), (u8, .inl (cJ, 16, .inr (.inl (f_twoL 8 tf xtf))))]) hx hb hK hP hD hS 1 0 rfl rfl (j := 0) (by decide) (by decide) (by decide) rfl dMO_writes_64 (fun H locs hP hD hS => ?_)
            refine lv_aload_n hx hb dMO_writes_65 rfl (lv_at hl 2 rfl) ?_
            refine va_get (D := (dC, dI)) (ci := 7) (v := .ref u7) (C := RMO) (T := TMO) (N := 11) hx hb hts inMO hown hK hP 0 rfl rfl 7 (by decide) (hts _ m_f_MO_30) (fun _ h9 => h9) rfl dMO_writes_66 ?_
            refine lv_iload hx hb dMO_writes_69 (lv_at hl 1 rfl) ?_
            refine lv_aload_n hx hb dMO_writes_71 rfl (lv_at hl 2 rfl) ?_
            refine va_get (D := (dC, dI)) (ci := 7) (v := .ref u6) (C := RMO) (T := TMO) (N := 11) hx hb hts inMO hown hK hP 0 rfl rfl 6 (by decide) (hts _ m_f_MO_27) (fun _ h9 => h9) rfl dMO_writes_72 ?_
            refine lv_iload_n hx hb dMO_writes_75 rfl (lv_at hl 3 rfl) ?_
            refine k_ild (v := (nI 63)) hx hb hK hP 1 0 rfl rfl (j := 0) (by decide) (by decide) (by decide) pk_us dMO_writes_76 ?_
            refine k_topi (y := nI 63) rfl ?_
            refine lv_iadd hx hb dMO_writes_77 ?_
            refine lv_lload_n hx hb dMO_writes_78 rfl (lv_at hl 4 rfl) ?_
            refine k_lst (W1 := [(u0, .inr (7, [.int th, .ref u1, .ref u2, .ref u3, .ref u4, .ref u5, .ref u6, .ref u7, .ref u8, .ref u9, .ref u10])), (u6, .inl (cI, 2, .inl (upd (f_lo 64 xz) 0 (nI 63)))), (u7, .inl (cJ, 128, .inr (.inl (vp_updL (f_shf lg 0 64) (0 + 63) v)))), (u8, .inl (cJ, 16, .inr (.inl (f_twoL 8 tf xtf))))]) hx hb hK hP hD hS 2 1 rfl rfl (j := (0 + 63)) (nI_add 0 63) (by decide) (by decide) rfl dMO_writes_79 (fun H locs hP hD hS => ?_)
            refine lv_aload_n hx hb dMO_writes_80 rfl (lv_at hl 2 rfl) ?_
            refine va_get (D := (dC, dI)) (ci := 7) (v := .ref u6) (C := RMO) (T := TMO) (N := 11) hx hb hts inMO hown hK hP 0 rfl rfl 6 (by decide) (hts _ m_f_MO_27) (fun _ h9 => h9) rfl dMO_writes_81 ?_
            refine lv_iload_n hx hb dMO_writes_84 rfl (lv_at hl 3 rfl) ?_
            refine lv_dup2_11 hx hb dMO_writes_85 rfl rfl ?_
            refine k_ild (v := (nI 63)) hx hb hK hP 1 0 rfl rfl (j := 0) (by decide) (by decide) (by decide) pk_us dMO_writes_86 ?_
            refine k_topi (y := nI 63) rfl ?_
            refine lv_iconst (v := 1) hx hb dMO_writes_87 (by decide) ?_
            refine lv_iadd hx hb dMO_writes_88 ?_
            refine k_ist (W1 := [(u0, .inr (7, [.int th, .ref u1, .ref u2, .ref u3, .ref u4, .ref u5, .ref u6, .ref u7, .ref u8, .ref u9, .ref u10])), (u6, .inl (cI, 2, .inl (upd (upd (f_lo 64 xz) 0 (nI 63)) 0 ((nI 63) + 1)))), (u7, .inl (cJ, 128, .inr (.inl (vp_updL (f_shf lg 0 64) (0 + 63) v)))), (u8, .inl (cJ, 16, .inr (.inl (f_twoL 8 tf xtf))))]) hx hb hK hP hD hS 1 0 rfl rfl (j := 0) (by decide) (by decide) (by decide) rfl dMO_writes_89 (fun H locs hP hD hS => ?_)
            refine lv_aload_n hx hb dMO_writes_90 rfl (lv_at hl 2 rfl) ?_
            refine va_get (D := (dC, dI)) (ci := 7) (v := .ref u8) (C := RMO) (T := TMO) (N := 11) hx hb hts inMO hown hK hP 0 rfl rfl 8 (by decide) (hts _ m_f_MO_33) (fun _ h9 => h9) rfl dMO_writes_91 ?_
            refine lv_bipush (v := 8) hx hb dMO_writes_94 (by decide) ?_
            refine lv_iload_n hx hb dMO_writes_96 rfl (lv_at hl 3 rfl) ?_
            refine lv_imul hx hb dMO_writes_97 ?_
            refine lv_iload hx hb dMO_writes_98 (lv_at hl 5 rfl) ?_
            refine lv_iadd hx hb dMO_writes_100 ?_
            refine lv_dup2_11 hx hb dMO_writes_101 rfl rfl ?_
            refine k_lld (v := (f_twoL 8 tf xtf) t) hx hb hK hP 3 1 rfl rfl (j := t) (f_8a t) (by omega) (by decide) rfl dMO_writes_102 ?_
            refine lv_lconst (v := 1) hx hb dMO_writes_103 (by decide) ?_
            refine lv_ladd hx hb dMO_writes_104 ?_
            refine k_lst (W1 := [(u0, .inr (7, [.int th, .ref u1, .ref u2, .ref u3, .ref u4, .ref u5, .ref u6, .ref u7, .ref u8, .ref u9, .ref u10])), (u6, .inl (cI, 2, .inl (upd (upd (f_lo 64 xz) 0 (nI 63)) 0 ((nI 63) + 1)))), (u7, .inl (cJ, 128, .inr (.inl (vp_updL (f_shf lg 0 64) (0 + 63) v)))), (u8, .inl (cJ, 16, .inr (.inl (vp_updL (f_twoL 8 tf xtf) t (((f_twoL 8 tf xtf) t) + 1)))))]) hx hb hK hP hD hS 3 1 rfl rfl (j := t) (f_8a t) (by omega) (by decide) rfl dMO_writes_105 (fun H locs hP hD hS => ?_)
            refine lv_lload_n hx hb dMO_writes_106 rfl (lv_at hl 4 rfl) ?_
            exact k_lret hx hb hr hlocks hP hK hD hS rfl dMO_writes_107 ⟨Nat.le_of_ble_eq_true rfl, Nat.le_of_ble_eq_true rfl⟩
          · have hlt : i < 64 := by rcases Nat.lt_or_ge i 64 with q9 | q9; exact q9; exact absurd ((n_le (n := 64) rfl (by decide) (by omega)).mpr q9) c_2
            refine lv_aload_n hx hb dMO_writes_27 rfl (lv_at hl 2 rfl) ?_
            refine va_get (D := (dC, dI)) (ci := 7) (v := .ref u7) (C := RMO) (T := TMO) (N := 11) hx hb hts inMO hown hK hP 0 rfl rfl 7 (by decide) (hts _ m_f_MO_30) (fun _ h9 => h9) rfl dMO_writes_28 ?_
            refine lv_iload hx hb dMO_writes_31 (lv_at hl 1 rfl) ?_
            refine lv_iload hx hb dMO_writes_33 (lv_at hl 0 rfl) ?_
            refine lv_iadd hx hb dMO_writes_35 ?_
            refine lv_iconst (v := 1) hx hb dMO_writes_36 (by decide) ?_
            refine lv_isub hx hb dMO_writes_37 ?_
            refine lv_aload_n hx hb dMO_writes_38 rfl (lv_at hl 2 rfl) ?_
            refine va_get (D := (dC, dI)) (ci := 7) (v := .ref u7) (C := RMO) (T := TMO) (N := 11) hx hb hts inMO hown hK hP 0 rfl rfl 7 (by decide) (hts _ m_f_MO_30) (fun _ h9 => h9) rfl dMO_writes_39 ?_
            refine lv_iload hx hb dMO_writes_42 (lv_at hl 1 rfl) ?_
            refine lv_iload hx hb dMO_writes_44 (lv_at hl 0 rfl) ?_
            refine lv_iadd hx hb dMO_writes_46 ?_
            refine k_lld (v := (f_shf lg 0 i) (0 + i)) hx hb hK hP 2 1 rfl rfl (j := (0 + i)) (nI_add 0 i) (by omega) (by decide) rfl dMO_writes_47 ?_
            refine k_lst (W1 := [(u0, .inr (7, [.int th, .ref u1, .ref u2, .ref u3, .ref u4, .ref u5, .ref u6, .ref u7, .ref u8, .ref u9, .ref u10])), (u6, .inl (cI, 2, .inl (f_lo 64 xz))), (u7, .inl (cJ, 128, .inr (.inl (vp_updL (f_shf lg 0 i) (0 + (i - 1)) ((f_shf lg 0 i) (0 + i)))))), (u8, .inl (cJ, 16, .inr (.inl (f_twoL 8 tf xtf))))]) hx hb hK hP hD hS 2 1 rfl rfl (j := (0 + (i - 1))) (f_ixm hinv) (by omega) (by decide) rfl dMO_writes_48 (fun H locs hP hD hS => ?_)
            refine lv_iinc (v := nI (i + 1)) (lv' := [(6, .int (nI (i + 1))), (5, .int (nI 0)), (0, .ref u0), (1, .int 0), (2, .long v), (4, .int (nI t))]) hx hb dMO_writes_49 hl (k := 0) rfl (nI_1 _) (by decide) rfl (fun ls hl => ?_)
            refine lv_goto (tgt := 20) hx hb dMO_writes_52 (by decide) ?_
            have hP := k_cvP (W1 := [(u0, .inr (7, [.int th, .ref u1, .ref u2, .ref u3, .ref u4, .ref u5, .ref u6, .ref u7, .ref u8, .ref u9, .ref u10])), (u6, .inl (cI, 2, .inl (f_lo 64 xz))), (u7, .inl (cJ, 128, .inr (.inl (f_shf lg 0 (i + 1))))), (u8, .inl (cJ, 16, .inr (.inl (f_twoL 8 tf xtf))))]) (by rw [show f_shf lg 0 (i + 1) = vp_updL (f_shf lg 0 i) (0 + (i - 1)) ((f_shf lg 0 i) (0 + i)) from f_shfS hinv]) hP
            have hD := k_cvD (W1 := [(u0, .inr (7, [.int th, .ref u1, .ref u2, .ref u3, .ref u4, .ref u5, .ref u6, .ref u7, .ref u8, .ref u9, .ref u10])), (u6, .inl (cI, 2, .inl (f_lo 64 xz))), (u7, .inl (cJ, 128, .inr (.inl (f_shf lg 0 (i + 1))))), (u8, .inl (cJ, 16, .inr (.inl (f_twoL 8 tf xtf))))]) (by rw [show f_shf lg 0 (i + 1) = vp_updL (f_shf lg 0 i) (0 + (i - 1)) ((f_shf lg 0 i) (0 + i)) from f_shfS hinv]) hD
            exact ih (i + 1) (by omega) (by omega) (by omega) _ _ hP hD hS ls (lv_sub hl [0, 1, 2, 3, 4, 5] rfl)
      exact lp (64 + 1) 1 (by omega) (by omega) (by decide) _ _ hP hD hS ls hl
  · rw [show f_lo (f_js z) xz = upd (f_lo z xz) 0 (nI z + 1) from f_loA h0 hz, show f_wr lg z v 0 = vp_updL lg (0 + z) v from if_neg h0]
    rw [show f_twoL 8 (vp_updL tf t (tf t + 1)) xtf = vp_updL (f_twoL 8 tf xtf) (t) (f_twoL 8 tf xtf (t) + 1) by rw [f_uL0 ht, f_tL0 ht]]
    refine k_of (cc := cMO_writes) (maxL := 7) (ret := (some .long)) (by decide) rfl (Nat.le_of_ble_eq_true rfl) ?_
    intro p e s m below meth c A ls hx hb hr hlocks hml hown hts hA hP hD hK hF hl hS
    have hown : s.vm.findClass RMO = some m.cls := hown
    have hl : lv_has ls 7 [(0, .ref u0), (1, .int 0), (2, .long v), (4, .int (nI t))] := hl
    refine lv_bipush (v := 64) hx hb dMO_writes_0 (by decide) ?_
    refine lv_iload_n hx hb dMO_writes_2 rfl (lv_at hl 1 rfl) ?_
    refine lv_imul hx hb dMO_writes_3 ?_
    refine k_topi (y := nI 0) (show (64 : Int32) * 0 = nI 0 by decide) ?_
    refine lv_istore (lv' := [(5, .int (nI 0)), (0, .ref u0), (1, .int 0), (2, .long v), (4, .int (nI t))]) hx hb dMO_writes_4 hl (by decide) rfl (fun ls hl => ?_)
    refine lv_aload_n hx hb dMO_writes_6 rfl (lv_at hl 1 rfl) ?_
    refine va_get (D := (dC, dI)) (ci := 7) (v := .ref u6) (C := RMO) (T := TMO) (N := 11) hx hb hts inMO hown hK hP 0 rfl rfl 6 (by decide) (hts _ m_f_MO_27) (fun _ h9 => h9) rfl dMO_writes_7 ?_
    refine lv_iload_n hx hb dMO_writes_10 rfl (lv_at hl 2 rfl) ?_
    refine k_ild (v := (f_lo z xz) 0) hx hb hK hP 1 0 rfl rfl (j := 0) (by decide) (by decide) (by decide) rfl dMO_writes_11 ?_
    refine k_topi (y := nI z) rfl ?_
    refine lv_bipush (v := 64) hx hb dMO_writes_12 (by decide) ?_
    refine lv_icmp_ne (tgt := 65) hx hb dMO_writes_14 (by decide) (fun c_1 => ?_) (fun c_1 => ?_)
    · refine lv_aload_n hx hb dMO_writes_65 rfl (lv_at hl 1 rfl) ?_
      refine va_get (D := (dC, dI)) (ci := 7) (v := .ref u7) (C := RMO) (T := TMO) (N := 11) hx hb hts inMO hown hK hP 0 rfl rfl 7 (by decide) (hts _ m_f_MO_30) (fun _ h9 => h9) rfl dMO_writes_66 ?_
      refine lv_iload hx hb dMO_writes_69 (lv_at hl 0 rfl) ?_
      refine lv_aload_n hx hb dMO_writes_71 rfl (lv_at hl 1 rfl) ?_
      refine va_get (D := (dC, dI)) (ci := 7) (v := .ref u6) (C := RMO) (T := TMO) (N := 11) hx hb hts inMO hown hK hP 0 rfl rfl 6 (by decide) (hts _ m_f_MO_27) (fun _ h9 => h9) rfl dMO_writes_72 ?_
      refine lv_iload_n hx hb dMO_writes_75 rfl (lv_at hl 2 rfl) ?_
      refine k_ild (v := (f_lo z xz) 0) hx hb hK hP 1 0 rfl rfl (j := 0) (by decide) (by decide) (by decide) rfl dMO_writes_76 ?_
      refine k_topi (y := nI z) rfl ?_
      refine lv_iadd hx hb dMO_writes_77 ?_
      refine lv_lload_n hx hb dMO_writes_78 rfl (lv_at hl 3 rfl) ?_
      refine k_lst (W1 := [(u0, .inr (7, [.int th, .ref u1, .ref u2, .ref u3, .ref u4, .ref u5, .ref u6, .ref u7, .ref u8, .ref u9, .ref u10])), (u6, .inl (cI, 2, .inl (f_lo z xz))), (u7, .inl (cJ, 128, .inr (.inl (vp_updL lg (0 + z) v)))), (u8, .inl (cJ, 16, .inr (.inl (f_twoL 8 tf xtf))))]) hx hb hK hP hD hS 2 1 rfl rfl (j := (0 + z)) (nI_add 0 z) (by omega) (by decide) rfl dMO_writes_79 (fun H locs hP hD hS => ?_)
      refine lv_aload_n hx hb dMO_writes_80 rfl (lv_at hl 1 rfl) ?_
      refine va_get (D := (dC, dI)) (ci := 7) (v := .ref u6) (C := RMO) (T := TMO) (N := 11) hx hb hts inMO hown hK hP 0 rfl rfl 6 (by decide) (hts _ m_f_MO_27) (fun _ h9 => h9) rfl dMO_writes_81 ?_
      refine lv_iload_n hx hb dMO_writes_84 rfl (lv_at hl 2 rfl) ?_
      refine lv_dup2_11 hx hb dMO_writes_85 rfl rfl ?_
      refine k_ild (v := (f_lo z xz) 0) hx hb hK hP 1 0 rfl rfl (j := 0) (by decide) (by decide) (by decide) rfl dMO_writes_86 ?_
      refine k_topi (y := nI z) rfl ?_
      refine lv_iconst (v := 1) hx hb dMO_writes_87 (by decide) ?_
      refine lv_iadd hx hb dMO_writes_88 ?_
      refine k_ist (W1 := [(u0, .inr (7, [.int th, .ref u1, .ref u2, .ref u3, .ref u4, .ref u5, .ref u6, .ref u7, .ref u8, .ref u9, .ref u10])), (u6, .inl (cI, 2, .inl (upd (f_lo z xz) 0 ((nI z) + 1)))), (u7, .inl (cJ, 128, .inr (.inl (vp_updL lg (0 + z) v)))), (u8, .inl (cJ, 16, .inr (.inl (f_twoL 8 tf xtf))))]) hx hb hK hP hD hS 1 0 rfl rfl (j := 0) (by decide) (by decide) (by decide) rfl dMO_writes_89 (fun H locs hP hD hS => ?_)
      refine lv_aload_n hx hb dMO_writes_90 rfl (lv_at hl 1 rfl) ?_
      refine va_get (D := (dC, dI)) (ci := 7) (v := .ref u8) (C := RMO) (T := TMO) (N := 11) hx hb hts inMO hown hK hP 0 rfl rfl 8 (by decide) (hts _ m_f_MO_33) (fun _ h9 => h9) rfl dMO_writes_91 ?_
      refine lv_bipush (v := 8) hx hb dMO_writes_94 (by decide) ?_
      refine lv_iload_n hx hb dMO_writes_96 rfl (lv_at hl 2 rfl) ?_
      refine lv_imul hx hb dMO_writes_97 ?_
      refine lv_iload hx hb dMO_writes_98 (lv_at hl 4 rfl) ?_
      refine lv_iadd hx hb dMO_writes_100 ?_
      refine lv_dup2_11 hx hb dMO_writes_101 rfl rfl ?_
      refine k_lld (v := (f_twoL 8 tf xtf) t) hx hb hK hP 3 1 rfl rfl (j := t) (f_8a t) (by omega) (by decide) rfl dMO_writes_102 ?_
      refine lv_lconst (v := 1) hx hb dMO_writes_103 (by decide) ?_
      refine lv_ladd hx hb dMO_writes_104 ?_
      refine k_lst (W1 := [(u0, .inr (7, [.int th, .ref u1, .ref u2, .ref u3, .ref u4, .ref u5, .ref u6, .ref u7, .ref u8, .ref u9, .ref u10])), (u6, .inl (cI, 2, .inl (upd (f_lo z xz) 0 ((nI z) + 1)))), (u7, .inl (cJ, 128, .inr (.inl (vp_updL lg (0 + z) v)))), (u8, .inl (cJ, 16, .inr (.inl (vp_updL (f_twoL 8 tf xtf) t (((f_twoL 8 tf xtf) t) + 1)))))]) hx hb hK hP hD hS 3 1 rfl rfl (j := t) (f_8a t) (by omega) (by decide) rfl dMO_writes_105 (fun H locs hP hD hS => ?_)
      refine lv_lload_n hx hb dMO_writes_106 rfl (lv_at hl 3 rfl) ?_
      exact k_lret hx hb hr hlocks hP hK hD hS rfl dMO_writes_107 ⟨Nat.le_of_ble_eq_true rfl, Nat.le_of_ble_eq_true rfl⟩
    · exact absurd ((nI_eq (b := 64) (by omega) (by decide)).mp c_1) h0

set_option maxHeartbeats 4000000 in
set_option maxRecDepth 100000 in
theorem k_MO_writes_1 (l : Launch) (dC : Nat → ClassId) (dI : Nat → Nat → Nat) (cI cJ cG cZ : ClassId) (u0 : Nat) (u1 : Nat) (u2 : Nat) (u3 : Nat) (u4 : Nat) (u5 : Nat) (u6 : Nat) (u7 : Nat) (u8 : Nat) (u9 : Nat) (u10 : Nat) (th : Int32) (lg : Nat → Int64) (tf : Nat → Int64) (xtf : Nat → Int64) (z : Nat) (xz : Nat) (t : Nat) (v : Int64) (hz : xz ≤ 64) (ht : t < 8) : k_M l yMO_writes wsMO_writes rm_MO_writes (dC, dI) vwCl [(cI, .int), (cJ, .long), (cG, .array .long), (cZ, .boolean)] [.ref u0, .int 1, .long v, .int (nI t)] [(u0, .inr (7, [.int th, .ref u1, .ref u2, .ref u3, .ref u4, .ref u5, .ref u6, .ref u7, .ref u8, .ref u9, .ref u10])), (u6, .inl (cI, 2, .inl (f_lo z xz))), (u7, .inl (cJ, 128, .inr (.inl lg))), (u8, .inl (cJ, 16, .inr (.inl (f_twoL 8 tf xtf))))] (some (.long v)) [(u0, .inr (7, [.int th, .ref u1, .ref u2, .ref u3, .ref u4, .ref u5, .ref u6, .ref u7, .ref u8, .ref u9, .ref u10])), (u6, .inl (cI, 2, .inl (f_lo z (f_js xz)))), (u7, .inl (cJ, 128, .inr (.inl (f_wr lg xz v 64)))), (u8, .inl (cJ, 16, .inr (.inl (f_twoL 8 tf (vp_updL xtf t (xtf t + 1))))))] := by
  by_cases h0 : xz = 64
  · subst h0
    rw [show f_lo z (f_js 64) = upd (upd (f_lo z 64) 1 (nI 63)) 1 (nI 63 + 1) from f_loB', show f_wr lg 64 v 64 = vp_updL (f_shf lg 64 64) (64 + 63) v from if_pos rfl]
    rw [show f_twoL 8 tf (vp_updL xtf t (xtf t + 1)) = vp_updL (f_twoL 8 tf xtf) (8 + t) (f_twoL 8 tf xtf (8 + t) + 1) by rw [f_uL1, f_tL1]]
    refine k_of (cc := cMO_writes) (maxL := 7) (ret := (some .long)) (by decide) rfl (Nat.le_of_ble_eq_true rfl) ?_
    intro p e s m below meth c A ls hx hb hr hlocks hml hown hts hA hP hD hK hF hl hS
    have hown : s.vm.findClass RMO = some m.cls := hown
    have hl : lv_has ls 7 [(0, .ref u0), (1, .int 1), (2, .long v), (4, .int (nI t))] := hl
    refine lv_bipush (v := 64) hx hb dMO_writes_0 (by decide) ?_
    refine lv_iload_n hx hb dMO_writes_2 rfl (lv_at hl 1 rfl) ?_
    refine lv_imul hx hb dMO_writes_3 ?_
    refine k_topi (y := nI 64) (show (64 : Int32) * 1 = nI 64 by decide) ?_
    refine lv_istore (lv' := [(5, .int (nI 64)), (0, .ref u0), (1, .int 1), (2, .long v), (4, .int (nI t))]) hx hb dMO_writes_4 hl (by decide) rfl (fun ls hl => ?_)
    refine lv_aload_n hx hb dMO_writes_6 rfl (lv_at hl 1 rfl) ?_
    refine va_get (D := (dC, dI)) (ci := 7) (v := .ref u6) (C := RMO) (T := TMO) (N := 11) hx hb hts inMO hown hK hP 0 rfl rfl 6 (by decide) (hts _ m_f_MO_27) (fun _ h9 => h9) rfl dMO_writes_7 ?_
    refine lv_iload_n hx hb dMO_writes_10 rfl (lv_at hl 2 rfl) ?_
    refine k_ild (v := (f_lo z 64) 1) hx hb hK hP 1 0 rfl rfl (j := 1) (by decide) (by decide) (by decide) rfl dMO_writes_11 ?_
    refine k_topi (y := nI 64) rfl ?_
    refine lv_bipush (v := 64) hx hb dMO_writes_12 (by decide) ?_
    refine lv_icmp_ne (tgt := 65) hx hb dMO_writes_14 (by decide) (fun c_1 => ?_) (fun c_1 => ?_)
    · exact absurd (show nI 64 = 64 by decide) c_1
    · refine lv_iconst (v := 1) hx hb dMO_writes_17 (by decide) ?_
      refine lv_istore (lv' := [(6, .int 1), (5, .int (nI 64)), (0, .ref u0), (1, .int 1), (2, .long v), (4, .int (nI t))]) hx hb dMO_writes_18 hl (by decide) rfl (fun ls hl => ?_)
      have hl : lv_has ls 7 [(6, .int (nI 1)), (5, .int (nI 64)), (0, .ref u0), (1, .int 1), (2, .long v), (4, .int (nI t))] := hl
      have hP := k_cvP (W1 := [(u0, .inr (7, [.int th, .ref u1, .ref u2, .ref u3, .ref u4, .ref u5, .ref u6, .ref u7, .ref u8, .ref u9, .ref u10])), (u6, .inl (cI, 2, .inl (f_lo z 64))), (u7, .inl (cJ, 128, .inr (.inl (f_shf lg 64 1)))), (u8, .inl (cJ, 16, .inr (.inl (f_twoL 8 tf xtf))))]) (by rw [show f_shf lg 64 1 = lg from f_shf1 lg 64]) hP
      have hD := k_cvD (W1 := [(u0, .inr (7, [.int th, .ref u1, .ref u2, .ref u3, .ref u4, .ref u5, .ref u6, .ref u7, .ref u8, .ref u9, .ref u10])), (u6, .inl (cI, 2, .inl (f_lo z 64))), (u7, .inl (cJ, 128, .inr (.inl (f_shf lg 64 1)))), (u8, .inl (cJ, 16, .inr (.inl (f_twoL 8 tf xtf))))]) (by rw [show f_shf lg 64 1 = lg from f_shf1 lg 64]) hD
      have lp : ∀ (n i : Nat), 64 < i + n → i ≤ 64 → (1 ≤ i) → ∀ (H : Heap) (locs : List Loc), va_P (dC, dI) vwCl [(u0, .inr (7, [.int th, .ref u1, .ref u2, .ref u3, .ref u4, .ref u5, .ref u6, .ref u7, .ref u8, .ref u9, .ref u10])), (u6, .inl (cI, 2, .inl (f_lo z 64))), (u7, .inl (cJ, 128, .inr (.inl (f_shf lg 64 i)))), (u8, .inl (cJ, 16, .inr (.inl (f_twoL 8 tf xtf))))] H → va_D A [(u0, .inr (7, [.int th, .ref u1, .ref u2, .ref u3, .ref u4, .ref u5, .ref u6, .ref u7, .ref u8, .ref u9, .ref u10])), (u6, .inl (cI, 2, .inl (f_lo z 64))), (u7, .inl (cJ, 128, .inr (.inl (f_shf lg 64 i)))), (u8, .inl (cJ, 16, .inr (.inl (f_twoL 8 tf xtf))))] → va_S A s.heap H locs → ∀ (ls : Array Slot), lv_has ls 7 [(6, .int (nI i)), (5, .int (nI 64)), (0, .ref u0), (1, .int 1), (2, .long v), (4, .int (nI t))] → W p l e rm_MO_writes s m ([.ref u0, .int 1, .long v, .int (nI t)] : List Value).toArray below meth c H locs 0 0 (MQ below (k_Q (dC, dI) vwCl [(cI, .int), (cJ, .long), (cG, .array .long), (cZ, .boolean)] (some (.long v)) [(u0, .inr (7, [.int th, .ref u1, .ref u2, .ref u3, .ref u4, .ref u5, .ref u6, .ref u7, .ref u8, .ref u9, .ref u10])), (u6, .inl (cI, 2, .inl (upd (upd (f_lo z 64) 1 (nI 63)) 1 (nI 63 + 1)))), (u7, .inl (cJ, 128, .inr (.inl (vp_updL (f_shf lg 64 64) (64 + 63) v)))), (u8, .inl (cJ, 16, .inr (.inl (vp_updL (f_twoL 8 tf xtf) (8 + t) (f_twoL 8 tf xtf (8 + t) + 1)))))] A) ([.ref u0, .int 1, .long v, .int (nI t)] : List Value).toArray s rm_MO_writes.cells rm_MO_writes.slots A) (F0 m 20 ls []) := by
        intro n
        induction n with
        | zero => intro i h8 h9; exact absurd h8 (by omega)
        | succ n ih =>
          intro i hn hle hinv H locs hP hD hS ls hl
          refine lv_iload hx hb dMO_writes_20 (lv_at hl 0 rfl) ?_
          refine lv_bipush (v := 64) hx hb dMO_writes_22 (by decide) ?_
          refine lv_icmp_ge (tgt := 55) hx hb dMO_writes_24 (by decide) (fun c_2 => ?_) (fun c_2 => ?_)
          · have hi : i = 64 := by have h9 := (nI_leI (a := 64) (b := i) (by decide) (by omega)).mp c_2; omega
            have hP := k_cvP (W1 := [(u0, .inr (7, [.int th, .ref u1, .ref u2, .ref u3, .ref u4, .ref u5, .ref u6, .ref u7, .ref u8, .ref u9, .ref u10])), (u6, .inl (cI, 2, .inl (f_lo z 64))), (u7, .inl (cJ, 128, .inr (.inl (f_shf lg 64 64)))), (u8, .inl (cJ, 16, .inr (.inl (f_twoL 8 tf xtf))))]) (by rw [show f_shf lg 64 64 = f_shf lg 64 i by rw [hi]]) hP
            have hD := k_cvD (W1 := [(u0, .inr (7, [.int th, .ref u1, .ref u2, .ref u3, .ref u4, .ref u5, .ref u6, .ref u7, .ref u8, .ref u9, .ref u10])), (u6, .inl (cI, 2, .inl (f_lo z 64))), (u7, .inl (cJ, 128, .inr (.inl (f_shf lg 64 64)))), (u8, .inl (cJ, 16, .inr (.inl (f_twoL 8 tf xtf))))]) (by rw [show f_shf lg 64 64 = f_shf lg 64 i by rw [hi]]) hD
            refine lv_aload_n hx hb dMO_writes_55 rfl (lv_at hl 2 rfl) ?_
            refine va_get (D := (dC, dI)) (ci := 7) (v := .ref u6) (C := RMO) (T := TMO) (N := 11) hx hb hts inMO hown hK hP 0 rfl rfl 6 (by decide) (hts _ m_f_MO_27) (fun _ h9 => h9) rfl dMO_writes_56 ?_
            refine lv_iload_n hx hb dMO_writes_59 rfl (lv_at hl 3 rfl) ?_
            refine lv_dup2_11 hx hb dMO_writes_60 rfl rfl ?_
            refine k_ild (v := (f_lo z 64) 1) hx hb hK hP 1 0 rfl rfl (j := 1) (by decide) (by decide) (by decide) rfl dMO_writes_61 ?_
            refine k_topi (y := nI 64) rfl ?_
            refine lv_iconst (v := 1) hx hb dMO_writes_62 (by decide) ?_
            refine lv_isub hx hb dMO_writes_63 ?_
            refine k_topi (y := nI 63) (show nI 64 - 1 = nI 63 by decide) ?_
            refine k_ist (W1 := [(u0, .inr (7, [.int th, .ref u1, .ref u2, .ref u3, .ref u4, .ref u5, .ref u6, .ref u7, .ref u8, .ref u9, .ref u10])), (u6, .inl (cI, 2, .inl (upd (f_lo z 64) 1 (nI 63)))), (u7, .inl (cJ, 128, .inr (.inl (f_shf lg 64 64)))), (u8, .inl (cJ, 16, .inr (.inl (f_twoL 8 tf xtf))))]) hx hb hK hP hD hS 1 0 rfl rfl (j := 1) (by decide) (by decide) (by decide) rfl dMO_writes_64 (fun H locs hP hD hS => ?_)
            refine lv_aload_n hx hb dMO_writes_65 rfl (lv_at hl 2 rfl) ?_
            refine va_get (D := (dC, dI)) (ci := 7) (v := .ref u7) (C := RMO) (T := TMO) (N := 11) hx hb hts inMO hown hK hP 0 rfl rfl 7 (by decide) (hts _ m_f_MO_30) (fun _ h9 => h9) rfl dMO_writes_66 ?_
            refine lv_iload hx hb dMO_writes_69 (lv_at hl 1 rfl) ?_
            refine lv_aload_n hx hb dMO_writes_71 rfl (lv_at hl 2 rfl) ?_
            refine va_get (D := (dC, dI)) (ci := 7) (v := .ref u6) (C := RMO) (T := TMO) (N := 11) hx hb hts inMO hown hK hP 0 rfl rfl 6 (by decide) (hts _ m_f_MO_27) (fun _ h9 => h9) rfl dMO_writes_72 ?_
            refine lv_iload_n hx hb dMO_writes_75 rfl (lv_at hl 3 rfl) ?_
            refine k_ild (v := (nI 63)) hx hb hK hP 1 0 rfl rfl (j := 1) (by decide) (by decide) (by decide) pk_us dMO_writes_76 ?_
            refine k_topi (y := nI 63) rfl ?_
            refine lv_iadd hx hb dMO_writes_77 ?_
            refine lv_lload_n hx hb dMO_writes_78 rfl (lv_at hl 4 rfl) ?_
            refine k_lst (W1 := [(u0, .inr (7, [.int th, .ref u1, .ref u2, .ref u3, .ref u4, .ref u5, .ref u6, .ref u7, .ref u8, .ref u9, .ref u10])), (u6, .inl (cI, 2, .inl (upd (f_lo z 64) 1 (nI 63)))), (u7, .inl (cJ, 128, .inr (.inl (vp_updL (f_shf lg 64 64) (64 + 63) v)))), (u8, .inl (cJ, 16, .inr (.inl (f_twoL 8 tf xtf))))]) hx hb hK hP hD hS 2 1 rfl rfl (j := (64 + 63)) (nI_add 64 63) (by decide) (by decide) rfl dMO_writes_79 (fun H locs hP hD hS => ?_)
            refine lv_aload_n hx hb dMO_writes_80 rfl (lv_at hl 2 rfl) ?_
            refine va_get (D := (dC, dI)) (ci := 7) (v := .ref u6) (C := RMO) (T := TMO) (N := 11) hx hb hts inMO hown hK hP 0 rfl rfl 6 (by decide) (hts _ m_f_MO_27) (fun _ h9 => h9) rfl dMO_writes_81 ?_
            refine lv_iload_n hx hb dMO_writes_84 rfl (lv_at hl 3 rfl) ?_
            refine lv_dup2_11 hx hb dMO_writes_85 rfl rfl ?_
            refine k_ild (v := (nI 63)) hx hb hK hP 1 0 rfl rfl (j := 1) (by decide) (by decide) (by decide) pk_us dMO_writes_86 ?_
            refine k_topi (y := nI 63) rfl ?_
            refine lv_iconst (v := 1) hx hb dMO_writes_87 (by decide) ?_
            refine lv_iadd hx hb dMO_writes_88 ?_
            refine k_ist (W1 := [(u0, .inr (7, [.int th, .ref u1, .ref u2, .ref u3, .ref u4, .ref u5, .ref u6, .ref u7, .ref u8, .ref u9, .ref u10])), (u6, .inl (cI, 2, .inl (upd (upd (f_lo z 64) 1 (nI 63)) 1 ((nI 63) + 1)))), (u7, .inl (cJ, 128, .inr (.inl (vp_updL (f_shf lg 64 64) (64 + 63) v)))), (u8, .inl (cJ, 16, .inr (.inl (f_twoL 8 tf xtf))))]) hx hb hK hP hD hS 1 0 rfl rfl (j := 1) (by decide) (by decide) (by decide) rfl dMO_writes_89 (fun H locs hP hD hS => ?_)
            refine lv_aload_n hx hb dMO_writes_90 rfl (lv_at hl 2 rfl) ?_
            refine va_get (D := (dC, dI)) (ci := 7) (v := .ref u8) (C := RMO) (T := TMO) (N := 11) hx hb hts inMO hown hK hP 0 rfl rfl 8 (by decide) (hts _ m_f_MO_33) (fun _ h9 => h9) rfl dMO_writes_91 ?_
            refine lv_bipush (v := 8) hx hb dMO_writes_94 (by decide) ?_
            refine lv_iload_n hx hb dMO_writes_96 rfl (lv_at hl 3 rfl) ?_
            refine lv_imul hx hb dMO_writes_97 ?_
            refine lv_iload hx hb dMO_writes_98 (lv_at hl 5 rfl) ?_
            refine lv_iadd hx hb dMO_writes_100 ?_
            refine lv_dup2_11 hx hb dMO_writes_101 rfl rfl ?_
            refine k_lld (v := (f_twoL 8 tf xtf) (8 + t)) hx hb hK hP 3 1 rfl rfl (j := (8 + t)) (f_8b t) (by omega) (by decide) rfl dMO_writes_102 ?_
            refine lv_lconst (v := 1) hx hb dMO_writes_103 (by decide) ?_
            refine lv_ladd hx hb dMO_writes_104 ?_
            refine k_lst (W1 := [(u0, .inr (7, [.int th, .ref u1, .ref u2, .ref u3, .ref u4, .ref u5, .ref u6, .ref u7, .ref u8, .ref u9, .ref u10])), (u6, .inl (cI, 2, .inl (upd (upd (f_lo z 64) 1 (nI 63)) 1 ((nI 63) + 1)))), (u7, .inl (cJ, 128, .inr (.inl (vp_updL (f_shf lg 64 64) (64 + 63) v)))), (u8, .inl (cJ, 16, .inr (.inl (vp_updL (f_twoL 8 tf xtf) (8 + t) (((f_twoL 8 tf xtf) (8 + t)) + 1)))))]) hx hb hK hP hD hS 3 1 rfl rfl (j := (8 + t)) (f_8b t) (by omega) (by decide) rfl dMO_writes_105 (fun H locs hP hD hS => ?_)
            refine lv_lload_n hx hb dMO_writes_106 rfl (lv_at hl 4 rfl) ?_
            exact k_lret hx hb hr hlocks hP hK hD hS rfl dMO_writes_107 ⟨Nat.le_of_ble_eq_true rfl, Nat.le_of_ble_eq_true rfl⟩
          · have hlt : i < 64 := by rcases Nat.lt_or_ge i 64 with q9 | q9; exact q9; exact absurd ((n_le (n := 64) rfl (by decide) (by omega)).mpr q9) c_2
            refine lv_aload_n hx hb dMO_writes_27 rfl (lv_at hl 2 rfl) ?_
            refine va_get (D := (dC, dI)) (ci := 7) (v := .ref u7) (C := RMO) (T := TMO) (N := 11) hx hb hts inMO hown hK hP 0 rfl rfl 7 (by decide) (hts _ m_f_MO_30) (fun _ h9 => h9) rfl dMO_writes_28 ?_
            refine lv_iload hx hb dMO_writes_31 (lv_at hl 1 rfl) ?_
            refine lv_iload hx hb dMO_writes_33 (lv_at hl 0 rfl) ?_
            refine lv_iadd hx hb dMO_writes_35 ?_
            refine lv_iconst (v := 1) hx hb dMO_writes_36 (by decide) ?_
            refine lv_isub hx hb dMO_writes_37 ?_
            refine lv_aload_n hx hb dMO_writes_38 rfl (lv_at hl 2 rfl) ?_
            refine va_get (D := (dC, dI)) (ci := 7) (v := .ref u7) (C := RMO) (T := TMO) (N := 11) hx hb hts inMO hown hK hP 0 rfl rfl 7 (by decide) (hts _ m_f_MO_30) (fun _ h9 => h9) rfl dMO_writes_39 ?_
            refine lv_iload hx hb dMO_writes_42 (lv_at hl 1 rfl) ?_
            refine lv_iload hx hb dMO_writes_44 (lv_at hl 0 rfl) ?_
            refine lv_iadd hx hb dMO_writes_46 ?_
            refine k_lld (v := (f_shf lg 64 i) (64 + i)) hx hb hK hP 2 1 rfl rfl (j := (64 + i)) (nI_add 64 i) (by omega) (by decide) rfl dMO_writes_47 ?_
            refine k_lst (W1 := [(u0, .inr (7, [.int th, .ref u1, .ref u2, .ref u3, .ref u4, .ref u5, .ref u6, .ref u7, .ref u8, .ref u9, .ref u10])), (u6, .inl (cI, 2, .inl (f_lo z 64))), (u7, .inl (cJ, 128, .inr (.inl (vp_updL (f_shf lg 64 i) (64 + (i - 1)) ((f_shf lg 64 i) (64 + i)))))), (u8, .inl (cJ, 16, .inr (.inl (f_twoL 8 tf xtf))))]) hx hb hK hP hD hS 2 1 rfl rfl (j := (64 + (i - 1))) (f_ixm hinv) (by omega) (by decide) rfl dMO_writes_48 (fun H locs hP hD hS => ?_)
            refine lv_iinc (v := nI (i + 1)) (lv' := [(6, .int (nI (i + 1))), (5, .int (nI 64)), (0, .ref u0), (1, .int 1), (2, .long v), (4, .int (nI t))]) hx hb dMO_writes_49 hl (k := 0) rfl (nI_1 _) (by decide) rfl (fun ls hl => ?_)
            refine lv_goto (tgt := 20) hx hb dMO_writes_52 (by decide) ?_
            have hP := k_cvP (W1 := [(u0, .inr (7, [.int th, .ref u1, .ref u2, .ref u3, .ref u4, .ref u5, .ref u6, .ref u7, .ref u8, .ref u9, .ref u10])), (u6, .inl (cI, 2, .inl (f_lo z 64))), (u7, .inl (cJ, 128, .inr (.inl (f_shf lg 64 (i + 1))))), (u8, .inl (cJ, 16, .inr (.inl (f_twoL 8 tf xtf))))]) (by rw [show f_shf lg 64 (i + 1) = vp_updL (f_shf lg 64 i) (64 + (i - 1)) ((f_shf lg 64 i) (64 + i)) from f_shfS hinv]) hP
            have hD := k_cvD (W1 := [(u0, .inr (7, [.int th, .ref u1, .ref u2, .ref u3, .ref u4, .ref u5, .ref u6, .ref u7, .ref u8, .ref u9, .ref u10])), (u6, .inl (cI, 2, .inl (f_lo z 64))), (u7, .inl (cJ, 128, .inr (.inl (f_shf lg 64 (i + 1))))), (u8, .inl (cJ, 16, .inr (.inl (f_twoL 8 tf xtf))))]) (by rw [show f_shf lg 64 (i + 1) = vp_updL (f_shf lg 64 i) (64 + (i - 1)) ((f_shf lg 64 i) (64 + i)) from f_shfS hinv]) hD
            exact ih (i + 1) (by omega) (by omega) (by omega) _ _ hP hD hS ls (lv_sub hl [0, 1, 2, 3, 4, 5] rfl)
      exact lp (64 + 1) 1 (by omega) (by omega) (by decide) _ _ hP hD hS ls hl
  · rw [show f_lo z (f_js xz) = upd (f_lo z xz) 1 (nI xz + 1) from f_loB h0 hz, show f_wr lg xz v 64 = vp_updL lg (64 + xz) v from if_neg h0]
    rw [show f_twoL 8 tf (vp_updL xtf t (xtf t + 1)) = vp_updL (f_twoL 8 tf xtf) (8 + t) (f_twoL 8 tf xtf (8 + t) + 1) by rw [f_uL1, f_tL1]]
    refine k_of (cc := cMO_writes) (maxL := 7) (ret := (some .long)) (by decide) rfl (Nat.le_of_ble_eq_true rfl) ?_
    intro p e s m below meth c A ls hx hb hr hlocks hml hown hts hA hP hD hK hF hl hS
    have hown : s.vm.findClass RMO = some m.cls := hown
    have hl : lv_has ls 7 [(0, .ref u0), (1, .int 1), (2, .long v), (4, .int (nI t))] := hl
    refine lv_bipush (v := 64) hx hb dMO_writes_0 (by decide) ?_
    refine lv_iload_n hx hb dMO_writes_2 rfl (lv_at hl 1 rfl) ?_
    refine lv_imul hx hb dMO_writes_3 ?_
    refine k_topi (y := nI 64) (show (64 : Int32) * 1 = nI 64 by decide) ?_
    refine lv_istore (lv' := [(5, .int (nI 64)), (0, .ref u0), (1, .int 1), (2, .long v), (4, .int (nI t))]) hx hb dMO_writes_4 hl (by decide) rfl (fun ls hl => ?_)
    refine lv_aload_n hx hb dMO_writes_6 rfl (lv_at hl 1 rfl) ?_
    refine va_get (D := (dC, dI)) (ci := 7) (v := .ref u6) (C := RMO) (T := TMO) (N := 11) hx hb hts inMO hown hK hP 0 rfl rfl 6 (by decide) (hts _ m_f_MO_27) (fun _ h9 => h9) rfl dMO_writes_7 ?_
    refine lv_iload_n hx hb dMO_writes_10 rfl (lv_at hl 2 rfl) ?_
    refine k_ild (v := (f_lo z xz) 1) hx hb hK hP 1 0 rfl rfl (j := 1) (by decide) (by decide) (by decide) rfl dMO_writes_11 ?_
    refine k_topi (y := nI xz) rfl ?_
    refine lv_bipush (v := 64) hx hb dMO_writes_12 (by decide) ?_
    refine lv_icmp_ne (tgt := 65) hx hb dMO_writes_14 (by decide) (fun c_1 => ?_) (fun c_1 => ?_)
    · refine lv_aload_n hx hb dMO_writes_65 rfl (lv_at hl 1 rfl) ?_
      refine va_get (D := (dC, dI)) (ci := 7) (v := .ref u7) (C := RMO) (T := TMO) (N := 11) hx hb hts inMO hown hK hP 0 rfl rfl 7 (by decide) (hts _ m_f_MO_30) (fun _ h9 => h9) rfl dMO_writes_66 ?_
      refine lv_iload hx hb dMO_writes_69 (lv_at hl 0 rfl) ?_
      refine lv_aload_n hx hb dMO_writes_71 rfl (lv_at hl 1 rfl) ?_
      refine va_get (D := (dC, dI)) (ci := 7) (v := .ref u6) (C := RMO) (T := TMO) (N := 11) hx hb hts inMO hown hK hP 0 rfl rfl 6 (by decide) (hts _ m_f_MO_27) (fun _ h9 => h9) rfl dMO_writes_72 ?_
      refine lv_iload_n hx hb dMO_writes_75 rfl (lv_at hl 2 rfl) ?_
      refine k_ild (v := (f_lo z xz) 1) hx hb hK hP 1 0 rfl rfl (j := 1) (by decide) (by decide) (by decide) rfl dMO_writes_76 ?_
      refine k_topi (y := nI xz) rfl ?_
      refine lv_iadd hx hb dMO_writes_77 ?_
      refine lv_lload_n hx hb dMO_writes_78 rfl (lv_at hl 3 rfl) ?_
      refine k_lst (W1 := [(u0, .inr (7, [.int th, .ref u1, .ref u2, .ref u3, .ref u4, .ref u5, .ref u6, .ref u7, .ref u8, .ref u9, .ref u10])), (u6, .inl (cI, 2, .inl (f_lo z xz))), (u7, .inl (cJ, 128, .inr (.inl (vp_updL lg (64 + xz) v)))), (u8, .inl (cJ, 16, .inr (.inl (f_twoL 8 tf xtf))))]) hx hb hK hP hD hS 2 1 rfl rfl (j := (64 + xz)) (nI_add 64 xz) (by omega) (by decide) rfl dMO_writes_79 (fun H locs hP hD hS => ?_)
      refine lv_aload_n hx hb dMO_writes_80 rfl (lv_at hl 1 rfl) ?_
      refine va_get (D := (dC, dI)) (ci := 7) (v := .ref u6) (C := RMO) (T := TMO) (N := 11) hx hb hts inMO hown hK hP 0 rfl rfl 6 (by decide) (hts _ m_f_MO_27) (fun _ h9 => h9) rfl dMO_writes_81 ?_
      refine lv_iload_n hx hb dMO_writes_84 rfl (lv_at hl 2 rfl) ?_
      refine lv_dup2_11 hx hb dMO_writes_85 rfl rfl ?_
      refine k_ild (v := (f_lo z xz) 1) hx hb hK hP 1 0 rfl rfl (j := 1) (by decide) (by decide) (by decide) rfl dMO_writes_86 ?_
      refine k_topi (y := nI xz) rfl ?_
      refine lv_iconst (v := 1) hx hb dMO_writes_87 (by decide) ?_
      refine lv_iadd hx hb dMO_writes_88 ?_
      refine k_ist (W1 := [(u0, .inr (7, [.int th, .ref u1, .ref u2, .ref u3, .ref u4, .ref u5, .ref u6, .ref u7, .ref u8, .ref u9, .ref u10])), (u6, .inl (cI, 2, .inl (upd (f_lo z xz) 1 ((nI xz) + 1)))), (u7, .inl (cJ, 128, .inr (.inl (vp_updL lg (64 + xz) v)))), (u8, .inl (cJ, 16, .inr (.inl (f_twoL 8 tf xtf))))]) hx hb hK hP hD hS 1 0 rfl rfl (j := 1) (by decide) (by decide) (by decide) rfl dMO_writes_89 (fun H locs hP hD hS => ?_)
      refine lv_aload_n hx hb dMO_writes_90 rfl (lv_at hl 1 rfl) ?_
      refine va_get (D := (dC, dI)) (ci := 7) (v := .ref u8) (C := RMO) (T := TMO) (N := 11) hx hb hts inMO hown hK hP 0 rfl rfl 8 (by decide) (hts _ m_f_MO_33) (fun _ h9 => h9) rfl dMO_writes_91 ?_
      refine lv_bipush (v := 8) hx hb dMO_writes_94 (by decide) ?_
      refine lv_iload_n hx hb dMO_writes_96 rfl (lv_at hl 2 rfl) ?_
      refine lv_imul hx hb dMO_writes_97 ?_
      refine lv_iload hx hb dMO_writes_98 (lv_at hl 4 rfl) ?_
      refine lv_iadd hx hb dMO_writes_100 ?_
      refine lv_dup2_11 hx hb dMO_writes_101 rfl rfl ?_
      refine k_lld (v := (f_twoL 8 tf xtf) (8 + t)) hx hb hK hP 3 1 rfl rfl (j := (8 + t)) (f_8b t) (by omega) (by decide) rfl dMO_writes_102 ?_
      refine lv_lconst (v := 1) hx hb dMO_writes_103 (by decide) ?_
      refine lv_ladd hx hb dMO_writes_104 ?_
      refine k_lst (W1 := [(u0, .inr (7, [.int th, .ref u1, .ref u2, .ref u3, .ref u4, .ref u5, .ref u6, .ref u7, .ref u8, .ref u9, .ref u10])), (u6, .inl (cI, 2, .inl (upd (f_lo z xz) 1 ((nI xz) + 1)))), (u7, .inl (cJ, 128, .inr (.inl (vp_updL lg (64 + xz) v)))), (u8, .inl (cJ, 16, .inr (.inl (vp_updL (f_twoL 8 tf xtf) (8 + t) (((f_twoL 8 tf xtf) (8 + t)) + 1)))))]) hx hb hK hP hD hS 3 1 rfl rfl (j := (8 + t)) (f_8b t) (by omega) (by decide) rfl dMO_writes_105 (fun H locs hP hD hS => ?_)
      refine lv_lload_n hx hb dMO_writes_106 rfl (lv_at hl 3 rfl) ?_
      exact k_lret hx hb hr hlocks hP hK hD hS rfl dMO_writes_107 ⟨Nat.le_of_ble_eq_true rfl, Nat.le_of_ble_eq_true rfl⟩
    · exact absurd ((nI_eq (b := 64) (by omega) (by decide)).mp c_1) h0
