def f_rw (r : Nat → Nat) : Nat → Option Nat := fun i => if i < 4 then some (r i) else none
def f_up (v : Nat → Nat → Int64) (k n : Nat) (x : Int64) : Nat → Nat → Int64 := fun a => if a = k then vp_updL (v k) n x else v a
def f_cfull (sz : Nat → Int32) (k : Nat) : Int32 := if sz k < 100 then 0 else 1
def f_can0 (v : Int64) : Int32 := if lg_cmp v 32 < 0 then 0 else if 0 < lg_cmp v 126 then 0 else 1
def f_can1 (v : Int64) : Int32 := if lg_cmp v 0 < 0 then 0 else if 0 < lg_cmp v 255 then 0 else 1
def f_can3 (v : Int64) : Int32 := if lg_cmp v 0 < 0 then 0 else if 0 ≤ lg_cmp v 8 then 0 else 1
def f_can (k : Nat) (v : Int64) : Int32 := if k = 0 then f_can0 v else if k = 1 then f_can1 v else if k = 2 then 1 else f_can3 v
abbrev rm_CV_isFull : Room := { frames := 0, cells := 0, slots := 0, locals := 0 }
set_option maxHeartbeats 4000000 in
set_option maxRecDepth 100000 in
theorem k_CV_isFull (l : Launch) (dC : Nat → ClassId) (dI : Nat → Nat → Nat) (cI cJ cG cZ : ClassId) (h0 : Nat) (h1 : Nat) (h2 : Nat) (sz : Nat → Int32) (k : Nat) (hk : k < 4) : k_M l yCV_isFull wsCV_isFull rm_CV_isFull (dC, dI) vwCl [(cI, .int), (cJ, .long), (cG, .array .long), (cZ, .boolean)] [.ref h0, .int (nI k)] [(h0, .inr (0, [.ref h1, .ref h2])), (h1, .inl (cI, 4, .inl sz))] (some (.int (f_cfull sz k))) [(h0, .inr (0, [.ref h1, .ref h2])), (h1, .inl (cI, 4, .inl sz))] := by
  refine k_of (cc := cCV_isFull) (maxL := 2) (ret := (some .boolean)) (by decide) rfl (Nat.le_of_ble_eq_true rfl) ?_
  intro p e s m below meth c A ls hx hb hr hlocks hml hown hts hA hP hD hK hF hl hS
  have hown : s.vm.findClass RCV = some m.cls := hown
  have hl : lv_has ls 2 [(0, .ref h0), (1, .int (nI k))] := hl
  refine lv_aload_n hx hb dCV_isFull_0 rfl (lv_at hl 0 rfl) ?_
  refine va_get (D := (dC, dI)) (ci := 0) (v := .ref h1) (C := RCV) (T := TCV) (N := 2) hx hb hts inCV hown hK hP 0 rfl rfl 0 (by decide) (hts _ m_f_CV_9) (fun _ h9 => h9) rfl dCV_isFull_1 ?_
  refine lv_iload_n hx hb dCV_isFull_4 rfl (lv_at hl 1 rfl) ?_
  refine k_ild (v := sz k) hx hb hK hP 1 0 rfl rfl (j := k) rfl hk (by decide) rfl dCV_isFull_5 ?_
  refine lv_bipush (v := 100) hx hb dCV_isFull_6 (by decide) ?_
  refine lv_icmp_lt (tgt := 15) hx hb dCV_isFull_8 (by decide) (fun c_1 => ?_) (fun c_1 => ?_)
  · refine lv_iconst (v := 0) hx hb dCV_isFull_15 (by decide) ?_
    exact k_zret hx hb hr hlocks rfl hP hK hD hS (by unfold f_cfull; rw [if_pos c_1]) dCV_isFull_16 ⟨Nat.le_of_ble_eq_true rfl, Nat.le_of_ble_eq_true rfl⟩
  · refine lv_iconst (v := 1) hx hb dCV_isFull_11 (by decide) ?_
    refine lv_goto (tgt := 16) hx hb dCV_isFull_12 (by decide) ?_
    exact k_zret hx hb hr hlocks rfl hP hK hD hS (by unfold f_cfull; rw [if_neg c_1]) dCV_isFull_16 ⟨Nat.le_of_ble_eq_true rfl, Nat.le_of_ble_eq_true rfl⟩

abbrev rm_CV_size : Room := { frames := 0, cells := 0, slots := 0, locals := 0 }
set_option maxHeartbeats 4000000 in
set_option maxRecDepth 100000 in
theorem k_CV_size (l : Launch) (dC : Nat → ClassId) (dI : Nat → Nat → Nat) (cI cJ cG cZ : ClassId) (h0 : Nat) (h1 : Nat) (h2 : Nat) (sz : Nat → Int32) (k : Nat) (hk : k < 4) : k_M l yCV_size wsCV_size rm_CV_size (dC, dI) vwCl [(cI, .int), (cJ, .long), (cG, .array .long), (cZ, .boolean)] [.ref h0, .int (nI k)] [(h0, .inr (0, [.ref h1, .ref h2])), (h1, .inl (cI, 4, .inl sz))] (some (.int (sz k))) [(h0, .inr (0, [.ref h1, .ref h2])), (h1, .inl (cI, 4, .inl sz))] := by
  refine k_of (cc := cCV_size) (maxL := 2) (ret := (some .int)) (by decide) rfl (Nat.le_of_ble_eq_true rfl) ?_
  intro p e s m below meth c A ls hx hb hr hlocks hml hown hts hA hP hD hK hF hl hS
  have hown : s.vm.findClass RCV = some m.cls := hown
  have hl : lv_has ls 2 [(0, .ref h0), (1, .int (nI k))] := hl
  refine lv_aload_n hx hb dCV_size_0 rfl (lv_at hl 0 rfl) ?_
  refine va_get (D := (dC, dI)) (ci := 0) (v := .ref h1) (C := RCV) (T := TCV) (N := 2) hx hb hts inCV hown hK hP 0 rfl rfl 0 (by decide) (hts _ m_f_CV_9) (fun _ h9 => h9) rfl dCV_size_1 ?_
  refine lv_iload_n hx hb dCV_size_4 rfl (lv_at hl 1 rfl) ?_
  refine k_ild (v := sz k) hx hb hK hP 1 0 rfl rfl (j := k) rfl hk (by decide) rfl dCV_size_5 ?_
  exact k_iret hx hb hr hlocks hP hK hD hS rfl dCV_size_6 ⟨Nat.le_of_ble_eq_true rfl, Nat.le_of_ble_eq_true rfl⟩

abbrev rm_CV_canHold : Room := { frames := 0, cells := 0, slots := 0, locals := 0 }
set_option maxHeartbeats 4000000 in
set_option maxRecDepth 100000 in
theorem k_CV_canHold (l : Launch) (dC : Nat → ClassId) (dI : Nat → Nat → Nat) (cI cJ cG cZ : ClassId) (k : Nat) (v : Int64) (hk : k < 4) : k_M l yCV_canHold wsCV_canHold rm_CV_canHold (dC, dI) vwCl [(cI, .int), (cJ, .long), (cG, .array .long), (cZ, .boolean)] [.int (nI k), .long v] [] (some (.int (f_can k v))) [] := by
  rcases (show k = 0 ∨ k = 1 ∨ k = 2 ∨ k = 3 by omega) with rfl | rfl | rfl | rfl
  · refine k_of (cc := cCV_canHold) (maxL := 3) (ret := (some .boolean)) (by decide) rfl (Nat.le_of_ble_eq_true rfl) ?_
    intro p e s m below meth c A ls hx hb hr hlocks hml hown hts hA hP hD hK hF hl hS
    have hown : s.vm.findClass RCV = some m.cls := hown
    have hl : lv_has ls 3 [(0, .int (nI 0)), (1, .long v)] := hl
    refine lv_iload_n hx hb dCV_canHold_0 rfl (lv_at hl 0 rfl) ?_
    refine lv_tableIn (tgt := 32) (off := 31) hx hb dCV_canHold_1 (by decide) (by decide) (by decide) (by decide) ?_
    refine lv_lload_n hx hb dCV_canHold_32 rfl (lv_at hl 1 rfl) ?_
    refine lv_ldc2 (v := 32) hx hb hown (hts _ m_k_CV_20) dCV_canHold_33 ?_
    refine W.lcmp hx hb dCV_canHold_36 ?_
    refine lv_if_lt (tgt := 52) hx hb dCV_canHold_37 (by decide) (fun c_1 => ?_) (fun c_1 => ?_)
    · refine lv_iconst (v := 0) hx hb dCV_canHold_52 (by decide) ?_
      exact k_zret hx hb hr hlocks rfl hP hK hD hS (by unfold f_can f_can0; rw [if_pos rfl, if_pos c_1]) dCV_canHold_53 ⟨Nat.le_of_ble_eq_true rfl, Nat.le_of_ble_eq_true rfl⟩
    · refine lv_lload_n hx hb dCV_canHold_40 rfl (lv_at hl 1 rfl) ?_
      refine lv_ldc2 (v := 126) hx hb hown (hts _ m_k_CV_22) dCV_canHold_41 ?_
      refine W.lcmp hx hb dCV_canHold_44 ?_
      refine lv_if_gt (tgt := 52) hx hb dCV_canHold_45 (by decide) (fun c_2 => ?_) (fun c_2 => ?_)
      · refine lv_iconst (v := 0) hx hb dCV_canHold_52 (by decide) ?_
        exact k_zret hx hb hr hlocks rfl hP hK hD hS (by unfold f_can f_can0; rw [if_pos rfl, if_neg c_1, if_pos c_2]) dCV_canHold_53 ⟨Nat.le_of_ble_eq_true rfl, Nat.le_of_ble_eq_true rfl⟩
      · refine lv_iconst (v := 1) hx hb dCV_canHold_48 (by decide) ?_
        refine lv_goto (tgt := 53) hx hb dCV_canHold_49 (by decide) ?_
        exact k_zret hx hb hr hlocks rfl hP hK hD hS (by unfold f_can f_can0; rw [if_pos rfl, if_neg c_1, if_neg c_2]) dCV_canHold_53 ⟨Nat.le_of_ble_eq_true rfl, Nat.le_of_ble_eq_true rfl⟩
  · refine k_of (cc := cCV_canHold) (maxL := 3) (ret := (some .boolean)) (by decide) rfl (Nat.le_of_ble_eq_true rfl) ?_
    intro p e s m below meth c A ls hx hb hr hlocks hml hown hts hA hP hD hK hF hl hS
    have hown : s.vm.findClass RCV = some m.cls := hown
    have hl : lv_has ls 3 [(0, .int (nI 1)), (1, .long v)] := hl
    refine lv_iload_n hx hb dCV_canHold_0 rfl (lv_at hl 0 rfl) ?_
    refine lv_tableIn (tgt := 54) (off := 53) hx hb dCV_canHold_1 (by decide) (by decide) (by decide) (by decide) ?_
    refine lv_lload_n hx hb dCV_canHold_54 rfl (lv_at hl 1 rfl) ?_
    refine lv_lconst (v := 0) hx hb dCV_canHold_55 (by decide) ?_
    refine W.lcmp hx hb dCV_canHold_56 ?_
    refine lv_if_lt (tgt := 72) hx hb dCV_canHold_57 (by decide) (fun c_1 => ?_) (fun c_1 => ?_)
    · refine lv_iconst (v := 0) hx hb dCV_canHold_72 (by decide) ?_
      exact k_zret hx hb hr hlocks rfl hP hK hD hS (by unfold f_can f_can1; rw [if_neg (by decide), if_pos rfl, if_pos c_1]) dCV_canHold_73 ⟨Nat.le_of_ble_eq_true rfl, Nat.le_of_ble_eq_true rfl⟩
    · refine lv_lload_n hx hb dCV_canHold_60 rfl (lv_at hl 1 rfl) ?_
      refine lv_ldc2 (v := 255) hx hb hown (hts _ m_k_CV_24) dCV_canHold_61 ?_
      refine W.lcmp hx hb dCV_canHold_64 ?_
      refine lv_if_gt (tgt := 72) hx hb dCV_canHold_65 (by decide) (fun c_2 => ?_) (fun c_2 => ?_)
      · refine lv_iconst (v := 0) hx hb dCV_canHold_72 (by decide) ?_
        exact k_zret hx hb hr hlocks rfl hP hK hD hS (by unfold f_can f_can1; rw [if_neg (by decide), if_pos rfl, if_neg c_1, if_pos c_2]) dCV_canHold_73 ⟨Nat.le_of_ble_eq_true rfl, Nat.le_of_ble_eq_true rfl⟩
      · refine lv_iconst (v := 1) hx hb dCV_canHold_68 (by decide) ?_
        refine lv_goto (tgt := 73) hx hb dCV_canHold_69 (by decide) ?_
        exact k_zret hx hb hr hlocks rfl hP hK hD hS (by unfold f_can f_can1; rw [if_neg (by decide), if_pos rfl, if_neg c_1, if_neg c_2]) dCV_canHold_73 ⟨Nat.le_of_ble_eq_true rfl, Nat.le_of_ble_eq_true rfl⟩
  · refine k_of (cc := cCV_canHold) (maxL := 3) (ret := (some .boolean)) (by decide) rfl (Nat.le_of_ble_eq_true rfl) ?_
    intro p e s m below meth c A ls hx hb hr hlocks hml hown hts hA hP hD hK hF hl hS
    have hown : s.vm.findClass RCV = some m.cls := hown
    have hl : lv_has ls 3 [(0, .int (nI 2)), (1, .long v)] := hl
    refine lv_iload_n hx hb dCV_canHold_0 rfl (lv_at hl 0 rfl) ?_
    refine lv_tableIn (tgt := 74) (off := 73) hx hb dCV_canHold_1 (by decide) (by decide) (by decide) (by decide) ?_
    refine lv_iconst (v := 1) hx hb dCV_canHold_74 (by decide) ?_
    exact k_zret hx hb hr hlocks rfl hP hK hD hS rfl dCV_canHold_75 ⟨Nat.le_of_ble_eq_true rfl, Nat.le_of_ble_eq_true rfl⟩
  · refine k_of (cc := cCV_canHold) (maxL := 3) (ret := (some .boolean)) (by decide) rfl (Nat.le_of_ble_eq_true rfl) ?_
    intro p e s m below meth c A ls hx hb hr hlocks hml hown hts hA hP hD hK hF hl hS
    have hown : s.vm.findClass RCV = some m.cls := hown
    have hl : lv_has ls 3 [(0, .int (nI 3)), (1, .long v)] := hl
    refine lv_iload_n hx hb dCV_canHold_0 rfl (lv_at hl 0 rfl) ?_
    refine lv_tableIn (tgt := 76) (off := 75) hx hb dCV_canHold_1 (by decide) (by decide) (by decide) (by decide) ?_
    refine lv_lload_n hx hb dCV_canHold_76 rfl (lv_at hl 1 rfl) ?_
    refine lv_lconst (v := 0) hx hb dCV_canHold_77 (by decide) ?_
    refine W.lcmp hx hb dCV_canHold_78 ?_
    refine lv_if_lt (tgt := 94) hx hb dCV_canHold_79 (by decide) (fun c_1 => ?_) (fun c_1 => ?_)
    · refine lv_iconst (v := 0) hx hb dCV_canHold_94 (by decide) ?_
      exact k_zret hx hb hr hlocks rfl hP hK hD hS (by unfold f_can f_can3; rw [if_neg (by decide), if_neg (by decide), if_neg (by decide), if_pos c_1]) dCV_canHold_95 ⟨Nat.le_of_ble_eq_true rfl, Nat.le_of_ble_eq_true rfl⟩
    · refine lv_lload_n hx hb dCV_canHold_82 rfl (lv_at hl 1 rfl) ?_
      refine lv_ldc2 (v := 8) hx hb hown (hts _ m_k_CV_26) dCV_canHold_83 ?_
      refine W.lcmp hx hb dCV_canHold_86 ?_
      refine lv_if_ge (tgt := 94) hx hb dCV_canHold_87 (by decide) (fun c_2 => ?_) (fun c_2 => ?_)
      · refine lv_iconst (v := 0) hx hb dCV_canHold_94 (by decide) ?_
        exact k_zret hx hb hr hlocks rfl hP hK hD hS (by unfold f_can f_can3; rw [if_neg (by decide), if_neg (by decide), if_neg (by decide), if_neg c_1, if_pos c_2]) dCV_canHold_95 ⟨Nat.le_of_ble_eq_true rfl, Nat.le_of_ble_eq_true rfl⟩
      · refine lv_iconst (v := 1) hx hb dCV_canHold_90 (by decide) ?_
        refine lv_goto (tgt := 95) hx hb dCV_canHold_91 (by decide) ?_
        exact k_zret hx hb hr hlocks rfl hP hK hD hS (by unfold f_can f_can3; rw [if_neg (by decide), if_neg (by decide), if_neg (by decide), if_neg c_1, if_neg c_2]) dCV_canHold_95 ⟨Nat.le_of_ble_eq_true rfl, Nat.le_of_ble_eq_true rfl⟩

set_option maxHeartbeats 4000000 in
set_option maxRecDepth 100000 in
theorem k_CV_canHold_no (l : Launch) (dC : Nat → ClassId) (dI : Nat → Nat → Nat) (cI cJ cG cZ : ClassId) (x : Int32) (v : Int64) (hx0 : x.toInt < 0 ∨ 3 < x.toInt) : k_M l yCV_canHold wsCV_canHold rm_CV_canHold (dC, dI) vwCl [(cI, .int), (cJ, .long), (cG, .array .long), (cZ, .boolean)] [.int x, .long v] [] (some (.int 0)) [] := by
  refine k_of (cc := cCV_canHold) (maxL := 3) (ret := (some .boolean)) (by decide) rfl (Nat.le_of_ble_eq_true rfl) ?_
  intro p e s m below meth c A ls hx hb hr hlocks hml hown hts hA hP hD hK hF hl hS
  have hown : s.vm.findClass RCV = some m.cls := hown
  have hl : lv_has ls 3 [(0, .int x), (1, .long v)] := hl
  refine lv_iload_n hx hb dCV_canHold_0 rfl (lv_at hl 0 rfl) ?_
  refine lv_tableOut (tgt := 96) hx hb dCV_canHold_1 hx0 (by decide) ?_
  refine lv_iconst (v := 0) hx hb dCV_canHold_96 (by decide) ?_
  exact k_zret hx hb hr hlocks rfl hP hK hD hS rfl dCV_canHold_97 ⟨Nat.le_of_ble_eq_true rfl, Nat.le_of_ble_eq_true rfl⟩

abbrev rm_CV_add : Room := { frames := 0, cells := 0, slots := 0, locals := 0 }
set_option maxHeartbeats 4000000 in
set_option maxRecDepth 100000 in
theorem k_CV_add (l : Launch) (dC : Nat → ClassId) (dI : Nat → Nat → Nat) (cI cJ cG cZ : ClassId) (h0 : Nat) (h1 : Nat) (h2 : Nat) (r : Nat → Nat) (sz : Nat → Int32) (v : Nat → Nat → Int64) (k : Nat) (n : Nat) (x : Int64) (hk : k < 4) (hn : sz k = nI n) (hn1 : n < 100) : k_M l yCV_add wsCV_add rm_CV_add (dC, dI) vwCl [(cI, .int), (cJ, .long), (cG, .array .long), (cZ, .boolean)] [.ref h0, .int (nI k), .long x] [(h0, .inr (0, [.ref h1, .ref h2])), (h1, .inl (cI, 4, .inl sz)), (h2, .inl (cG, 4, .inr (.inr (.inr (.inr (f_rw r)))))), (r 0, .inl (cJ, 100, .inr (.inl (v 0)))), (r 1, .inl (cJ, 100, .inr (.inl (v 1)))), (r 2, .inl (cJ, 100, .inr (.inl (v 2)))), (r 3, .inl (cJ, 100, .inr (.inl (v 3))))] (some (.int (nI n + 1))) [(h0, .inr (0, [.ref h1, .ref h2])), (h1, .inl (cI, 4, .inl (upd sz k (nI n + 1)))), (h2, .inl (cG, 4, .inr (.inr (.inr (.inr (f_rw r)))))), (r 0, .inl (cJ, 100, .inr (.inl (f_up v k n x 0)))), (r 1, .inl (cJ, 100, .inr (.inl (f_up v k n x 1)))), (r 2, .inl (cJ, 100, .inr (.inl (f_up v k n x 2)))), (r 3, .inl (cJ, 100, .inr (.inl (f_up v k n x 3))))] := by
  rcases (show k = 0 ∨ k = 1 ∨ k = 2 ∨ k = 3 by omega) with rfl | rfl | rfl | rfl
  · refine k_of (cc := cCV_add) (maxL := 4) (ret := (some .int)) (by decide) rfl (Nat.le_of_ble_eq_true rfl) ?_
    intro p e s m below meth c A ls hx hb hr hlocks hml hown hts hA hP hD hK hF hl hS
    have hown : s.vm.findClass RCV = some m.cls := hown
    have hl : lv_has ls 4 [(0, .ref h0), (1, .int (nI 0)), (2, .long x)] := hl
    refine lv_aload_n hx hb dCV_add_0 rfl (lv_at hl 0 rfl) ?_
    refine va_get (D := (dC, dI)) (ci := 0) (v := .ref h2) (C := RCV) (T := TCV) (N := 2) hx hb hts inCV hown hK hP 0 rfl rfl 1 (by decide) (hts _ m_f_CV_17) (fun _ h9 => h9) rfl dCV_add_1 ?_
    refine lv_iload_n hx hb dCV_add_4 rfl (lv_at hl 1 rfl) ?_
    refine k_ald (x := r 0) hx hb hK hP 2 2 rfl rfl (j := 0) rfl (by decide) (by decide) rfl dCV_add_5 ?_
    refine lv_aload_n hx hb dCV_add_6 rfl (lv_at hl 0 rfl) ?_
    refine va_get (D := (dC, dI)) (ci := 0) (v := .ref h1) (C := RCV) (T := TCV) (N := 2) hx hb hts inCV hown hK hP 0 rfl rfl 0 (by decide) (hts _ m_f_CV_9) (fun _ h9 => h9) rfl dCV_add_7 ?_
    refine lv_iload_n hx hb dCV_add_10 rfl (lv_at hl 1 rfl) ?_
    refine k_ild (v := sz 0) hx hb hK hP 1 0 rfl rfl (j := 0) rfl (by decide) (by decide) rfl dCV_add_11 ?_
    refine k_topi (y := nI n) hn ?_
    refine lv_lload_n hx hb dCV_add_12 rfl (lv_at hl 2 rfl) ?_
    refine k_lst (W1 := [(h0, .inr (0, [.ref h1, .ref h2])), (h1, .inl (cI, 4, .inl sz)), (h2, .inl (cG, 4, .inr (.inr (.inr (.inr (f_rw r)))))), (r 0, .inl (cJ, 100, .inr (.inl (vp_updL (v 0) n x)))), (r 1, .inl (cJ, 100, .inr (.inl (v 1)))), (r 2, .inl (cJ, 100, .inr (.inl (v 2)))), (r 3, .inl (cJ, 100, .inr (.inl (v 3))))]) hx hb hK hP hD hS 3 1 rfl rfl (j := n) rfl hn1 (by decide) rfl dCV_add_13 (fun H locs hP hD hS => ?_)
    refine lv_aload_n hx hb dCV_add_14 rfl (lv_at hl 0 rfl) ?_
    refine va_get (D := (dC, dI)) (ci := 0) (v := .ref h1) (C := RCV) (T := TCV) (N := 2) hx hb hts inCV hown hK hP 0 rfl rfl 0 (by decide) (hts _ m_f_CV_9) (fun _ h9 => h9) rfl dCV_add_15 ?_
    refine lv_iload_n hx hb dCV_add_18 rfl (lv_at hl 1 rfl) ?_
    refine lv_dup2_11 hx hb dCV_add_19 rfl rfl ?_
    refine k_ild (v := sz 0) hx hb hK hP 1 0 rfl rfl (j := 0) rfl (by decide) (by decide) rfl dCV_add_20 ?_
    refine k_topi (y := nI n) hn ?_
    refine lv_iconst (v := 1) hx hb dCV_add_21 (by decide) ?_
    refine lv_iadd hx hb dCV_add_22 ?_
    refine k_ist (W1 := [(h0, .inr (0, [.ref h1, .ref h2])), (h1, .inl (cI, 4, .inl (upd sz 0 ((nI n) + 1)))), (h2, .inl (cG, 4, .inr (.inr (.inr (.inr (f_rw r)))))), (r 0, .inl (cJ, 100, .inr (.inl (vp_updL (v 0) n x)))), (r 1, .inl (cJ, 100, .inr (.inl (v 1)))), (r 2, .inl (cJ, 100, .inr (.inl (v 2)))), (r 3, .inl (cJ, 100, .inr (.inl (v 3))))]) hx hb hK hP hD hS 1 0 rfl rfl (j := 0) rfl (by decide) (by decide) rfl dCV_add_23 (fun H locs hP hD hS => ?_)
    refine lv_aload_n hx hb dCV_add_24 rfl (lv_at hl 0 rfl) ?_
    refine va_get (D := (dC, dI)) (ci := 0) (v := .ref h1) (C := RCV) (T := TCV) (N := 2) hx hb hts inCV hown hK hP 0 rfl rfl 0 (by decide) (hts _ m_f_CV_9) (fun _ h9 => h9) rfl dCV_add_25 ?_
    refine lv_iload_n hx hb dCV_add_28 rfl (lv_at hl 1 rfl) ?_
    refine k_ild (v := ((nI n) + 1)) hx hb hK hP 1 0 rfl rfl (j := 0) rfl (by decide) (by decide) pk_us dCV_add_29 ?_
    exact k_iret hx hb hr hlocks hP hK hD hS rfl dCV_add_30 ⟨Nat.le_of_ble_eq_true rfl, Nat.le_of_ble_eq_true rfl⟩
  · refine k_of (cc := cCV_add) (maxL := 4) (ret := (some .int)) (by decide) rfl (Nat.le_of_ble_eq_true rfl) ?_
    intro p e s m below meth c A ls hx hb hr hlocks hml hown hts hA hP hD hK hF hl hS
    have hown : s.vm.findClass RCV = some m.cls := hown
    have hl : lv_has ls 4 [(0, .ref h0), (1, .int (nI 1)), (2, .long x)] := hl
    refine lv_aload_n hx hb dCV_add_0 rfl (lv_at hl 0 rfl) ?_
    refine va_get (D := (dC, dI)) (ci := 0) (v := .ref h2) (C := RCV) (T := TCV) (N := 2) hx hb hts inCV hown hK hP 0 rfl rfl 1 (by decide) (hts _ m_f_CV_17) (fun _ h9 => h9) rfl dCV_add_1 ?_
    refine lv_iload_n hx hb dCV_add_4 rfl (lv_at hl 1 rfl) ?_
    refine k_ald (x := r 1) hx hb hK hP 2 2 rfl rfl (j := 1) rfl (by decide) (by decide) rfl dCV_add_5 ?_
    refine lv_aload_n hx hb dCV_add_6 rfl (lv_at hl 0 rfl) ?_
    refine va_get (D := (dC, dI)) (ci := 0) (v := .ref h1) (C := RCV) (T := TCV) (N := 2) hx hb hts inCV hown hK hP 0 rfl rfl 0 (by decide) (hts _ m_f_CV_9) (fun _ h9 => h9) rfl dCV_add_7 ?_
    refine lv_iload_n hx hb dCV_add_10 rfl (lv_at hl 1 rfl) ?_
    refine k_ild (v := sz 1) hx hb hK hP 1 0 rfl rfl (j := 1) rfl (by decide) (by decide) rfl dCV_add_11 ?_
    refine k_topi (y := nI n) hn ?_
    refine lv_lload_n hx hb dCV_add_12 rfl (lv_at hl 2 rfl) ?_
    refine k_lst (W1 := [(h0, .inr (0, [.ref h1, .ref h2])), (h1, .inl (cI, 4, .inl sz)), (h2, .inl (cG, 4, .inr (.inr (.inr (.inr (f_rw r)))))), (r 0, .inl (cJ, 100, .inr (.inl (v 0)))), (r 1, .inl (cJ, 100, .inr (.inl (vp_updL (v 1) n x)))), (r 2, .inl (cJ, 100, .inr (.inl (v 2)))), (r 3, .inl (cJ, 100, .inr (.inl (v 3))))]) hx hb hK hP hD hS 4 1 rfl rfl (j := n) rfl hn1 (by decide) rfl dCV_add_13 (fun H locs hP hD hS => ?_)
    refine lv_aload_n hx hb dCV_add_14 rfl (lv_at hl 0 rfl) ?_
    refine va_get (D := (dC, dI)) (ci := 0) (v := .ref h1) (C := RCV) (T := TCV) (N := 2) hx hb hts inCV hown hK hP 0 rfl rfl 0 (by decide) (hts _ m_f_CV_9) (fun _ h9 => h9) rfl dCV_add_15 ?_
    refine lv_iload_n hx hb dCV_add_18 rfl (lv_at hl 1 rfl) ?_
    refine lv_dup2_11 hx hb dCV_add_19 rfl rfl ?_
    refine k_ild (v := sz 1) hx hb hK hP 1 0 rfl rfl (j := 1) rfl (by decide) (by decide) rfl dCV_add_20 ?_
    refine k_topi (y := nI n) hn ?_
    refine lv_iconst (v := 1) hx hb dCV_add_21 (by decide) ?_
    refine lv_iadd hx hb dCV_add_22 ?_
    refine k_ist (W1 := [(h0, .inr (0, [.ref h1, .ref h2])), (h1, .inl (cI, 4, .inl (upd sz 1 ((nI n) + 1)))), (h2, .inl (cG, 4, .inr (.inr (.inr (.inr (f_rw r)))))), (r 0, .inl (cJ, 100, .inr (.inl (v 0)))), (r 1, .inl (cJ, 100, .inr (.inl (vp_updL (v 1) n x)))), (r 2, .inl (cJ, 100, .inr (.inl (v 2)))), (r 3, .inl (cJ, 100, .inr (.inl (v 3))))]) hx hb hK hP hD hS 1 0 rfl rfl (j := 1) rfl (by decide) (by decide) rfl dCV_add_23 (fun H locs hP hD hS => ?_)
    refine lv_aload_n hx hb dCV_add_24 rfl (lv_at hl 0 rfl) ?_
    refine va_get (D := (dC, dI)) (ci := 0) (v := .ref h1) (C := RCV) (T := TCV) (N := 2) hx hb hts inCV hown hK hP 0 rfl rfl 0 (by decide) (hts _ m_f_CV_9) (fun _ h9 => h9) rfl dCV_add_25 ?_
    refine lv_iload_n hx hb dCV_add_28 rfl (lv_at hl 1 rfl) ?_
    refine k_ild (v := ((nI n) + 1)) hx hb hK hP 1 0 rfl rfl (j := 1) rfl (by decide) (by decide) pk_us dCV_add_29 ?_
    exact k_iret hx hb hr hlocks hP hK hD hS rfl dCV_add_30 ⟨Nat.le_of_ble_eq_true rfl, Nat.le_of_ble_eq_true rfl⟩
  · refine k_of (cc := cCV_add) (maxL := 4) (ret := (some .int)) (by decide) rfl (Nat.le_of_ble_eq_true rfl) ?_
    intro p e s m below meth c A ls hx hb hr hlocks hml hown hts hA hP hD hK hF hl hS
    have hown : s.vm.findClass RCV = some m.cls := hown
    have hl : lv_has ls 4 [(0, .ref h0), (1, .int (nI 2)), (2, .long x)] := hl
    refine lv_aload_n hx hb dCV_add_0 rfl (lv_at hl 0 rfl) ?_
    refine va_get (D := (dC, dI)) (ci := 0) (v := .ref h2) (C := RCV) (T := TCV) (N := 2) hx hb hts inCV hown hK hP 0 rfl rfl 1 (by decide) (hts _ m_f_CV_17) (fun _ h9 => h9) rfl dCV_add_1 ?_
    refine lv_iload_n hx hb dCV_add_4 rfl (lv_at hl 1 rfl) ?_
    refine k_ald (x := r 2) hx hb hK hP 2 2 rfl rfl (j := 2) rfl (by decide) (by decide) rfl dCV_add_5 ?_
    refine lv_aload_n hx hb dCV_add_6 rfl (lv_at hl 0 rfl) ?_
    refine va_get (D := (dC, dI)) (ci := 0) (v := .ref h1) (C := RCV) (T := TCV) (N := 2) hx hb hts inCV hown hK hP 0 rfl rfl 0 (by decide) (hts _ m_f_CV_9) (fun _ h9 => h9) rfl dCV_add_7 ?_
    refine lv_iload_n hx hb dCV_add_10 rfl (lv_at hl 1 rfl) ?_
    refine k_ild (v := sz 2) hx hb hK hP 1 0 rfl rfl (j := 2) rfl (by decide) (by decide) rfl dCV_add_11 ?_
    refine k_topi (y := nI n) hn ?_
    refine lv_lload_n hx hb dCV_add_12 rfl (lv_at hl 2 rfl) ?_
    refine k_lst (W1 := [(h0, .inr (0, [.ref h1, .ref h2])), (h1, .inl (cI, 4, .inl sz)), (h2, .inl (cG, 4, .inr (.inr (.inr (.inr (f_rw r)))))), (r 0, .inl (cJ, 100, .inr (.inl (v 0)))), (r 1, .inl (cJ, 100, .inr (.inl (v 1)))), (r 2, .inl (cJ, 100, .inr (.inl (vp_updL (v 2) n x)))), (r 3, .inl (cJ, 100, .inr (.inl (v 3))))]) hx hb hK hP hD hS 5 1 rfl rfl (j := n) rfl hn1 (by decide) rfl dCV_add_13 (fun H locs hP hD hS => ?_)
    refine lv_aload_n hx hb dCV_add_14 rfl (lv_at hl 0 rfl) ?_
    refine va_get (D := (dC, dI)) (ci := 0) (v := .ref h1) (C := RCV) (T := TCV) (N := 2) hx hb hts inCV hown hK hP 0 rfl rfl 0 (by decide) (hts _ m_f_CV_9) (fun _ h9 => h9) rfl dCV_add_15 ?_
    refine lv_iload_n hx hb dCV_add_18 rfl (lv_at hl 1 rfl) ?_
    refine lv_dup2_11 hx hb dCV_add_19 rfl rfl ?_
    refine k_ild (v := sz 2) hx hb hK hP 1 0 rfl rfl (j := 2) rfl (by decide) (by decide) rfl dCV_add_20 ?_
    refine k_topi (y := nI n) hn ?_
    refine lv_iconst (v := 1) hx hb dCV_add_21 (by decide) ?_
    refine lv_iadd hx hb dCV_add_22 ?_
    refine k_ist (W1 := [(h0, .inr (0, [.ref h1, .ref h2])), (h1, .inl (cI, 4, .inl (upd sz 2 ((nI n) + 1)))), (h2, .inl (cG, 4, .inr (.inr (.inr (.inr (f_rw r)))))), (r 0, .inl (cJ, 100, .inr (.inl (v 0)))), (r 1, .inl (cJ, 100, .inr (.inl (v 1)))), (r 2, .inl (cJ, 100, .inr (.inl (vp_updL (v 2) n x)))), (r 3, .inl (cJ, 100, .inr (.inl (v 3))))]) hx hb hK hP hD hS 1 0 rfl rfl (j := 2) rfl (by decide) (by decide) rfl dCV_add_23 (fun H locs hP hD hS => ?_)
    refine lv_aload_n hx hb dCV_add_24 rfl (lv_at hl 0 rfl) ?_
    refine va_get (D := (dC, dI)) (ci := 0) (v := .ref h1) (C := RCV) (T := TCV) (N := 2) hx hb hts inCV hown hK hP 0 rfl rfl 0 (by decide) (hts _ m_f_CV_9) (fun _ h9 => h9) rfl dCV_add_25 ?_
    refine lv_iload_n hx hb dCV_add_28 rfl (lv_at hl 1 rfl) ?_
    refine k_ild (v := ((nI n) + 1)) hx hb hK hP 1 0 rfl rfl (j := 2) rfl (by decide) (by decide) pk_us dCV_add_29 ?_
    exact k_iret hx hb hr hlocks hP hK hD hS rfl dCV_add_30 ⟨Nat.le_of_ble_eq_true rfl, Nat.le_of_ble_eq_true rfl⟩
  · refine k_of (cc := cCV_add) (maxL := 4) (ret := (some .int)) (by decide) rfl (Nat.le_of_ble_eq_true rfl) ?_
    intro p e s m below meth c A ls hx hb hr hlocks hml hown hts hA hP hD hK hF hl hS
    have hown : s.vm.findClass RCV = some m.cls := hown
    have hl : lv_has ls 4 [(0, .ref h0), (1, .int (nI 3)), (2, .long x)] := hl
    refine lv_aload_n hx hb dCV_add_0 rfl (lv_at hl 0 rfl) ?_
    refine va_get (D := (dC, dI)) (ci := 0) (v := .ref h2) (C := RCV) (T := TCV) (N := 2) hx hb hts inCV hown hK hP 0 rfl rfl 1 (by decide) (hts _ m_f_CV_17) (fun _ h9 => h9) rfl dCV_add_1 ?_
    refine lv_iload_n hx hb dCV_add_4 rfl (lv_at hl 1 rfl) ?_
    refine k_ald (x := r 3) hx hb hK hP 2 2 rfl rfl (j := 3) rfl (by decide) (by decide) rfl dCV_add_5 ?_
    refine lv_aload_n hx hb dCV_add_6 rfl (lv_at hl 0 rfl) ?_
    refine va_get (D := (dC, dI)) (ci := 0) (v := .ref h1) (C := RCV) (T := TCV) (N := 2) hx hb hts inCV hown hK hP 0 rfl rfl 0 (by decide) (hts _ m_f_CV_9) (fun _ h9 => h9) rfl dCV_add_7 ?_
    refine lv_iload_n hx hb dCV_add_10 rfl (lv_at hl 1 rfl) ?_
    refine k_ild (v := sz 3) hx hb hK hP 1 0 rfl rfl (j := 3) rfl (by decide) (by decide) rfl dCV_add_11 ?_
    refine k_topi (y := nI n) hn ?_
    refine lv_lload_n hx hb dCV_add_12 rfl (lv_at hl 2 rfl) ?_
    refine k_lst (W1 := [(h0, .inr (0, [.ref h1, .ref h2])), (h1, .inl (cI, 4, .inl sz)), (h2, .inl (cG, 4, .inr (.inr (.inr (.inr (f_rw r)))))), (r 0, .inl (cJ, 100, .inr (.inl (v 0)))), (r 1, .inl (cJ, 100, .inr (.inl (v 1)))), (r 2, .inl (cJ, 100, .inr (.inl (v 2)))), (r 3, .inl (cJ, 100, .inr (.inl (vp_updL (v 3) n x))))]) hx hb hK hP hD hS 6 1 rfl rfl (j := n) rfl hn1 (by decide) rfl dCV_add_13 (fun H locs hP hD hS => ?_)
    refine lv_aload_n hx hb dCV_add_14 rfl (lv_at hl 0 rfl) ?_
    refine va_get (D := (dC, dI)) (ci := 0) (v := .ref h1) (C := RCV) (T := TCV) (N := 2) hx hb hts inCV hown hK hP 0 rfl rfl 0 (by decide) (hts _ m_f_CV_9) (fun _ h9 => h9) rfl dCV_add_15 ?_
    refine lv_iload_n hx hb dCV_add_18 rfl (lv_at hl 1 rfl) ?_
    refine lv_dup2_11 hx hb dCV_add_19 rfl rfl ?_
    refine k_ild (v := sz 3) hx hb hK hP 1 0 rfl rfl (j := 3) rfl (by decide) (by decide) rfl dCV_add_20 ?_
    refine k_topi (y := nI n) hn ?_
    refine lv_iconst (v := 1) hx hb dCV_add_21 (by decide) ?_
    refine lv_iadd hx hb dCV_add_22 ?_
    refine k_ist (W1 := [(h0, .inr (0, [.ref h1, .ref h2])), (h1, .inl (cI, 4, .inl (upd sz 3 ((nI n) + 1)))), (h2, .inl (cG, 4, .inr (.inr (.inr (.inr (f_rw r)))))), (r 0, .inl (cJ, 100, .inr (.inl (v 0)))), (r 1, .inl (cJ, 100, .inr (.inl (v 1)))), (r 2, .inl (cJ, 100, .inr (.inl (v 2)))), (r 3, .inl (cJ, 100, .inr (.inl (vp_updL (v 3) n x))))]) hx hb hK hP hD hS 1 0 rfl rfl (j := 3) rfl (by decide) (by decide) rfl dCV_add_23 (fun H locs hP hD hS => ?_)
    refine lv_aload_n hx hb dCV_add_24 rfl (lv_at hl 0 rfl) ?_
    refine va_get (D := (dC, dI)) (ci := 0) (v := .ref h1) (C := RCV) (T := TCV) (N := 2) hx hb hts inCV hown hK hP 0 rfl rfl 0 (by decide) (hts _ m_f_CV_9) (fun _ h9 => h9) rfl dCV_add_25 ?_
    refine lv_iload_n hx hb dCV_add_28 rfl (lv_at hl 1 rfl) ?_
    refine k_ild (v := ((nI n) + 1)) hx hb hK hP 1 0 rfl rfl (j := 3) rfl (by decide) (by decide) pk_us dCV_add_29 ?_
    exact k_iret hx hb hr hlocks hP hK hD hS rfl dCV_add_30 ⟨Nat.le_of_ble_eq_true rfl, Nat.le_of_ble_eq_true rfl⟩

abbrev rm_CV_valueAt : Room := { frames := 0, cells := 0, slots := 0, locals := 0 }
set_option maxHeartbeats 4000000 in
set_option maxRecDepth 100000 in
theorem k_CV_valueAt (l : Launch) (dC : Nat → ClassId) (dI : Nat → Nat → Nat) (cI cJ cG cZ : ClassId) (h0 : Nat) (h1 : Nat) (h2 : Nat) (r : Nat → Nat) (sz : Nat → Int32) (v : Nat → Nat → Int64) (k : Nat) (j : Nat) (hk : k < 4) (hj : j < 100) : k_M l yCV_valueAt wsCV_valueAt rm_CV_valueAt (dC, dI) vwCl [(cI, .int), (cJ, .long), (cG, .array .long), (cZ, .boolean)] [.ref h0, .int (nI k), .int (nI j)] [(h0, .inr (0, [.ref h1, .ref h2])), (h1, .inl (cI, 4, .inl sz)), (h2, .inl (cG, 4, .inr (.inr (.inr (.inr (f_rw r)))))), (r 0, .inl (cJ, 100, .inr (.inl (v 0)))), (r 1, .inl (cJ, 100, .inr (.inl (v 1)))), (r 2, .inl (cJ, 100, .inr (.inl (v 2)))), (r 3, .inl (cJ, 100, .inr (.inl (v 3))))] (some (.long (v k j))) [(h0, .inr (0, [.ref h1, .ref h2])), (h1, .inl (cI, 4, .inl sz)), (h2, .inl (cG, 4, .inr (.inr (.inr (.inr (f_rw r)))))), (r 0, .inl (cJ, 100, .inr (.inl (v 0)))), (r 1, .inl (cJ, 100, .inr (.inl (v 1)))), (r 2, .inl (cJ, 100, .inr (.inl (v 2)))), (r 3, .inl (cJ, 100, .inr (.inl (v 3))))] := by
  rcases (show k = 0 ∨ k = 1 ∨ k = 2 ∨ k = 3 by omega) with rfl | rfl | rfl | rfl
  · refine k_of (cc := cCV_valueAt) (maxL := 3) (ret := (some .long)) (by decide) rfl (Nat.le_of_ble_eq_true rfl) ?_
    intro p e s m below meth c A ls hx hb hr hlocks hml hown hts hA hP hD hK hF hl hS
    have hown : s.vm.findClass RCV = some m.cls := hown
    have hl : lv_has ls 3 [(0, .ref h0), (1, .int (nI 0)), (2, .int (nI j))] := hl
    refine lv_aload_n hx hb dCV_valueAt_0 rfl (lv_at hl 0 rfl) ?_
    refine va_get (D := (dC, dI)) (ci := 0) (v := .ref h2) (C := RCV) (T := TCV) (N := 2) hx hb hts inCV hown hK hP 0 rfl rfl 1 (by decide) (hts _ m_f_CV_17) (fun _ h9 => h9) rfl dCV_valueAt_1 ?_
    refine lv_iload_n hx hb dCV_valueAt_4 rfl (lv_at hl 1 rfl) ?_
    refine k_ald (x := r 0) hx hb hK hP 2 2 rfl rfl (j := 0) rfl (by decide) (by decide) rfl dCV_valueAt_5 ?_
    refine lv_iload_n hx hb dCV_valueAt_6 rfl (lv_at hl 2 rfl) ?_
    refine k_lld (v := (v 0) j) hx hb hK hP 3 1 rfl rfl (j := j) rfl hj (by decide) rfl dCV_valueAt_7 ?_
    exact k_lret hx hb hr hlocks hP hK hD hS rfl dCV_valueAt_8 ⟨Nat.le_of_ble_eq_true rfl, Nat.le_of_ble_eq_true rfl⟩
  · refine k_of (cc := cCV_valueAt) (maxL := 3) (ret := (some .long)) (by decide) rfl (Nat.le_of_ble_eq_true rfl) ?_
    intro p e s m below meth c A ls hx hb hr hlocks hml hown hts hA hP hD hK hF hl hS
    have hown : s.vm.findClass RCV = some m.cls := hown
    have hl : lv_has ls 3 [(0, .ref h0), (1, .int (nI 1)), (2, .int (nI j))] := hl
    refine lv_aload_n hx hb dCV_valueAt_0 rfl (lv_at hl 0 rfl) ?_
    refine va_get (D := (dC, dI)) (ci := 0) (v := .ref h2) (C := RCV) (T := TCV) (N := 2) hx hb hts inCV hown hK hP 0 rfl rfl 1 (by decide) (hts _ m_f_CV_17) (fun _ h9 => h9) rfl dCV_valueAt_1 ?_
    refine lv_iload_n hx hb dCV_valueAt_4 rfl (lv_at hl 1 rfl) ?_
    refine k_ald (x := r 1) hx hb hK hP 2 2 rfl rfl (j := 1) rfl (by decide) (by decide) rfl dCV_valueAt_5 ?_
    refine lv_iload_n hx hb dCV_valueAt_6 rfl (lv_at hl 2 rfl) ?_
    refine k_lld (v := (v 1) j) hx hb hK hP 4 1 rfl rfl (j := j) rfl hj (by decide) rfl dCV_valueAt_7 ?_
    exact k_lret hx hb hr hlocks hP hK hD hS rfl dCV_valueAt_8 ⟨Nat.le_of_ble_eq_true rfl, Nat.le_of_ble_eq_true rfl⟩
  · refine k_of (cc := cCV_valueAt) (maxL := 3) (ret := (some .long)) (by decide) rfl (Nat.le_of_ble_eq_true rfl) ?_
    intro p e s m below meth c A ls hx hb hr hlocks hml hown hts hA hP hD hK hF hl hS
    have hown : s.vm.findClass RCV = some m.cls := hown
    have hl : lv_has ls 3 [(0, .ref h0), (1, .int (nI 2)), (2, .int (nI j))] := hl
    refine lv_aload_n hx hb dCV_valueAt_0 rfl (lv_at hl 0 rfl) ?_
    refine va_get (D := (dC, dI)) (ci := 0) (v := .ref h2) (C := RCV) (T := TCV) (N := 2) hx hb hts inCV hown hK hP 0 rfl rfl 1 (by decide) (hts _ m_f_CV_17) (fun _ h9 => h9) rfl dCV_valueAt_1 ?_
    refine lv_iload_n hx hb dCV_valueAt_4 rfl (lv_at hl 1 rfl) ?_
    refine k_ald (x := r 2) hx hb hK hP 2 2 rfl rfl (j := 2) rfl (by decide) (by decide) rfl dCV_valueAt_5 ?_
    refine lv_iload_n hx hb dCV_valueAt_6 rfl (lv_at hl 2 rfl) ?_
    refine k_lld (v := (v 2) j) hx hb hK hP 5 1 rfl rfl (j := j) rfl hj (by decide) rfl dCV_valueAt_7 ?_
    exact k_lret hx hb hr hlocks hP hK hD hS rfl dCV_valueAt_8 ⟨Nat.le_of_ble_eq_true rfl, Nat.le_of_ble_eq_true rfl⟩
  · refine k_of (cc := cCV_valueAt) (maxL := 3) (ret := (some .long)) (by decide) rfl (Nat.le_of_ble_eq_true rfl) ?_
    intro p e s m below meth c A ls hx hb hr hlocks hml hown hts hA hP hD hK hF hl hS
    have hown : s.vm.findClass RCV = some m.cls := hown
    have hl : lv_has ls 3 [(0, .ref h0), (1, .int (nI 3)), (2, .int (nI j))] := hl
    refine lv_aload_n hx hb dCV_valueAt_0 rfl (lv_at hl 0 rfl) ?_
    refine va_get (D := (dC, dI)) (ci := 0) (v := .ref h2) (C := RCV) (T := TCV) (N := 2) hx hb hts inCV hown hK hP 0 rfl rfl 1 (by decide) (hts _ m_f_CV_17) (fun _ h9 => h9) rfl dCV_valueAt_1 ?_
    refine lv_iload_n hx hb dCV_valueAt_4 rfl (lv_at hl 1 rfl) ?_
    refine k_ald (x := r 3) hx hb hK hP 2 2 rfl rfl (j := 3) rfl (by decide) (by decide) rfl dCV_valueAt_5 ?_
    refine lv_iload_n hx hb dCV_valueAt_6 rfl (lv_at hl 2 rfl) ?_
    refine k_lld (v := (v 3) j) hx hb hK hP 6 1 rfl rfl (j := j) rfl hj (by decide) rfl dCV_valueAt_7 ?_
    exact k_lret hx hb hr hlocks hP hK hD hS rfl dCV_valueAt_8 ⟨Nat.le_of_ble_eq_true rfl, Nat.le_of_ble_eq_true rfl⟩
