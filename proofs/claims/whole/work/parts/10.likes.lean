abbrev rm_NU_isLike : Room := { frames := 0, cells := 0, slots := 0, locals := 0 }
set_option maxHeartbeats 4000000 in
set_option maxRecDepth 100000 in
theorem k_NU_isLike (l : Launch) (dC : Nat → ClassId) (dI : Nat → Nat → Nat) (cI cJ cG cZ : ClassId) (h0 : Nat) (h1 : Nat) (h2 : Nat) (md : Nat → Int32) (kn : Nat → Int64) (g0 : Nat) (g1 : Nat) (g2 : Nat) (md2 : Nat → Int32) (kn2 : Nat → Int64) : k_M l yNU_isLike wsNU_isLike rm_NU_isLike (dC, dI) vwCl [(cI, .int), (cJ, .long), (cG, .array .long), (cZ, .boolean)] [.ref h0, .ref g0] [(h0, .inr (3, [.ref h1, .ref h2])), (h1, .inl (cI, 8, .inl md)), (h2, .inl (cJ, 8, .inr (.inl kn))), (g0, .inr (3, [.ref g1, .ref g2])), (g1, .inl (cI, 8, .inl md2)), (g2, .inl (cJ, 8, .inr (.inl kn2)))] (some (.int (if ∀ j : Nat, j < 8 → md j = md2 j ∧ kn j = kn2 j then 1 else 0))) [(h0, .inr (3, [.ref h1, .ref h2])), (h1, .inl (cI, 8, .inl md)), (h2, .inl (cJ, 8, .inr (.inl kn))), (g0, .inr (3, [.ref g1, .ref g2])), (g1, .inl (cI, 8, .inl md2)), (g2, .inl (cJ, 8, .inr (.inl kn2)))] := by
  refine k_of (cc := cNU_isLike) (maxL := 3) (ret := (some .boolean)) (by decide) rfl (Nat.le_of_ble_eq_true rfl) ?_
  intro p e s m below meth c A ls hx hb hr hlocks hml hown hts hA hP hD hK hF hl hS
  have hown : s.vm.findClass RNU = some m.cls := hown
  have hl : lv_has ls 3 [(0, .ref h0), (1, .ref g0)] := hl
  refine lv_iconst (v := 0) hx hb dNU_isLike_0 (by decide) ?_
  refine lv_istore_n (lv' := [(2, .int 0), (0, .ref h0), (1, .ref g0)]) hx hb dNU_isLike_1 rfl hl (by decide) rfl (fun ls hl => ?_)
  have hl : lv_has ls 3 [(2, .int (nI 0)), (0, .ref h0), (1, .ref g0)] := hl
  have lp : ∀ (n i : Nat), 8 < i + n → i ≤ 8 → (∀ j : Nat, j < i → md j = md2 j ∧ kn j = kn2 j) → ∀ (H : Heap) (locs : List Loc), va_P (dC, dI) vwCl [(h0, .inr (3, [.ref h1, .ref h2])), (h1, .inl (cI, 8, .inl md)), (h2, .inl (cJ, 8, .inr (.inl kn))), (g0, .inr (3, [.ref g1, .ref g2])), (g1, .inl (cI, 8, .inl md2)), (g2, .inl (cJ, 8, .inr (.inl kn2)))] H → va_D A [(h0, .inr (3, [.ref h1, .ref h2])), (h1, .inl (cI, 8, .inl md)), (h2, .inl (cJ, 8, .inr (.inl kn))), (g0, .inr (3, [.ref g1, .ref g2])), (g1, .inl (cI, 8, .inl md2)), (g2, .inl (cJ, 8, .inr (.inl kn2)))] → va_S A s.heap H locs → ∀ (ls : Array Slot), lv_has ls 3 [(2, .int (nI i)), (0, .ref h0), (1, .ref g0)] → W p l e rm_NU_isLike s m ([.ref h0, .ref g0] : List Value).toArray below meth c H locs 0 0 (MQ below (k_Q (dC, dI) vwCl [(cI, .int), (cJ, .long), (cG, .array .long), (cZ, .boolean)] (some (.int (if ∀ j : Nat, j < 8 → md j = md2 j ∧ kn j = kn2 j then 1 else 0))) [(h0, .inr (3, [.ref h1, .ref h2])), (h1, .inl (cI, 8, .inl md)), (h2, .inl (cJ, 8, .inr (.inl kn))), (g0, .inr (3, [.ref g1, .ref g2])), (g1, .inl (cI, 8, .inl md2)), (g2, .inl (cJ, 8, .inr (.inl kn2)))] A) ([.ref h0, .ref g0] : List Value).toArray s rm_NU_isLike.cells rm_NU_isLike.slots A) (F0 m 2 ls []) := by
    intro n
    induction n with
    | zero => intro i h8 h9; exact absurd h8 (by omega)
    | succ n ih =>
      intro i hn hle hinv H locs hP hD hS ls hl
      refine lv_iload_n hx hb dNU_isLike_2 rfl (lv_at hl 0 rfl) ?_
      refine lv_bipush (v := 8) hx hb dNU_isLike_3 (by decide) ?_
      refine lv_icmp_ge (tgt := 47) hx hb dNU_isLike_5 (by decide) (fun c_1 => ?_) (fun c_1 => ?_)
      · refine lv_iconst (v := 1) hx hb dNU_isLike_47 (by decide) ?_
        exact k_zret hx hb hr hlocks rfl hP hK hD hS (if_pos (fun j hj => hinv j (by have h9 := (n_le (n := 8) rfl (by decide) (by omega)).mp c_1; omega))).symm dNU_isLike_48 ⟨Nat.le_of_ble_eq_true rfl, Nat.le_of_ble_eq_true rfl⟩
      · have hlt : i < 8 := by rcases Nat.lt_or_ge i 8 with q9 | q9; exact q9; exact absurd ((n_le rfl (by decide) (by omega)).mpr q9) c_1
        refine lv_aload_n hx hb dNU_isLike_8 rfl (lv_at hl 1 rfl) ?_
        refine va_get (D := (dC, dI)) (ci := 3) (v := .ref h1) (C := RNU) (T := TNU) (N := 2) hx hb hts inNU hown hK hP 0 rfl rfl 0 (by decide) (hts _ m_f_NU_9) (fun _ h9 => h9) rfl dNU_isLike_9 ?_
        refine lv_iload_n hx hb dNU_isLike_12 rfl (lv_at hl 0 rfl) ?_
        refine k_ild (v := md i) hx hb hK hP 1 0 rfl rfl (j := i) rfl hlt (by decide) rfl dNU_isLike_13 ?_
        refine lv_aload_n hx hb dNU_isLike_14 rfl (lv_at hl 2 rfl) ?_
        refine va_get (D := (dC, dI)) (ci := 3) (v := .ref g1) (C := RNU) (T := TNU) (N := 2) hx hb hts inNU hown hK hP 3 rfl rfl 0 (by decide) (hts _ m_f_NU_9) (fun _ h9 => h9) rfl dNU_isLike_15 ?_
        refine lv_iload_n hx hb dNU_isLike_18 rfl (lv_at hl 0 rfl) ?_
        refine k_ild (v := md2 i) hx hb hK hP 4 0 rfl rfl (j := i) rfl hlt (by decide) rfl dNU_isLike_19 ?_
        refine lv_icmp_ne (tgt := 39) hx hb dNU_isLike_20 (by decide) (fun c_2 => ?_) (fun c_2 => ?_)
        · refine lv_iconst (v := 0) hx hb dNU_isLike_39 (by decide) ?_
          exact k_zret hx hb hr hlocks rfl hP hK hD hS (if_neg (fun h9 => c_2 (h9 i hlt).1)).symm dNU_isLike_40 ⟨Nat.le_of_ble_eq_true rfl, Nat.le_of_ble_eq_true rfl⟩
        · refine lv_aload_n hx hb dNU_isLike_23 rfl (lv_at hl 1 rfl) ?_
          refine va_get (D := (dC, dI)) (ci := 3) (v := .ref h2) (C := RNU) (T := TNU) (N := 2) hx hb hts inNU hown hK hP 0 rfl rfl 1 (by decide) (hts _ m_f_NU_15) (fun _ h9 => h9) rfl dNU_isLike_24 ?_
          refine lv_iload_n hx hb dNU_isLike_27 rfl (lv_at hl 0 rfl) ?_
          refine k_lld (v := kn i) hx hb hK hP 2 1 rfl rfl (j := i) rfl hlt (by decide) rfl dNU_isLike_28 ?_
          refine lv_aload_n hx hb dNU_isLike_29 rfl (lv_at hl 2 rfl) ?_
          refine va_get (D := (dC, dI)) (ci := 3) (v := .ref g2) (C := RNU) (T := TNU) (N := 2) hx hb hts inNU hown hK hP 3 rfl rfl 1 (by decide) (hts _ m_f_NU_15) (fun _ h9 => h9) rfl dNU_isLike_30 ?_
          refine lv_iload_n hx hb dNU_isLike_33 rfl (lv_at hl 0 rfl) ?_
          refine k_lld (v := kn2 i) hx hb hK hP 5 1 rfl rfl (j := i) rfl hlt (by decide) rfl dNU_isLike_34 ?_
          refine W.lcmp hx hb dNU_isLike_35 ?_
          refine lv_if_eq (tgt := 41) hx hb dNU_isLike_36 (by decide) (fun c_3 => ?_) (fun c_3 => ?_)
          · refine lv_iinc (v := nI (i + 1)) (lv' := [(2, .int (nI (i + 1))), (0, .ref h0), (1, .ref g0)]) hx hb dNU_isLike_41 hl (k := 0) rfl (nI_1 _) (by decide) rfl (fun ls hl => ?_)
            refine lv_goto (tgt := 2) hx hb dNU_isLike_44 (by decide) ?_
            exact ih (i + 1) (by omega) (by omega) (lt_s hinv ⟨c_2, n_eq0.mp c_3⟩) _ _ hP hD hS ls (lv_sub hl [0, 1, 2] rfl)
          · refine lv_iconst (v := 0) hx hb dNU_isLike_39 (by decide) ?_
            exact k_zret hx hb hr hlocks rfl hP hK hD hS (if_neg (fun h9 => c_3 (n_eq0.mpr (h9 i hlt).2))).symm dNU_isLike_40 ⟨Nat.le_of_ble_eq_true rfl, Nat.le_of_ble_eq_true rfl⟩
  exact lp (8 + 1) 0 (by omega) (by omega) lt_0 _ _ hP hD hS ls hl

abbrev rm_NU_knownAt : Room := { frames := 2, cells := 0, slots := 0, locals := 44 }
set_option maxHeartbeats 4000000 in
set_option maxRecDepth 100000 in
theorem k_NU_knownAt (l : Launch) (dC : Nat → ClassId) (dI : Nat → Nat → Nat) (cI cJ cG cZ : ClassId) (h0 : Nat) (h1 : Nat) (h2 : Nat) (md : Nat → Int32) (kn : Nat → Int64) (k : Nat) (M : Nat) (i : Int32) (hk : k < 8) (hM : md k = nI M) (hM4 : M ≤ 40) : k_M l yNU_knownAt wsNU_knownAt rm_NU_knownAt (dC, dI) vwCl [(cI, .int), (cJ, .long), (cG, .array .long), (cZ, .boolean)] [.ref h0, .int (nI k), .int i] [(h0, .inr (3, [.ref h1, .ref h2])), (h1, .inl (cI, 8, .inl md)), (h2, .inl (cJ, 8, .inr (.inl kn)))] (some (.int (f_find (f_P md kn k) i M 1 0))) [(h0, .inr (3, [.ref h1, .ref h2])), (h1, .inl (cI, 8, .inl md)), (h2, .inl (cJ, 8, .inr (.inl kn)))] := by
  refine k_of (cc := cNU_knownAt) (maxL := 5) (ret := (some .int)) (by decide) rfl (Nat.le_of_ble_eq_true rfl) ?_
  intro p e s m below meth c A ls hx hb hr hlocks hml hown hts hA hP hD hK hF hl hS
  have hown : s.vm.findClass RNU = some m.cls := hown
  have hl : lv_has ls 5 [(0, .ref h0), (1, .int (nI k)), (2, .int i)] := hl
  refine lv_iconst (v := 0) hx hb dNU_knownAt_0 (by decide) ?_
  refine lv_istore_n (lv' := [(3, .int 0), (0, .ref h0), (1, .int (nI k)), (2, .int i)]) hx hb dNU_knownAt_1 rfl hl (by decide) rfl (fun ls hl => ?_)
  refine lv_iconst (v := 1) hx hb dNU_knownAt_2 (by decide) ?_
  refine lv_istore (lv' := [(4, .int 1), (3, .int 0), (0, .ref h0), (1, .int (nI k)), (2, .int i)]) hx hb dNU_knownAt_3 hl (by decide) rfl (fun ls hl => ?_)
  have hl : lv_has ls 5 [(4, .int (nI 1)), (3, .int (nI 0)), (0, .ref h0), (1, .int (nI k)), (2, .int i)] := hl
  have lp : ∀ (n a b : Nat), M + 1 < a + n → a ≤ M + 1 → (f_find (f_P md kn k) i M 1 0 = f_find (f_P md kn k) i (M + 1 - a) a b) → ∀ (H : Heap) (locs : List Loc), va_P (dC, dI) vwCl [(h0, .inr (3, [.ref h1, .ref h2])), (h1, .inl (cI, 8, .inl md)), (h2, .inl (cJ, 8, .inr (.inl kn)))] H → va_D A [(h0, .inr (3, [.ref h1, .ref h2])), (h1, .inl (cI, 8, .inl md)), (h2, .inl (cJ, 8, .inr (.inl kn)))] → va_S A s.heap H locs → ∀ (ls : Array Slot), lv_has ls 5 [(4, .int (nI a)), (3, .int (nI b)), (0, .ref h0), (1, .int (nI k)), (2, .int i)] → W p l e rm_NU_knownAt s m ([.ref h0, .int (nI k), .int i] : List Value).toArray below meth c H locs 0 0 (MQ below (k_Q (dC, dI) vwCl [(cI, .int), (cJ, .long), (cG, .array .long), (cZ, .boolean)] (some (.int (f_find (f_P md kn k) i M 1 0))) [(h0, .inr (3, [.ref h1, .ref h2])), (h1, .inl (cI, 8, .inl md)), (h2, .inl (cJ, 8, .inr (.inl kn)))] A) ([.ref h0, .int (nI k), .int i] : List Value).toArray s rm_NU_knownAt.cells rm_NU_knownAt.slots A) (F0 m 5 ls []) := by
    intro n
    induction n with
    | zero => intro a b h8 h9; exact absurd h8 (by omega)
    | succ n ih =>
      intro a b hn hle hinv H locs hP hD hS ls hl
      refine lv_iload hx hb dNU_knownAt_5 (lv_at hl 0 rfl) ?_
      refine lv_aload_n hx hb dNU_knownAt_7 rfl (lv_at hl 2 rfl) ?_
      refine va_get (D := (dC, dI)) (ci := 3) (v := .ref h1) (C := RNU) (T := TNU) (N := 2) hx hb hts inNU hown hK hP 0 rfl rfl 0 (by decide) (hts _ m_f_NU_9) (fun _ h9 => h9) rfl dNU_knownAt_8 ?_
      refine lv_iload_n hx hb dNU_knownAt_11 rfl (lv_at hl 3 rfl) ?_
      refine k_ild (v := md k) hx hb hK hP 1 0 rfl rfl (j := k) rfl hk (by decide) rfl dNU_knownAt_12 ?_
      refine lv_icmp_gt (tgt := 43) hx hb dNU_knownAt_13 (by decide) (fun c_1 => ?_) (fun c_1 => ?_)
      · refine lv_iconst (v := (-1)) hx hb dNU_knownAt_43 (by decide) ?_
        exact k_iret hx hb hr hlocks hP hK hD hS (hinv.trans (f_find0 (by have h9 : M < a := (nI_ltI (by omega) (by omega)).mp (by rw [← hM]; exact c_1); omega))).symm dNU_knownAt_44 ⟨Nat.le_of_ble_eq_true rfl, Nat.le_of_ble_eq_true rfl⟩
      · have hlt : a ≤ M := by rcases Nat.lt_or_ge M a with q9 | q9; exact absurd (by rw [hM]; exact nI_lt q9 (by omega)) c_1; exact q9
        refine lv_aload_n hx hb dNU_knownAt_16 rfl (lv_at hl 2 rfl) ?_
        refine lv_iload_n hx hb dNU_knownAt_17 rfl (lv_at hl 3 rfl) ?_
        refine lv_iload hx hb dNU_knownAt_18 (lv_at hl 0 rfl) ?_
        refine k_V (wr := []) (W1 := [(h0, .inr (3, [.ref h1, .ref h2])), (h1, .inl (cI, 8, .inl md)), (h2, .inl (cJ, 8, .inr (.inl kn)))]) (st1 := [.int (f_isKnown md kn k (nI a))]) ⟨hx, hb, hml, hown, hts⟩ (k_NU_isKnown l dC dI cI cJ cG cZ h0 h1 h2 md kn k (nI a) hk) (cwV 2 hts (k_gV m_l_NU_35 m_i_NU_isKnown m_s_NU_isKnown m_in_NU m_c_NU_isKnown) rfl rfl rfl (by decide +kernel) ⟨Nat.le_of_ble_eq_true rfl, Nat.le_of_ble_eq_true rfl⟩) hK hF hP hD hS hA [0, 1, 2] [] [0, 1, 2] rfl rfl (by decide) (by decide) (by decide) rfl (by decide) rfl rfl rfl rfl hl.1 rfl (Nat.le_of_ble_eq_true rfl) dNU_knownAt_20 ⟨Nat.le_of_ble_eq_true rfl, Nat.le_of_ble_eq_true rfl⟩ rfl (fun H locs hP hD hS => ?_)
        refine lv_if_eq (tgt := 37) hx hb dNU_knownAt_23 (by decide) (fun c_2 => ?_) (fun c_2 => ?_)
        · refine lv_iinc (v := nI (a + 1)) (lv' := [(4, .int (nI (a + 1))), (3, .int (nI b)), (0, .ref h0), (1, .int (nI k)), (2, .int i)]) hx hb dNU_knownAt_37 hl (k := 0) rfl (nI_1 _) (by decide) rfl (fun ls hl => ?_)
          refine lv_goto (tgt := 5) hx hb dNU_knownAt_40 (by decide) ?_
          exact ih (a + 1) b (by omega) (by omega) (hinv.trans (f_findN (g := M + 1 - (a + 1)) (by omega) (by unfold f_P; simp [c_2]))) _ _ hP hD hS ls (lv_sub hl [0, 1, 2, 3, 4] rfl)
        · refine lv_iload_n hx hb dNU_knownAt_26 rfl (lv_at hl 1 rfl) ?_
          refine lv_iload_n hx hb dNU_knownAt_27 rfl (lv_at hl 4 rfl) ?_
          refine lv_icmp_ne (tgt := 34) hx hb dNU_knownAt_28 (by decide) (fun c_3 => ?_) (fun c_3 => ?_)
          · refine lv_iinc (v := nI (b + 1)) (lv' := [(3, .int (nI (b + 1))), (4, .int (nI a)), (0, .ref h0), (1, .int (nI k)), (2, .int i)]) hx hb dNU_knownAt_34 hl (k := 1) rfl (nI_1 _) (by decide) rfl (fun ls hl => ?_)
            refine lv_iinc (v := nI (a + 1)) (lv' := [(4, .int (nI (a + 1))), (3, .int (nI (b + 1))), (0, .ref h0), (1, .int (nI k)), (2, .int i)]) hx hb dNU_knownAt_37 hl (k := 1) rfl (nI_1 _) (by decide) rfl (fun ls hl => ?_)
            refine lv_goto (tgt := 5) hx hb dNU_knownAt_40 (by decide) ?_
            exact ih (a + 1) (b + 1) (by omega) (by omega) (hinv.trans (f_findG (g := M + 1 - (a + 1)) (by omega) (by unfold f_P; simp [c_2]) c_3)) _ _ hP hD hS ls (lv_sub hl [0, 1, 2, 3, 4] rfl)
          · refine lv_iload hx hb dNU_knownAt_31 (lv_at hl 0 rfl) ?_
            exact k_iret hx hb hr hlocks hP hK hD hS (hinv.trans (f_findY (g := M + 1 - (a + 1)) (by omega) (by unfold f_P; simp [c_2]) c_3)).symm dNU_knownAt_33 ⟨Nat.le_of_ble_eq_true rfl, Nat.le_of_ble_eq_true rfl⟩
  exact lp (M + 1 + 1) 1 0 (by omega) (by omega) rfl _ _ hP hD hS ls hl

abbrev rm_PT_hasSumsOf : Room := { frames := 0, cells := 0, slots := 0, locals := 0 }
set_option maxHeartbeats 4000000 in
set_option maxRecDepth 100000 in
theorem k_PT_hasSumsOf (l : Launch) (dC : Nat → ClassId) (dI : Nat → Nat → Nat) (cI cJ cG cZ : ClassId) (h0 : Nat) (h1 : Nat) (h2 : Nat) (h3 : Nat) (an : Nat → Int64) (sm : Nat → Int64) (fl : Nat → Int32) (g0 : Nat) (g1 : Nat) (g2 : Nat) (g3 : Nat) (xan : Nat → Int64) (xsm : Nat → Int64) (xfl : Nat → Int32) : k_M l yPT_hasSumsOf wsPT_hasSumsOf rm_PT_hasSumsOf (dC, dI) vwCl [(cI, .int), (cJ, .long), (cG, .array .long), (cZ, .boolean)] [.ref h0, .ref g0] [(h0, .inr (4, [.ref h1, .ref h2, .ref h3])), (h1, .inl (cJ, 12, .inr (.inl an))), (h2, .inl (cJ, 12, .inr (.inl sm))), (h3, .inl (cI, 12, .inl fl)), (g0, .inr (4, [.ref g1, .ref g2, .ref g3])), (g1, .inl (cJ, 12, .inr (.inl xan))), (g2, .inl (cJ, 12, .inr (.inl xsm))), (g3, .inl (cI, 12, .inl xfl))] (some (.int (if ∀ j : Nat, j < 12 → sm j = xsm j then 1 else 0))) [(h0, .inr (4, [.ref h1, .ref h2, .ref h3])), (h1, .inl (cJ, 12, .inr (.inl an))), (h2, .inl (cJ, 12, .inr (.inl sm))), (h3, .inl (cI, 12, .inl fl)), (g0, .inr (4, [.ref g1, .ref g2, .ref g3])), (g1, .inl (cJ, 12, .inr (.inl xan))), (g2, .inl (cJ, 12, .inr (.inl xsm))), (g3, .inl (cI, 12, .inl xfl))] := by
  refine k_of (cc := cPT_hasSumsOf) (maxL := 3) (ret := (some .boolean)) (by decide) rfl (Nat.le_of_ble_eq_true rfl) ?_
  intro p e s m below meth c A ls hx hb hr hlocks hml hown hts hA hP hD hK hF hl hS
  have hown : s.vm.findClass RPT = some m.cls := hown
  have hl : lv_has ls 3 [(0, .ref h0), (1, .ref g0)] := hl
  refine lv_iconst (v := 0) hx hb dPT_hasSumsOf_0 (by decide) ?_
  refine lv_istore_n (lv' := [(2, .int 0), (0, .ref h0), (1, .ref g0)]) hx hb dPT_hasSumsOf_1 rfl hl (by decide) rfl (fun ls hl => ?_)
  have hl : lv_has ls 3 [(2, .int (nI 0)), (0, .ref h0), (1, .ref g0)] := hl
  have lp : ∀ (n i : Nat), 12 < i + n → i ≤ 12 → (∀ j : Nat, j < i → sm j = xsm j) → ∀ (H : Heap) (locs : List Loc), va_P (dC, dI) vwCl [(h0, .inr (4, [.ref h1, .ref h2, .ref h3])), (h1, .inl (cJ, 12, .inr (.inl an))), (h2, .inl (cJ, 12, .inr (.inl sm))), (h3, .inl (cI, 12, .inl fl)), (g0, .inr (4, [.ref g1, .ref g2, .ref g3])), (g1, .inl (cJ, 12, .inr (.inl xan))), (g2, .inl (cJ, 12, .inr (.inl xsm))), (g3, .inl (cI, 12, .inl xfl))] H → va_D A [(h0, .inr (4, [.ref h1, .ref h2, .ref h3])), (h1, .inl (cJ, 12, .inr (.inl an))), (h2, .inl (cJ, 12, .inr (.inl sm))), (h3, .inl (cI, 12, .inl fl)), (g0, .inr (4, [.ref g1, .ref g2, .ref g3])), (g1, .inl (cJ, 12, .inr (.inl xan))), (g2, .inl (cJ, 12, .inr (.inl xsm))), (g3, .inl (cI, 12, .inl xfl))] → va_S A s.heap H locs → ∀ (ls : Array Slot), lv_has ls 3 [(2, .int (nI i)), (0, .ref h0), (1, .ref g0)] → W p l e rm_PT_hasSumsOf s m ([.ref h0, .ref g0] : List Value).toArray below meth c H locs 0 0 (MQ below (k_Q (dC, dI) vwCl [(cI, .int), (cJ, .long), (cG, .array .long), (cZ, .boolean)] (some (.int (if ∀ j : Nat, j < 12 → sm j = xsm j then 1 else 0))) [(h0, .inr (4, [.ref h1, .ref h2, .ref h3])), (h1, .inl (cJ, 12, .inr (.inl an))), (h2, .inl (cJ, 12, .inr (.inl sm))), (h3, .inl (cI, 12, .inl fl)), (g0, .inr (4, [.ref g1, .ref g2, .ref g3])), (g1, .inl (cJ, 12, .inr (.inl xan))), (g2, .inl (cJ, 12, .inr (.inl xsm))), (g3, .inl (cI, 12, .inl xfl))] A) ([.ref h0, .ref g0] : List Value).toArray s rm_PT_hasSumsOf.cells rm_PT_hasSumsOf.slots A) (F0 m 2 ls []) := by
    intro n
    induction n with
    | zero => intro i h8 h9; exact absurd h8 (by omega)
    | succ n ih =>
      intro i hn hle hinv H locs hP hD hS ls hl
      refine lv_iload_n hx hb dPT_hasSumsOf_2 rfl (lv_at hl 0 rfl) ?_
      refine lv_bipush (v := 12) hx hb dPT_hasSumsOf_3 (by decide) ?_
      refine lv_icmp_ge (tgt := 32) hx hb dPT_hasSumsOf_5 (by decide) (fun c_1 => ?_) (fun c_1 => ?_)
      · refine lv_iconst (v := 1) hx hb dPT_hasSumsOf_32 (by decide) ?_
        exact k_zret hx hb hr hlocks rfl hP hK hD hS (if_pos (fun j hj => hinv j (by have h9 := (n_le (n := 12) rfl (by decide) (by omega)).mp c_1; omega))).symm dPT_hasSumsOf_33 ⟨Nat.le_of_ble_eq_true rfl, Nat.le_of_ble_eq_true rfl⟩
      · have hlt : i < 12 := by rcases Nat.lt_or_ge i 12 with q9 | q9; exact q9; exact absurd ((n_le rfl (by decide) (by omega)).mpr q9) c_1
        refine lv_aload_n hx hb dPT_hasSumsOf_8 rfl (lv_at hl 1 rfl) ?_
        refine va_get (D := (dC, dI)) (ci := 4) (v := .ref h2) (C := RPT) (T := TPT) (N := 3) hx hb hts inPT hown hK hP 0 rfl rfl 1 (by decide) (hts _ m_f_PT_15) (fun _ h9 => h9) rfl dPT_hasSumsOf_9 ?_
        refine lv_iload_n hx hb dPT_hasSumsOf_12 rfl (lv_at hl 0 rfl) ?_
        refine k_lld (v := sm i) hx hb hK hP 2 1 rfl rfl (j := i) rfl hlt (by decide) rfl dPT_hasSumsOf_13 ?_
        refine lv_aload_n hx hb dPT_hasSumsOf_14 rfl (lv_at hl 2 rfl) ?_
        refine va_get (D := (dC, dI)) (ci := 4) (v := .ref g2) (C := RPT) (T := TPT) (N := 3) hx hb hts inPT hown hK hP 4 rfl rfl 1 (by decide) (hts _ m_f_PT_15) (fun _ h9 => h9) rfl dPT_hasSumsOf_15 ?_
        refine lv_iload_n hx hb dPT_hasSumsOf_18 rfl (lv_at hl 0 rfl) ?_
        refine k_lld (v := xsm i) hx hb hK hP 6 1 rfl rfl (j := i) rfl hlt (by decide) rfl dPT_hasSumsOf_19 ?_
        refine W.lcmp hx hb dPT_hasSumsOf_20 ?_
        refine lv_if_eq (tgt := 26) hx hb dPT_hasSumsOf_21 (by decide) (fun c_2 => ?_) (fun c_2 => ?_)
        · refine lv_iinc (v := nI (i + 1)) (lv' := [(2, .int (nI (i + 1))), (0, .ref h0), (1, .ref g0)]) hx hb dPT_hasSumsOf_26 hl (k := 0) rfl (nI_1 _) (by decide) rfl (fun ls hl => ?_)
          refine lv_goto (tgt := 2) hx hb dPT_hasSumsOf_29 (by decide) ?_
          exact ih (i + 1) (by omega) (by omega) (lt_s hinv (n_eq0.mp c_2)) _ _ hP hD hS ls (lv_sub hl [0, 1, 2] rfl)
        · refine lv_iconst (v := 0) hx hb dPT_hasSumsOf_24 (by decide) ?_
          exact k_zret hx hb hr hlocks rfl hP hK hD hS (if_neg (fun h9 => c_2 (n_eq0.mpr (h9 i hlt)))).symm dPT_hasSumsOf_25 ⟨Nat.le_of_ble_eq_true rfl, Nat.le_of_ble_eq_true rfl⟩
  exact lp (12 + 1) 0 (by omega) (by omega) lt_0 _ _ hP hD hS ls hl

abbrev rm_TL_isLike : Room := { frames := 0, cells := 0, slots := 0, locals := 0 }
set_option maxHeartbeats 4000000 in
set_option maxRecDepth 100000 in
theorem k_TL_isLike (l : Launch) (dC : Nat → ClassId) (dI : Nat → Nat → Nat) (cI cJ cG cZ : ClassId) (h0 : Nat) (h1 : Nat) (tf : Nat → Int64) (g0 : Nat) (g1 : Nat) (xtf : Nat → Int64) : k_M l yTL_isLike wsTL_isLike rm_TL_isLike (dC, dI) vwCl [(cI, .int), (cJ, .long), (cG, .array .long), (cZ, .boolean)] [.ref h0, .ref g0] [(h0, .inr (5, [.ref h1])), (h1, .inl (cJ, 8, .inr (.inl tf))), (g0, .inr (5, [.ref g1])), (g1, .inl (cJ, 8, .inr (.inl xtf)))] (some (.int (if ∀ j : Nat, j < 8 → tf j = xtf j then 1 else 0))) [(h0, .inr (5, [.ref h1])), (h1, .inl (cJ, 8, .inr (.inl tf))), (g0, .inr (5, [.ref g1])), (g1, .inl (cJ, 8, .inr (.inl xtf)))] := by
  refine k_of (cc := cTL_isLike) (maxL := 3) (ret := (some .boolean)) (by decide) rfl (Nat.le_of_ble_eq_true rfl) ?_
  intro p e s m below meth c A ls hx hb hr hlocks hml hown hts hA hP hD hK hF hl hS
  have hown : s.vm.findClass RTL = some m.cls := hown
  have hl : lv_has ls 3 [(0, .ref h0), (1, .ref g0)] := hl
  refine lv_iconst (v := 0) hx hb dTL_isLike_0 (by decide) ?_
  refine lv_istore_n (lv' := [(2, .int 0), (0, .ref h0), (1, .ref g0)]) hx hb dTL_isLike_1 rfl hl (by decide) rfl (fun ls hl => ?_)
  have hl : lv_has ls 3 [(2, .int (nI 0)), (0, .ref h0), (1, .ref g0)] := hl
  have lp : ∀ (n i : Nat), 8 < i + n → i ≤ 8 → (∀ j : Nat, j < i → tf j = xtf j) → ∀ (H : Heap) (locs : List Loc), va_P (dC, dI) vwCl [(h0, .inr (5, [.ref h1])), (h1, .inl (cJ, 8, .inr (.inl tf))), (g0, .inr (5, [.ref g1])), (g1, .inl (cJ, 8, .inr (.inl xtf)))] H → va_D A [(h0, .inr (5, [.ref h1])), (h1, .inl (cJ, 8, .inr (.inl tf))), (g0, .inr (5, [.ref g1])), (g1, .inl (cJ, 8, .inr (.inl xtf)))] → va_S A s.heap H locs → ∀ (ls : Array Slot), lv_has ls 3 [(2, .int (nI i)), (0, .ref h0), (1, .ref g0)] → W p l e rm_TL_isLike s m ([.ref h0, .ref g0] : List Value).toArray below meth c H locs 0 0 (MQ below (k_Q (dC, dI) vwCl [(cI, .int), (cJ, .long), (cG, .array .long), (cZ, .boolean)] (some (.int (if ∀ j : Nat, j < 8 → tf j = xtf j then 1 else 0))) [(h0, .inr (5, [.ref h1])), (h1, .inl (cJ, 8, .inr (.inl tf))), (g0, .inr (5, [.ref g1])), (g1, .inl (cJ, 8, .inr (.inl xtf)))] A) ([.ref h0, .ref g0] : List Value).toArray s rm_TL_isLike.cells rm_TL_isLike.slots A) (F0 m 2 ls []) := by
    intro n
    induction n with
    | zero => intro i h8 h9; exact absurd h8 (by omega)
    | succ n ih =>
      intro i hn hle hinv H locs hP hD hS ls hl
      refine lv_iload_n hx hb dTL_isLike_2 rfl (lv_at hl 0 rfl) ?_
      refine lv_bipush (v := 8) hx hb dTL_isLike_3 (by decide) ?_
      refine lv_icmp_ge (tgt := 32) hx hb dTL_isLike_5 (by decide) (fun c_1 => ?_) (fun c_1 => ?_)
      · refine lv_iconst (v := 1) hx hb dTL_isLike_32 (by decide) ?_
        exact k_zret hx hb hr hlocks rfl hP hK hD hS (if_pos (fun j hj => hinv j (by have h9 := (n_le (n := 8) rfl (by decide) (by omega)).mp c_1; omega))).symm dTL_isLike_33 ⟨Nat.le_of_ble_eq_true rfl, Nat.le_of_ble_eq_true rfl⟩
      · have hlt : i < 8 := by rcases Nat.lt_or_ge i 8 with q9 | q9; exact q9; exact absurd ((n_le rfl (by decide) (by omega)).mpr q9) c_1
        refine lv_aload_n hx hb dTL_isLike_8 rfl (lv_at hl 1 rfl) ?_
        refine va_get (D := (dC, dI)) (ci := 5) (v := .ref h1) (C := RTL) (T := TTL) (N := 1) hx hb hts inTL hown hK hP 0 rfl rfl 0 (by decide) (hts _ m_f_TL_9) (fun _ h9 => h9) rfl dTL_isLike_9 ?_
        refine lv_iload_n hx hb dTL_isLike_12 rfl (lv_at hl 0 rfl) ?_
        refine k_lld (v := tf i) hx hb hK hP 1 1 rfl rfl (j := i) rfl hlt (by decide) rfl dTL_isLike_13 ?_
        refine lv_aload_n hx hb dTL_isLike_14 rfl (lv_at hl 2 rfl) ?_
        refine va_get (D := (dC, dI)) (ci := 5) (v := .ref g1) (C := RTL) (T := TTL) (N := 1) hx hb hts inTL hown hK hP 2 rfl rfl 0 (by decide) (hts _ m_f_TL_9) (fun _ h9 => h9) rfl dTL_isLike_15 ?_
        refine lv_iload_n hx hb dTL_isLike_18 rfl (lv_at hl 0 rfl) ?_
        refine k_lld (v := xtf i) hx hb hK hP 3 1 rfl rfl (j := i) rfl hlt (by decide) rfl dTL_isLike_19 ?_
        refine W.lcmp hx hb dTL_isLike_20 ?_
        refine lv_if_eq (tgt := 26) hx hb dTL_isLike_21 (by decide) (fun c_2 => ?_) (fun c_2 => ?_)
        · refine lv_iinc (v := nI (i + 1)) (lv' := [(2, .int (nI (i + 1))), (0, .ref h0), (1, .ref g0)]) hx hb dTL_isLike_26 hl (k := 0) rfl (nI_1 _) (by decide) rfl (fun ls hl => ?_)
          refine lv_goto (tgt := 2) hx hb dTL_isLike_29 (by decide) ?_
          exact ih (i + 1) (by omega) (by omega) (lt_s hinv (n_eq0.mp c_2)) _ _ hP hD hS ls (lv_sub hl [0, 1, 2] rfl)
        · refine lv_iconst (v := 0) hx hb dTL_isLike_24 (by decide) ?_
          exact k_zret hx hb hr hlocks rfl hP hK hD hS (if_neg (fun h9 => c_2 (n_eq0.mpr (h9 i hlt)))).symm dTL_isLike_25 ⟨Nat.le_of_ble_eq_true rfl, Nat.le_of_ble_eq_true rfl⟩
  exact lp (8 + 1) 0 (by omega) (by omega) lt_0 _ _ hP hD hS ls hl
