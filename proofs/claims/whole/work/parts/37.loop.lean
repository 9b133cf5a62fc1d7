theorem lw_F {s : State} {b : Nat} (hts : ∀ w ∈ lw_tbl, w.before #[Value.ref b] s = true) (hgv : (Jvm.Cond.and given_1 narrow_1).before #[Value.ref b] s = true) : k_F (fun q : Nat => s.heap.size ≤ q) s := by
  have hs := flat_of_before _ hgv
  have hnA : ∀ a : Nat, a < s.heap.size → ¬ (fun q : Nat => s.heap.size ≤ q) a := fun a h1 h2 => absurd h1 (Nat.not_lt.mpr h2)
  have n1 : ∀ q ∈ wsNl, Cond.methodLinkNest q.1 q.2.1 q.2.2.1 q.2.2.2 ∈ lw_tbl := by decide +kernel
  have n2 : ∀ q ∈ exL, Cond.castable q q ∈ lw_tbl := by decide +kernel
  have n3 : ∀ q ∈ strL, Cond.stringRef q.1 q.2.1 q.2.2 ∈ lw_tbl := by decide +kernel
  have n4 : ∀ q ∈ ncL, Cond.not (.castable q.1 q.2) ∈ flatC (Jvm.Cond.and given_1 narrow_1) := by decide +kernel
  have n5 : Cond.laysStatic Bundle.tN "UNASSIGNED_STACK" Bundle.steD ∈ lw_tbl := by decide +kernel
  have n6 : Cond.laysStatic Bundle.tN "SUPPRESSED_SENTINEL" Bundle.listD ∈ lw_tbl := by decide +kernel
  have n7 : Cond.initialized Bundle.tN ∈ lw_tbl := by decide +kernel
  have n8 : Cond.isRef (.static Bundle.tN "UNASSIGNED_STACK" Bundle.steD) ∈ flatC (Jvm.Cond.and given_1 narrow_1) := by decide +kernel
  have n9 : Cond.isRef (.static Bundle.tN "SUPPRESSED_SENTINEL" Bundle.listD) ∈ flatC (Jvm.Cond.and given_1 narrow_1) := by decide +kernel
  have n0 : Cond.arrayOver (.array .long) ∈ lw_tbl := by decide +kernel
  refine ⟨fun q hq => va_Nw.of rfl (hts _ (n1 q hq)), fun q hq => va_Nw.of rfl (hts _ (n2 q hq)), fun q hq => ?_, fun q hq => va_Nc.of (hs _ (n4 q hq)),
    ⟨va_Zqof (hts _ n5) (hts _ n7) (hs _ n8) hnA, va_Zqof (hts _ n6) (hts _ n7) (hs _ n9) hnA⟩, ⟨k_lay (Vm.Alike.refl _) (fun _ _ h _ => h) (hts _ n5), k_lay (Vm.Alike.refl _) (fun _ _ h _ => h) (hts _ n6), k_over (Vm.Alike.refl _) (hts _ n0)⟩, fun q hq cell hc => ?_⟩
  · have h := hts _ (n3 q hq)
    have hcur : ∃ cur, s.vm.findClass q.1 = some cur := by
      have h1 := h
      simp only [Cond.before, Cond.holds, Cond.value] at h1
      cases hc : s.vm.findClass q.1 with
      | none => simp [hc] at h1
      | some cur => exact ⟨cur, rfl⟩
    obtain ⟨cur, hcur⟩ := hcur
    obtain ⟨k, cf, i, a, -, -, -, -, -, hev⟩ := Cond.stringRef_spec hcur h
    exact ⟨a, vk_R.of h hev⟩
  · rw [Array.getElem?_eq_none hq] at hc
    cases hc
theorem lw_arr {s : State} {args : Array Value} {ty : FieldType} (hp : ∀ C, ty ≠ .object C) (h : (Cond.arrayClass ty).before args s = true) : ∃ cA : ClassId, ArrOfT s cA ty ∧ va_RA s cA ty := by
  obtain ⟨cA, kA, comp, h1, h2, h3⟩ := Cond.arrayClass_spec h
  refine ⟨cA, fun n z => ⟨fun k h => (by cases h), kA, h2, comp, h3⟩, ?_⟩
  cases ty with
  | object C => exact absurd rfl (hp C)
  | _ => exact h1
theorem lw_arr2 {s : State} {args : Array Value} {ty : FieldType} (h : (Cond.arrayOver (.array ty)).before args s = true) : ∃ cA : ClassId, ArrOfT s cA (.array ty) ∧ va_RA s cA (.array ty) := by
  obtain ⟨comp, cA, kA, -, -, h2, h3, h1⟩ := Jvm.Stand.arrayOver_specB h
  exact ⟨cA, fun n z => ⟨fun k h => (by cases h), kA, h2, comp, h3⟩, h1⟩
theorem lw_K {s : State} {b : Nat} (hts : ∀ w ∈ lw_tbl, w.before #[Value.ref b] s = true) : ∃ (dC : Nat → ClassId) (dI : Nat → Nat → Nat) (cI cJ cG cZ : ClassId), va_K (dC, dI) vwCl [(cI, .int), (cJ, .long), (cG, .array .long), (cZ, .boolean)] s := by
  have hA : ∀ x ∈ wsA, x.before #[Value.ref b] s = true := fun x h9 => hts x (List.mem_filter.mp h9).1
  obtain ⟨c0, iS0, hK0⟩ := u_known (C := RCV) (T := TCV) (N := 2) (n := 2) hA inCV (hA _ m_new_CV)
  obtain ⟨c1, iS1, hK1⟩ := u_known (C := RDK) (T := TDK) (N := 5) (n := 5) hA inDK (hA _ m_new_DK)
  obtain ⟨c2, iS2, hK2⟩ := u_known (C := RJN) (T := TJN) (N := 3) (n := 3) hA inJN (hA _ m_new_JN)
  obtain ⟨c3, iS3, hK3⟩ := u_known (C := RNU) (T := TNU) (N := 2) (n := 2) hA inNU (hA _ m_new_NU)
  obtain ⟨c4, iS4, hK4⟩ := u_known (C := RPT) (T := TPT) (N := 3) (n := 3) hA inPT (hA _ m_new_PT)
  obtain ⟨c5, iS5, hK5⟩ := u_known (C := RTL) (T := TTL) (N := 1) (n := 1) hA inTL (hA _ m_new_TL)
  obtain ⟨c6, iS6, hK6⟩ := u_known (C := RPD) (T := TPD) (N := 2) (n := 2) hA inPD (hA _ m_new_PD)
  obtain ⟨c7, iS7, hK7⟩ := u_known (C := RMO) (T := TMO) (N := 11) (n := 11) hA inMO (hA _ m_new_MO)
  obtain ⟨cI, hI⟩ := lw_arr (ty := .int) (fun _ h => by cases h) (hA _ m_ac_int)
  obtain ⟨cJ, hJ⟩ := lw_arr (ty := .long) (fun _ h => by cases h) (hA _ m_ac_long)
  obtain ⟨cZ, hZ⟩ := lw_arr (ty := .boolean) (fun _ h => by cases h) (hA _ m_ac_boolean)
  obtain ⟨cG, hG⟩ := lw_arr2 (ty := .long) (hts _ (show Cond.arrayOver (.array .long) ∈ lw_tbl by decide +kernel))
  refine ⟨fun k => [c0, c1, c2, c3, c4, c5, c6, c7].getD k 0, fun k => [iS0, iS1, iS2, iS3, iS4, iS5, iS6, iS7].getD k (fun _ => 0), cI, cJ, cG, cZ, ?_, ?_⟩
  · intro k q hq
    match k, hq with
    | 0, hq => cases hq; exact hK0
    | 1, hq => cases hq; exact hK1
    | 2, hq => cases hq; exact hK2
    | 3, hq => cases hq; exact hK3
    | 4, hq => cases hq; exact hK4
    | 5, hq => cases hq; exact hK5
    | 6, hq => cases hq; exact hK6
    | 7, hq => cases hq; exact hK7
    | k + 8, hq => simp [vwCl] at hq
  · intro k q hq
    match k, hq with
    | 0, hq => cases hq; exact hI
    | 1, hq => cases hq; exact hJ
    | 2, hq => cases hq; exact hG
    | 3, hq => cases hq; exact hZ
    | k + 4, hq => simp at hq
theorem lw_more {i L : Nat} (hi : i ≤ L) (hL : L ≤ 2560) (h : ¬ nI L - 5 < nI i) : i + 5 ≤ L := by
  have h1 : (nI L - nI 5).toInt = (L : Int) - 5 := pk_sub_toInt (a := L) (b := 5) (by omega) (by decide)
  have h2 : (nI i).toInt = (i : Int) := nI_toInt (by omega)
  have h3 : ¬ (nI L - nI 5).toInt < (nI i).toInt := fun h9 => h (Int32.lt_iff_toInt_lt.mpr h9)
  omega
theorem lw_z12 : f_twoI 12 (fun _ => 0) (fun _ => 0) = fun _ => 0 := by funext i; unfold f_twoI; split <;> rfl
theorem lw_z12L : f_twoL 12 (fun _ => 0) (fun _ => 0) = fun _ => 0 := by funext i; unfold f_twoL; split <;> rfl
theorem lw_zlo : f_lo 0 0 = fun _ => 0 := by
  funext i
  unfold f_lo
  split
  · rfl
  · split <;> rfl
theorem lw_zto : f_twoL 8 (vp_updL (fun _ => 0) 6 (-1)) (vp_updL (fun _ => 0) 6 (-1)) = vp_updL (vp_updL (fun _ => 0) 6 (-1)) 14 (-1) := by
  rw [f_uL1, f_uL0 (by decide)]
  have e : f_twoL 8 (fun _ => 0) (fun _ => 0) = fun _ => 0 := by funext i; unfold f_twoL; split <;> rfl
  rw [e]
theorem lw_n0 : lwN (fun _ => 0) (fun _ => 0) (fun _ => 0) (fun _ => 0) := by
  refine ⟨fun _ _ => ⟨rfl, Nat.zero_le _⟩, fun _ _ j hj => absurd hj (Nat.not_lt_zero j), fun _ _ j _ => ?_, fun _ _ _ _ _ => rfl⟩
  unfold f_kb
  exact BitVec.getLsbD_zero
theorem lw_c0 : lwC (fun _ => 0) (fun _ _ => 0) (fun _ => 0) (fun _ => 0) := ⟨fun _ _ => ⟨rfl, Nat.zero_le _⟩, fun _ _ j hj => absurd hj (Nat.not_lt_zero j)⟩
theorem lw_g0 : lwG (fun _ => 0) := fun _ _ => Or.inl rfl
theorem lw_j0 : lwJ (fun _ => 0) 0 0 (fun _ => 0) 0 0 (fun _ => 0) := ⟨⟨by omega, by omega, by omega, by omega⟩, fun j hj => absurd hj (by omega), fun j hj => absurd hj (by omega)⟩
set_option maxHeartbeats 4000000 in
set_option maxRecDepth 100000 in
theorem lw_loop {p : Program} {l : Launch} {e : Env} {s : State} {m : MethodId} {below : List Frame} {meth : Method} {c : Code} {dC : Nat → ClassId} {dI : Nat → Nat → Nat} {cI cJ cG cZ : ClassId} {b L : Nat} {xs : Nat → Int32} {o0 u0 w0 : Nat} {pa pm r1 r2 : Nat → Nat} (hlt : l.stackTraces = false) (hL : L ≤ 2560) (C0 : lw_At p s m meth c b L xs) (hK : va_K (dC, dI) vwCl [(cI, .int), (cJ, .long), (cG, .array .long), (cZ, .boolean)] s) (hF : k_F (fun q : Nat => s.heap.size ≤ q) s) :
    ∀ n i : Nat, L < i + n → i ≤ L → lwHead p l e s m below meth c dC dI cI cJ cG cZ (fun q : Nat => s.heap.size ≤ q) b o0 u0 w0 pa pm r1 r2 i := by
  have hA : ∀ q : Nat, s.heap.size ≤ q → (fun q : Nat => s.heap.size ≤ q) q := fun _ h => h
  have C1 := C0
  obtain ⟨hx, hb, hr, hml, hown, hts0, hX, hbl, hlocks, hgv⟩ := C0
  have hbA : ¬ (fun q : Nat => s.heap.size ≤ q) b := Nat.not_le.mpr hbl
  intro n
  induction n with
  | zero => intro i h8 h9; exact absurd h8 (by omega)
  | succ n ih =>
    intro i hin hle md kn an sz vs sm fl tf rg z q xsm xfl xtf xrg xz xq dr lg va th ou mn ns hN hC hG hG2 hJ H locs hP hD hS ls hl
    refine lv_iload hx hb dLW_law_23 (lv_at hl 4 rfl) ?_
    refine lv_aload_n hx hb dLW_law_25 rfl (lv_at hl 0 rfl) ?_
    refine va_slen hx hb hX hbl hbA hS dLW_law_26 ?_
    refine lv_iconst (v := 5) hx hb dLW_law_27 (by decide) ?_
    refine lv_isub hx hb dLW_law_28 ?_
    refine lv_icmp_gt (tgt := 908) hx hb dLW_law_29 (by decide) (fun c_1 => ?_) (fun c_1 => ?_)
    · refine lv_iconst (v := 1) hx hb dLW_law_908 (by decide) ?_
      refine va_forget (fun q hq => hS.2.2 q hq) ?_
      refine W.widen (k := 601024) (n := 7293034) (by omega) (by omega) ?_
      exact lw_ret hx hb hr hlocks dLW_law_909
    · have hi5 : i + 5 ≤ L := lw_more hle hL c_1
      have hn := ih (i + 5) (by omega) hi5
      refine lv_aload_n hx hb dLW_law_32 rfl (lv_at hl 0 rfl) ?_
      refine lv_iload hx hb dLW_law_33 (lv_at hl 4 rfl) ?_
      refine k_sld (j := i) hx hb hX hbl hbA hS rfl (by omega) (by omega) dLW_law_35 ?_
      refine lv_bipush (v := 15) hx hb dLW_law_36 (by decide) ?_
      refine lv_iand hx hb dLW_law_38 ?_
      obtain ⟨t, ht, et⟩ := pk_andE (xs i) (m := 15) 4 (by decide)
      refine k_topi (y := nI t) et ?_
      rcases (show t = 0 ∨ t = 1 ∨ t = 2 ∨ t = 3 ∨ t = 4 ∨ t = 5 ∨ t = 6 ∨ t = 7 ∨ t = 8 ∨ t = 9 ∨ t = 10 ∨ t = 11 ∨ t = 12 ∨ t = 13 ∨ t = 14 ∨ t = 15 by omega) with rfl | rfl | rfl | rfl | rfl | rfl | rfl | rfl | rfl | rfl | rfl | rfl | rfl | rfl | rfl | rfl
      · refine lv_tableIn (tgt := 108) (off := 69) hx hb dLW_law_39 (by decide) (by decide) (by decide) (by decide) ?_
        exact arm_0 hlt hL C1 hi5 hA hbA hK hF hn md kn an sz vs sm fl tf rg z q xsm xfl xtf xrg xz xq dr lg va th ou mn ns hN hC hG hG2 hJ H locs hP hD hS ls hl
      · refine lv_tableIn (tgt := 177) (off := 138) hx hb dLW_law_39 (by decide) (by decide) (by decide) (by decide) ?_
        exact arm_1 hlt hL C1 hi5 hA hbA hK hF hn md kn an sz vs sm fl tf rg z q xsm xfl xtf xrg xz xq dr lg va th ou mn ns hN hC hG hG2 hJ H locs hP hD hS ls hl
      · refine lv_tableIn (tgt := 246) (off := 207) hx hb dLW_law_39 (by decide) (by decide) (by decide) (by decide) ?_
        exact arm_2 hlt hL C1 hi5 hA hbA hK hF hn md kn an sz vs sm fl tf rg z q xsm xfl xtf xrg xz xq dr lg va th ou mn ns hN hC hG hG2 hJ H locs hP hD hS ls hl
      · refine lv_tableIn (tgt := 283) (off := 244) hx hb dLW_law_39 (by decide) (by decide) (by decide) (by decide) ?_
        exact arm_3 hlt hL C1 hi5 hA hbA hK hF hn md kn an sz vs sm fl tf rg z q xsm xfl xtf xrg xz xq dr lg va th ou mn ns hN hC hG hG2 hJ H locs hP hD hS ls hl
      · refine lv_tableIn (tgt := 339) (off := 300) hx hb dLW_law_39 (by decide) (by decide) (by decide) (by decide) ?_
        exact arm_4 hlt hL C1 hi5 hA hbA hK hF hn md kn an sz vs sm fl tf rg z q xsm xfl xtf xrg xz xq dr lg va th ou mn ns hN hC hG hG2 hJ H locs hP hD hS ls hl
      · refine lv_tableIn (tgt := 376) (off := 337) hx hb dLW_law_39 (by decide) (by decide) (by decide) (by decide) ?_
        exact arm_5 hlt hL C1 hi5 hA hbA hK hF hn md kn an sz vs sm fl tf rg z q xsm xfl xtf xrg xz xq dr lg va th ou mn ns hN hC hG hG2 hJ H locs hP hD hS ls hl
      · refine lv_tableIn (tgt := 458) (off := 419) hx hb dLW_law_39 (by decide) (by decide) (by decide) (by decide) ?_
        exact arm_6 hlt hL C1 hi5 hA hbA hK hF hn md kn an sz vs sm fl tf rg z q xsm xfl xtf xrg xz xq dr lg va th ou mn ns hN hC hG hG2 hJ H locs hP hD hS ls hl
      · refine lv_tableIn (tgt := 540) (off := 501) hx hb dLW_law_39 (by decide) (by decide) (by decide) (by decide) ?_
        exact arm_7 hlt hL C1 hi5 hA hbA hK hF hn md kn an sz vs sm fl tf rg z q xsm xfl xtf xrg xz xq dr lg va th ou mn ns hN hC hG hG2 hJ H locs hP hD hS ls hl
      · refine lv_tableIn (tgt := 595) (off := 556) hx hb dLW_law_39 (by decide) (by decide) (by decide) (by decide) ?_
        exact arm_8 hlt hL C1 hi5 hA hbA hK hF hn md kn an sz vs sm fl tf rg z q xsm xfl xtf xrg xz xq dr lg va th ou mn ns hN hC hG hG2 hJ H locs hP hD hS ls hl
      · refine lv_tableIn (tgt := 620) (off := 581) hx hb dLW_law_39 (by decide) (by decide) (by decide) (by decide) ?_
        exact arm_9 hlt hL C1 hi5 hA hbA hK hF hn md kn an sz vs sm fl tf rg z q xsm xfl xtf xrg xz xq dr lg va th ou mn ns hN hC hG hG2 hJ H locs hP hD hS ls hl
      · refine lv_tableIn (tgt := 688) (off := 649) hx hb dLW_law_39 (by decide) (by decide) (by decide) (by decide) ?_
        exact arm_10 hlt hL C1 hi5 hA hbA hK hF hn md kn an sz vs sm fl tf rg z q xsm xfl xtf xrg xz xq dr lg va th ou mn ns hN hC hG hG2 hJ H locs hP hD hS ls hl
      · refine lv_tableIn (tgt := 755) (off := 716) hx hb dLW_law_39 (by decide) (by decide) (by decide) (by decide) ?_
        exact arm_11 hlt hL C1 hi5 hA hbA hK hF hn md kn an sz vs sm fl tf rg z q xsm xfl xtf xrg xz xq dr lg va th ou mn ns hN hC hG hG2 hJ H locs hP hD hS ls hl
      · refine lv_tableIn (tgt := 822) (off := 783) hx hb dLW_law_39 (by decide) (by decide) (by decide) (by decide) ?_
        exact arm_12 hlt hL C1 hi5 hA hbA hK hF hn md kn an sz vs sm fl tf rg z q xsm xfl xtf xrg xz xq dr lg va th ou mn ns hN hC hG hG2 hJ H locs hP hD hS ls hl
      · refine lv_tableIn (tgt := 889) (off := 850) hx hb dLW_law_39 (by decide) (by decide) (by decide) (by decide) ?_
        exact arm_13 hlt hL C1 hi5 hA hbA hK hF hn md kn an sz vs sm fl tf rg z q xsm xfl xtf xrg xz xq dr lg va th ou mn ns hN hC hG hG2 hJ H locs hP hD hS ls hl
      · refine lv_tableOut (tgt := 902) hx hb dLW_law_39 (by decide) (by decide) ?_
        exact arm_14 hlt hL C1 hi5 hA hbA hK hF hn md kn an sz vs sm fl tf rg z q xsm xfl xtf xrg xz xq dr lg va th ou mn ns hN hC hG hG2 hJ H locs hP hD hS ls hl
      · refine lv_tableOut (tgt := 902) hx hb dLW_law_39 (by decide) (by decide) ?_
        exact arm_14 hlt hL C1 hi5 hA hbA hK hF hn md kn an sz vs sm fl tf rg z q xsm xfl xtf xrg xz xq dr lg va th ou mn ns hN hC hG hG2 hJ H locs hP hD hS ls hl
