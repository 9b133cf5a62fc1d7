def f_find (P : Nat → Bool) (i : Int32) : Nat → Nat → Nat → Int32
  | 0, _, _ => -1
  | f + 1, n, b => if P n = true then (if nI b = i then nI n else f_find P i f (n + 1) (b + 1)) else f_find P i f (n + 1) b
theorem f_find0 {P : Nat → Bool} {i : Int32} {f n b : Nat} (h : f = 0) : f_find P i f n b = -1 := by subst h; rfl
theorem f_findY {P : Nat → Bool} {i : Int32} {f g n b : Nat} (h : f = g + 1) (h1 : P n = true) (h2 : nI b = i) : f_find P i f n b = nI n := by subst h; simp only [f_find, if_pos h1, if_pos h2]
theorem f_findG {P : Nat → Bool} {i : Int32} {f g n b : Nat} (h : f = g + 1) (h1 : P n = true) (h2 : ¬ nI b = i) : f_find P i f n b = f_find P i g (n + 1) (b + 1) := by subst h; simp only [f_find, if_pos h1, if_neg h2]
theorem f_findN {P : Nat → Bool} {i : Int32} {f g n b : Nat} (h : f = g + 1) (h1 : ¬ P n = true) : f_find P i f n b = f_find P i g (n + 1) b := by subst h; simp only [f_find, if_neg h1]
def f_P (md : Nat → Int32) (kn : Nat → Int64) (k n : Nat) : Bool := decide (¬ f_isKnown md kn k (nI n) = 0)
def f_js (z : Nat) : Nat := if z < 64 then z + 1 else z
def f_ix (q z j : Nat) : Nat := (q + 64 - z + j) % 64
theorem f_js_le {z : Nat} (h : z ≤ 64) : f_js z ≤ 64 := by unfold f_js; split <;> omega
theorem f_ix_lt (q z j : Nat) : f_ix q z j < 64 := Nat.mod_lt _ (by decide)
theorem f_nx {q : Nat} (hq : q < 64) : nI q + 1 - (nI q + 1) / 64 * 64 = nI ((q + 1) % 64) := by
  rw [nI_1]
  exact pk_rem (a := q + 1) (d := 64) (by omega) (by decide) (by decide)
theorem f_ixe {q z j : Nat} (hq : q < 64) (hz : z ≤ 64) (hj : j < 64) : nI q + 64 - nI z + nI j - (nI q + 64 - nI z + nI j) / 64 * 64 = nI (f_ix q z j) := by
  have e1 : nI q + 64 = nI (q + 64) := nI_add q 64
  rw [e1, pk_sub (by omega), nI_add]
  exact pk_rem (a := q + 64 - z + j) (d := 64) (by omega) (by decide) (by decide)
abbrev rm_PT_setAnswer : Room := { frames := 0, cells := 0, slots := 0, locals := 0 }
set_option maxHeartbeats 4000000 in
set_option maxRecDepth 100000 in
theorem k_PT_setAnswer (l : Launch) (dC : Nat → ClassId) (dI : Nat → Nat → Nat) (cI cJ cG cZ : ClassId) (h0 : Nat) (h1 : Nat) (h2 : Nat) (h3 : Nat) (an : Nat → Int64) (sm : Nat → Int64) (fl : Nat → Int32) (k : Nat) (v : Int64) (hk : k < 12) : k_M l yPT_setAnswer wsPT_setAnswer rm_PT_setAnswer (dC, dI) vwCl [(cI, .int), (cJ, .long), (cG, .array .long), (cZ, .boolean)] [.ref h0, .int (nI k), .long v] [(h0, .inr (4, [.ref h1, .ref h2, .ref h3])), (h1, .inl (cJ, 12, .inr (.inl an))), (h2, .inl (cJ, 12, .inr (.inl sm))), (h3, .inl (cI, 12, .inl fl))] none [(h0, .inr (4, [.ref h1, .ref h2, .ref h3])), (h1, .inl (cJ, 12, .inr (.inl (vp_updL an k v)))), (h2, .inl (cJ, 12, .inr (.inl sm))), (h3, .inl (cI, 12, .inl fl))] := by
  refine k_of (cc := cPT_setAnswer) (maxL := 4) (ret := none) (by decide) rfl (Nat.le_of_ble_eq_true rfl) ?_
  intro p e s m below meth c A ls hx hb hr hlocks hml hown hts hA hP hD hK hF hl hS
  have hown : s.vm.findClass RPT = some m.cls := hown
  have hl : lv_has ls 4 [(0, .ref h0), (1, .int (nI k)), (2, .long v)] := hl
  refine lv_aload_n hx hb dPT_setAnswer_0 rfl (lv_at hl 0 rfl) ?_
  refine va_get (D := (dC, dI)) (ci := 4) (v := .ref h1) (C := RPT) (T := TPT) (N := 3) hx hb hts inPT hown hK hP 0 rfl rfl 0 (by decide) (hts _ m_f_PT_9) (fun _ h9 => h9) rfl dPT_setAnswer_1 ?_
  refine lv_iload_n hx hb dPT_setAnswer_4 rfl (lv_at hl 1 rfl) ?_
  refine lv_lload_n hx hb dPT_setAnswer_5 rfl (lv_at hl 2 rfl) ?_
  refine k_lst (W1 := [(h0, .inr (4, [.ref h1, .ref h2, .ref h3])), (h1, .inl (cJ, 12, .inr (.inl (vp_updL an k v)))), (h2, .inl (cJ, 12, .inr (.inl sm))), (h3, .inl (cI, 12, .inl fl))]) hx hb hK hP hD hS 1 1 rfl rfl (j := k) rfl hk (by decide) rfl dPT_setAnswer_6 (fun H locs hP hD hS => ?_)
  exact k_vret hx hb hr hlocks hP hK hD hS dPT_setAnswer_7 ⟨Nat.le_of_ble_eq_true rfl, Nat.le_of_ble_eq_true rfl⟩

abbrev rm_PT_setFailure : Room := { frames := 0, cells := 0, slots := 0, locals := 0 }
set_option maxHeartbeats 4000000 in
set_option maxRecDepth 100000 in
theorem k_PT_setFailure (l : Launch) (dC : Nat → ClassId) (dI : Nat → Nat → Nat) (cI cJ cG cZ : ClassId) (h0 : Nat) (h1 : Nat) (h2 : Nat) (h3 : Nat) (an : Nat → Int64) (sm : Nat → Int64) (fl : Nat → Int32) (k : Nat) (v : Int32) (hk : k < 12) : k_M l yPT_setFailure wsPT_setFailure rm_PT_setFailure (dC, dI) vwCl [(cI, .int), (cJ, .long), (cG, .array .long), (cZ, .boolean)] [.ref h0, .int (nI k), .int v] [(h0, .inr (4, [.ref h1, .ref h2, .ref h3])), (h1, .inl (cJ, 12, .inr (.inl an))), (h2, .inl (cJ, 12, .inr (.inl sm))), (h3, .inl (cI, 12, .inl fl))] none [(h0, .inr (4, [.ref h1, .ref h2, .ref h3])), (h1, .inl (cJ, 12, .inr (.inl an))), (h2, .inl (cJ, 12, .inr (.inl sm))), (h3, .inl (cI, 12, .inl (upd fl k v)))] := by
  refine k_of (cc := cPT_setFailure) (maxL := 3) (ret := none) (by decide) rfl (Nat.le_of_ble_eq_true rfl) ?_
  intro p e s m below meth c A ls hx hb hr hlocks hml hown hts hA hP hD hK hF hl hS
  have hown : s.vm.findClass RPT = some m.cls := hown
  have hl : lv_has ls 3 [(0, .ref h0), (1, .int (nI k)), (2, .int v)] := hl
  refine lv_aload_n hx hb dPT_setFailure_0 rfl (lv_at hl 0 rfl) ?_
  refine va_get (D := (dC, dI)) (ci := 4) (v := .ref h3) (C := RPT) (T := TPT) (N := 3) hx hb hts inPT hown hK hP 0 rfl rfl 2 (by decide) (hts _ m_f_PT_18) (fun _ h9 => h9) rfl dPT_setFailure_1 ?_
  refine lv_iload_n hx hb dPT_setFailure_4 rfl (lv_at hl 1 rfl) ?_
  refine lv_iload_n hx hb dPT_setFailure_5 rfl (lv_at hl 2 rfl) ?_
  refine k_ist (W1 := [(h0, .inr (4, [.ref h1, .ref h2, .ref h3])), (h1, .inl (cJ, 12, .inr (.inl an))), (h2, .inl (cJ, 12, .inr (.inl sm))), (h3, .inl (cI, 12, .inl (upd fl k v)))]) hx hb hK hP hD hS 3 0 rfl rfl (j := k) rfl hk (by decide) rfl dPT_setFailure_6 (fun H locs hP hD hS => ?_)
  exact k_vret hx hb hr hlocks hP hK hD hS dPT_setFailure_7 ⟨Nat.le_of_ble_eq_true rfl, Nat.le_of_ble_eq_true rfl⟩

abbrev rm_PT_sumOf : Room := { frames := 0, cells := 0, slots := 0, locals := 0 }
set_option maxHeartbeats 4000000 in
set_option maxRecDepth 100000 in
theorem k_PT_sumOf (l : Launch) (dC : Nat → ClassId) (dI : Nat → Nat → Nat) (cI cJ cG cZ : ClassId) (h0 : Nat) (h1 : Nat) (h2 : Nat) (h3 : Nat) (an : Nat → Int64) (sm : Nat → Int64) (fl : Nat → Int32) (k : Nat) (hk : k < 12) : k_M l yPT_sumOf wsPT_sumOf rm_PT_sumOf (dC, dI) vwCl [(cI, .int), (cJ, .long), (cG, .array .long), (cZ, .boolean)] [.ref h0, .int (nI k)] [(h0, .inr (4, [.ref h1, .ref h2, .ref h3])), (h1, .inl (cJ, 12, .inr (.inl an))), (h2, .inl (cJ, 12, .inr (.inl sm))), (h3, .inl (cI, 12, .inl fl))] (some (.long (sm k))) [(h0, .inr (4, [.ref h1, .ref h2, .ref h3])), (h1, .inl (cJ, 12, .inr (.inl an))), (h2, .inl (cJ, 12, .inr (.inl sm))), (h3, .inl (cI, 12, .inl fl))] := by
  refine k_of (cc := cPT_sumOf) (maxL := 2) (ret := (some .long)) (by decide) rfl (Nat.le_of_ble_eq_true rfl) ?_
  intro p e s m below meth c A ls hx hb hr hlocks hml hown hts hA hP hD hK hF hl hS
  have hown : s.vm.findClass RPT = some m.cls := hown
  have hl : lv_has ls 2 [(0, .ref h0), (1, .int (nI k))] := hl
  refine lv_aload_n hx hb dPT_sumOf_0 rfl (lv_at hl 0 rfl) ?_
  refine va_get (D := (dC, dI)) (ci := 4) (v := .ref h2) (C := RPT) (T := TPT) (N := 3) hx hb hts inPT hown hK hP 0 rfl rfl 1 (by decide) (hts _ m_f_PT_15) (fun _ h9 => h9) rfl dPT_sumOf_1 ?_
  refine lv_iload_n hx hb dPT_sumOf_4 rfl (lv_at hl 1 rfl) ?_
  refine k_lld (v := sm k) hx hb hK hP 2 1 rfl rfl (j := k) rfl hk (by decide) rfl dPT_sumOf_5 ?_
  exact k_lret hx hb hr hlocks hP hK hD hS rfl dPT_sumOf_6 ⟨Nat.le_of_ble_eq_true rfl, Nat.le_of_ble_eq_true rfl⟩

abbrev rm_PT_restoreSum : Room := { frames := 0, cells := 0, slots := 0, locals := 0 }
set_option maxHeartbeats 4000000 in
set_option maxRecDepth 100000 in
theorem k_PT_restoreSum (l : Launch) (dC : Nat → ClassId) (dI : Nat → Nat → Nat) (cI cJ cG cZ : ClassId) (h0 : Nat) (h1 : Nat) (h2 : Nat) (h3 : Nat) (an : Nat → Int64) (sm : Nat → Int64) (fl : Nat → Int32) (k : Nat) (v : Int64) (hk : k < 12) : k_M l yPT_restoreSum wsPT_restoreSum rm_PT_restoreSum (dC, dI) vwCl [(cI, .int), (cJ, .long), (cG, .array .long), (cZ, .boolean)] [.ref h0, .int (nI k), .long v] [(h0, .inr (4, [.ref h1, .ref h2, .ref h3])), (h1, .inl (cJ, 12, .inr (.inl an))), (h2, .inl (cJ, 12, .inr (.inl sm))), (h3, .inl (cI, 12, .inl fl))] none [(h0, .inr (4, [.ref h1, .ref h2, .ref h3])), (h1, .inl (cJ, 12, .inr (.inl an))), (h2, .inl (cJ, 12, .inr (.inl (vp_updL sm k v)))), (h3, .inl (cI, 12, .inl fl))] := by
  refine k_of (cc := cPT_restoreSum) (maxL := 4) (ret := none) (by decide) rfl (Nat.le_of_ble_eq_true rfl) ?_
  intro p e s m below meth c A ls hx hb hr hlocks hml hown hts hA hP hD hK hF hl hS
  have hown : s.vm.findClass RPT = some m.cls := hown
  have hl : lv_has ls 4 [(0, .ref h0), (1, .int (nI k)), (2, .long v)] := hl
  refine lv_aload_n hx hb dPT_restoreSum_0 rfl (lv_at hl 0 rfl) ?_
  refine va_get (D := (dC, dI)) (ci := 4) (v := .ref h2) (C := RPT) (T := TPT) (N := 3) hx hb hts inPT hown hK hP 0 rfl rfl 1 (by decide) (hts _ m_f_PT_15) (fun _ h9 => h9) rfl dPT_restoreSum_1 ?_
  refine lv_iload_n hx hb dPT_restoreSum_4 rfl (lv_at hl 1 rfl) ?_
  refine lv_lload_n hx hb dPT_restoreSum_5 rfl (lv_at hl 2 rfl) ?_
  refine k_lst (W1 := [(h0, .inr (4, [.ref h1, .ref h2, .ref h3])), (h1, .inl (cJ, 12, .inr (.inl an))), (h2, .inl (cJ, 12, .inr (.inl (vp_updL sm k v)))), (h3, .inl (cI, 12, .inl fl))]) hx hb hK hP hD hS 2 1 rfl rfl (j := k) rfl hk (by decide) rfl dPT_restoreSum_6 (fun H locs hP hD hS => ?_)
  exact k_vret hx hb hr hlocks hP hK hD hS dPT_restoreSum_7 ⟨Nat.le_of_ble_eq_true rfl, Nat.le_of_ble_eq_true rfl⟩
abbrev rm_TL_countAnswered : Room := { frames := 0, cells := 0, slots := 0, locals := 0 }
set_option maxHeartbeats 4000000 in
set_option maxRecDepth 100000 in
theorem k_TL_countAnswered (l : Launch) (dC : Nat → ClassId) (dI : Nat → Nat → Nat) (cI cJ cG cZ : ClassId) (h0 : Nat) (h1 : Nat) (tf : Nat → Int64) : k_M l yTL_countAnswered wsTL_countAnswered rm_TL_countAnswered (dC, dI) vwCl [(cI, .int), (cJ, .long), (cG, .array .long), (cZ, .boolean)] [.ref h0] [(h0, .inr (5, [.ref h1])), (h1, .inl (cJ, 8, .inr (.inl tf)))] none [(h0, .inr (5, [.ref h1])), (h1, .inl (cJ, 8, .inr (.inl (vp_updL tf 0 (tf 0 + 1)))))] := by
  refine k_of (cc := cTL_countAnswered) (maxL := 1) (ret := none) (by decide) rfl (Nat.le_of_ble_eq_true rfl) ?_
  intro p e s m below meth c A ls hx hb hr hlocks hml hown hts hA hP hD hK hF hl hS
  have hown : s.vm.findClass RTL = some m.cls := hown
  have hl : lv_has ls 1 [(0, .ref h0)] := hl
  refine lv_aload_n hx hb dTL_countAnswered_0 rfl (lv_at hl 0 rfl) ?_
  refine va_get (D := (dC, dI)) (ci := 5) (v := .ref h1) (C := RTL) (T := TTL) (N := 1) hx hb hts inTL hown hK hP 0 rfl rfl 0 (by decide) (hts _ m_f_TL_9) (fun _ h9 => h9) rfl dTL_countAnswered_1 ?_
  refine lv_iconst (v := 0) hx hb dTL_countAnswered_4 (by decide) ?_
  refine lv_dup2_11 hx hb dTL_countAnswered_5 rfl rfl ?_
  refine k_lld (v := tf 0) hx hb hK hP 1 1 rfl rfl (j := 0) (by decide) (by decide) (by decide) rfl dTL_countAnswered_6 ?_
  refine lv_lconst (v := 1) hx hb dTL_countAnswered_7 (by decide) ?_
  refine lv_ladd hx hb dTL_countAnswered_8 ?_
  refine k_lst (W1 := [(h0, .inr (5, [.ref h1])), (h1, .inl (cJ, 8, .inr (.inl (vp_updL tf 0 ((tf 0) + 1)))))]) hx hb hK hP hD hS 1 1 rfl rfl (j := 0) (by decide) (by decide) (by decide) rfl dTL_countAnswered_9 (fun H locs hP hD hS => ?_)
  exact k_vret hx hb hr hlocks hP hK hD hS dTL_countAnswered_10 ⟨Nat.le_of_ble_eq_true rfl, Nat.le_of_ble_eq_true rfl⟩

abbrev rm_TL_countRefused : Room := { frames := 0, cells := 0, slots := 0, locals := 0 }
set_option maxHeartbeats 4000000 in
set_option maxRecDepth 100000 in
theorem k_TL_countRefused (l : Launch) (dC : Nat → ClassId) (dI : Nat → Nat → Nat) (cI cJ cG cZ : ClassId) (h0 : Nat) (h1 : Nat) (tf : Nat → Int64) (k : Nat) (hk : k < 8) : k_M l yTL_countRefused wsTL_countRefused rm_TL_countRefused (dC, dI) vwCl [(cI, .int), (cJ, .long), (cG, .array .long), (cZ, .boolean)] [.ref h0, .int (nI k)] [(h0, .inr (5, [.ref h1])), (h1, .inl (cJ, 8, .inr (.inl tf)))] none [(h0, .inr (5, [.ref h1])), (h1, .inl (cJ, 8, .inr (.inl (vp_updL tf k (tf k + 1)))))] := by
  refine k_of (cc := cTL_countRefused) (maxL := 2) (ret := none) (by decide) rfl (Nat.le_of_ble_eq_true rfl) ?_
  intro p e s m below meth c A ls hx hb hr hlocks hml hown hts hA hP hD hK hF hl hS
  have hown : s.vm.findClass RTL = some m.cls := hown
  have hl : lv_has ls 2 [(0, .ref h0), (1, .int (nI k))] := hl
  refine lv_aload_n hx hb dTL_countRefused_0 rfl (lv_at hl 0 rfl) ?_
  refine va_get (D := (dC, dI)) (ci := 5) (v := .ref h1) (C := RTL) (T := TTL) (N := 1) hx hb hts inTL hown hK hP 0 rfl rfl 0 (by decide) (hts _ m_f_TL_9) (fun _ h9 => h9) rfl dTL_countRefused_1 ?_
  refine lv_iload_n hx hb dTL_countRefused_4 rfl (lv_at hl 1 rfl) ?_
  refine lv_dup2_11 hx hb dTL_countRefused_5 rfl rfl ?_
  refine k_lld (v := tf k) hx hb hK hP 1 1 rfl rfl (j := k) rfl hk (by decide) rfl dTL_countRefused_6 ?_
  refine lv_lconst (v := 1) hx hb dTL_countRefused_7 (by decide) ?_
  refine lv_ladd hx hb dTL_countRefused_8 ?_
  refine k_lst (W1 := [(h0, .inr (5, [.ref h1])), (h1, .inl (cJ, 8, .inr (.inl (vp_updL tf k ((tf k) + 1)))))]) hx hb hK hP hD hS 1 1 rfl rfl (j := k) rfl hk (by decide) rfl dTL_countRefused_9 (fun H locs hP hD hS => ?_)
  exact k_vret hx hb hr hlocks hP hK hD hS dTL_countRefused_10 ⟨Nat.le_of_ble_eq_true rfl, Nat.le_of_ble_eq_true rfl⟩

abbrev rm_TL_countFailure : Room := { frames := 0, cells := 0, slots := 0, locals := 0 }
set_option maxHeartbeats 4000000 in
set_option maxRecDepth 100000 in
theorem k_TL_countFailure (l : Launch) (dC : Nat → ClassId) (dI : Nat → Nat → Nat) (cI cJ cG cZ : ClassId) (h0 : Nat) (h1 : Nat) (tf : Nat → Int64) (x : Int32) (y : Int32) (z : Int32) : k_M l yTL_countFailure wsTL_countFailure rm_TL_countFailure (dC, dI) vwCl [(cI, .int), (cJ, .long), (cG, .array .long), (cZ, .boolean)] [.ref h0, .int x, .int y, .int z] [(h0, .inr (5, [.ref h1])), (h1, .inl (cJ, 8, .inr (.inl tf)))] none [(h0, .inr (5, [.ref h1])), (h1, .inl (cJ, 8, .inr (.inl (vp_updL (vp_updL (vp_updL (vp_updL tf 4 (tf 4 + 1)) 5 (x.toInt64)) 6 (y.toInt64)) 7 (z.toInt64)))))] := by
  refine k_of (cc := cTL_countFailure) (maxL := 4) (ret := none) (by decide) rfl (Nat.le_of_ble_eq_true rfl) ?_
  intro p e s m below meth c A ls hx hb hr hlocks hml hown hts hA hP hD hK hF hl hS
  have hown : s.vm.findClass RTL = some m.cls := hown
  have hl : lv_has ls 4 [(0, .ref h0), (1, .int x), (2, .int y), (3, .int z)] := hl
  refine lv_aload_n hx hb dTL_countFailure_0 rfl (lv_at hl 0 rfl) ?_
  refine va_get (D := (dC, dI)) (ci := 5) (v := .ref h1) (C := RTL) (T := TTL) (N := 1) hx hb hts inTL hown hK hP 0 rfl rfl 0 (by decide) (hts _ m_f_TL_9) (fun _ h9 => h9) rfl dTL_countFailure_1 ?_
  refine lv_iconst (v := 4) hx hb dTL_countFailure_4 (by decide) ?_
  refine lv_dup2_11 hx hb dTL_countFailure_5 rfl rfl ?_
  refine k_lld (v := tf 4) hx hb hK hP 1 1 rfl rfl (j := 4) (by decide) (by decide) (by decide) rfl dTL_countFailure_6 ?_
  refine lv_lconst (v := 1) hx hb dTL_countFailure_7 (by decide) ?_
  refine lv_ladd hx hb dTL_countFailure_8 ?_
  refine k_lst (W1 := [(h0, .inr (5, [.ref h1])), (h1, .inl (cJ, 8, .inr (.inl (vp_updL tf 4 ((tf 4) + 1)))))]) hx hb hK hP hD hS 1 1 rfl rfl (j := 4) (by decide) (by decide) (by decide) rfl dTL_countFailure_9 (fun H locs hP hD hS => ?_)
  refine lv_aload_n hx hb dTL_countFailure_10 rfl (lv_at hl 0 rfl) ?_
  refine va_get (D := (dC, dI)) (ci := 5) (v := .ref h1) (C := RTL) (T := TTL) (N := 1) hx hb hts inTL hown hK hP 0 rfl rfl 0 (by decide) (hts _ m_f_TL_9) (fun _ h9 => h9) rfl dTL_countFailure_11 ?_
  refine lv_iconst (v := 5) hx hb dTL_countFailure_14 (by decide) ?_
  refine lv_iload_n hx hb dTL_countFailure_15 rfl (lv_at hl 1 rfl) ?_
  refine lv_i2l hx hb dTL_countFailure_16 rfl ?_
  refine k_lst (W1 := [(h0, .inr (5, [.ref h1])), (h1, .inl (cJ, 8, .inr (.inl (vp_updL (vp_updL tf 4 ((tf 4) + 1)) 5 x.toInt64))))]) hx hb hK hP hD hS 1 1 rfl rfl (j := 5) (by decide) (by decide) (by decide) rfl dTL_countFailure_17 (fun H locs hP hD hS => ?_)
  refine lv_aload_n hx hb dTL_countFailure_18 rfl (lv_at hl 0 rfl) ?_
  refine va_get (D := (dC, dI)) (ci := 5) (v := .ref h1) (C := RTL) (T := TTL) (N := 1) hx hb hts inTL hown hK hP 0 rfl rfl 0 (by decide) (hts _ m_f_TL_9) (fun _ h9 => h9) rfl dTL_countFailure_19 ?_
  refine lv_bipush (v := 6) hx hb dTL_countFailure_22 (by decide) ?_
  refine lv_iload_n hx hb dTL_countFailure_24 rfl (lv_at hl 2 rfl) ?_
  refine lv_i2l hx hb dTL_countFailure_25 rfl ?_
  refine k_lst (W1 := [(h0, .inr (5, [.ref h1])), (h1, .inl (cJ, 8, .inr (.inl (vp_updL (vp_updL (vp_updL tf 4 ((tf 4) + 1)) 5 x.toInt64) 6 y.toInt64))))]) hx hb hK hP hD hS 1 1 rfl rfl (j := 6) (by decide) (by decide) (by decide) rfl dTL_countFailure_26 (fun H locs hP hD hS => ?_)
  refine lv_aload_n hx hb dTL_countFailure_27 rfl (lv_at hl 0 rfl) ?_
  refine va_get (D := (dC, dI)) (ci := 5) (v := .ref h1) (C := RTL) (T := TTL) (N := 1) hx hb hts inTL hown hK hP 0 rfl rfl 0 (by decide) (hts _ m_f_TL_9) (fun _ h9 => h9) rfl dTL_countFailure_28 ?_
  refine lv_bipush (v := 7) hx hb dTL_countFailure_31 (by decide) ?_
  refine lv_iload_n hx hb dTL_countFailure_33 rfl (lv_at hl 3 rfl) ?_
  refine lv_i2l hx hb dTL_countFailure_34 rfl ?_
  refine k_lst (W1 := [(h0, .inr (5, [.ref h1])), (h1, .inl (cJ, 8, .inr (.inl (vp_updL (vp_updL (vp_updL (vp_updL tf 4 ((tf 4) + 1)) 5 x.toInt64) 6 y.toInt64) 7 z.toInt64))))]) hx hb hK hP hD hS 1 1 rfl rfl (j := 7) (by decide) (by decide) (by decide) rfl dTL_countFailure_35 (fun H locs hP hD hS => ?_)
  exact k_vret hx hb hr hlocks hP hK hD hS dTL_countFailure_36 ⟨Nat.le_of_ble_eq_true rfl, Nat.le_of_ble_eq_true rfl⟩

abbrev rm_TL_fact : Room := { frames := 0, cells := 0, slots := 0, locals := 0 }
set_option maxHeartbeats 4000000 in
set_option maxRecDepth 100000 in
theorem k_TL_fact (l : Launch) (dC : Nat → ClassId) (dI : Nat → Nat → Nat) (cI cJ cG cZ : ClassId) (h0 : Nat) (h1 : Nat) (tf : Nat → Int64) (k : Nat) (hk : k < 8) : k_M l yTL_fact wsTL_fact rm_TL_fact (dC, dI) vwCl [(cI, .int), (cJ, .long), (cG, .array .long), (cZ, .boolean)] [.ref h0, .int (nI k)] [(h0, .inr (5, [.ref h1])), (h1, .inl (cJ, 8, .inr (.inl tf)))] (some (.long (tf k))) [(h0, .inr (5, [.ref h1])), (h1, .inl (cJ, 8, .inr (.inl tf)))] := by
  refine k_of (cc := cTL_fact) (maxL := 2) (ret := (some .long)) (by decide) rfl (Nat.le_of_ble_eq_true rfl) ?_
  intro p e s m below meth c A ls hx hb hr hlocks hml hown hts hA hP hD hK hF hl hS
  have hown : s.vm.findClass RTL = some m.cls := hown
  have hl : lv_has ls 2 [(0, .ref h0), (1, .int (nI k))] := hl
  refine lv_aload_n hx hb dTL_fact_0 rfl (lv_at hl 0 rfl) ?_
  refine va_get (D := (dC, dI)) (ci := 5) (v := .ref h1) (C := RTL) (T := TTL) (N := 1) hx hb hts inTL hown hK hP 0 rfl rfl 0 (by decide) (hts _ m_f_TL_9) (fun _ h9 => h9) rfl dTL_fact_1 ?_
  refine lv_iload_n hx hb dTL_fact_4 rfl (lv_at hl 1 rfl) ?_
  refine k_lld (v := tf k) hx hb hK hP 1 1 rfl rfl (j := k) rfl hk (by decide) rfl dTL_fact_5 ?_
  exact k_lret hx hb hr hlocks hP hK hD hS rfl dTL_fact_6 ⟨Nat.le_of_ble_eq_true rfl, Nat.le_of_ble_eq_true rfl⟩
abbrev rm_JN_size : Room := { frames := 0, cells := 0, slots := 0, locals := 0 }
set_option maxHeartbeats 4000000 in
set_option maxRecDepth 100000 in
theorem k_JN_size (l : Launch) (dC : Nat → ClassId) (dI : Nat → Nat → Nat) (cI cJ cG cZ : ClassId) (h0 : Nat) (h1 : Nat) (rg : Nat → Int64) (z : Nat) (q : Nat) : k_M l yJN_size wsJN_size rm_JN_size (dC, dI) vwCl [(cI, .int), (cJ, .long), (cG, .array .long), (cZ, .boolean)] [.ref h0] [(h0, .inr (2, [.ref h1, .int (nI z), .int (nI q)])), (h1, .inl (cJ, 64, .inr (.inl rg)))] (some (.int (nI z))) [(h0, .inr (2, [.ref h1, .int (nI z), .int (nI q)])), (h1, .inl (cJ, 64, .inr (.inl rg)))] := by
  refine k_of (cc := cJN_size) (maxL := 1) (ret := (some .int)) (by decide) rfl (Nat.le_of_ble_eq_true rfl) ?_
  intro p e s m below meth c A ls hx hb hr hlocks hml hown hts hA hP hD hK hF hl hS
  have hown : s.vm.findClass RJN = some m.cls := hown
  have hl : lv_has ls 1 [(0, .ref h0)] := hl
  refine lv_aload_n hx hb dJN_size_0 rfl (lv_at hl 0 rfl) ?_
  refine va_get (D := (dC, dI)) (ci := 2) (v := .int (nI z)) (C := RJN) (T := TJN) (N := 3) hx hb hts inJN hown hK hP 0 rfl rfl 1 (by decide) (hts _ m_f_JN_13) (fun _ h9 => h9) rfl dJN_size_1 ?_
  exact k_iret hx hb hr hlocks hP hK hD hS rfl dJN_size_4 ⟨Nat.le_of_ble_eq_true rfl, Nat.le_of_ble_eq_true rfl⟩

abbrev rm_JN_write : Room := { frames := 0, cells := 0, slots := 0, locals := 0 }
set_option maxHeartbeats 4000000 in
set_option maxRecDepth 100000 in
theorem k_JN_write (l : Launch) (dC : Nat → ClassId) (dI : Nat → Nat → Nat) (cI cJ cG cZ : ClassId) (h0 : Nat) (h1 : Nat) (rg : Nat → Int64) (z : Nat) (q : Nat) (v : Int64) (hz : z ≤ 64) (hq : q < 64) : k_M l yJN_write wsJN_write rm_JN_write (dC, dI) vwCl [(cI, .int), (cJ, .long), (cG, .array .long), (cZ, .boolean)] [.ref h0, .long v] [(h0, .inr (2, [.ref h1, .int (nI z), .int (nI q)])), (h1, .inl (cJ, 64, .inr (.inl rg)))] none [(h0, .inr (2, [.ref h1, .int (nI (f_js z)), .int (nI ((q + 1) % 64))])), (h1, .inl (cJ, 64, .inr (.inl (vp_updL rg q v))))] := by
  rcases Nat.lt_or_ge z 64 with hz1 | hz1
  · rw [show f_js z = z + 1 from if_pos hz1]
    refine k_of (cc := cJN_write) (maxL := 3) (ret := none) (by decide) rfl (Nat.le_of_ble_eq_true rfl) ?_
    intro p e s m below meth c A ls hx hb hr hlocks hml hown hts hA hP hD hK hF hl hS
    have hown : s.vm.findClass RJN = some m.cls := hown
    have hl : lv_has ls 3 [(0, .ref h0), (1, .long v)] := hl
    refine lv_aload_n hx hb dJN_write_0 rfl (lv_at hl 0 rfl) ?_
    refine va_get (D := (dC, dI)) (ci := 2) (v := .ref h1) (C := RJN) (T := TJN) (N := 3) hx hb hts inJN hown hK hP 0 rfl rfl 0 (by decide) (hts _ m_f_JN_9) (fun _ h9 => h9) rfl dJN_write_1 ?_
    refine lv_aload_n hx hb dJN_write_4 rfl (lv_at hl 0 rfl) ?_
    refine va_get (D := (dC, dI)) (ci := 2) (v := .int (nI q)) (C := RJN) (T := TJN) (N := 3) hx hb hts inJN hown hK hP 0 rfl rfl 2 (by decide) (hts _ m_f_JN_17) (fun _ h9 => h9) rfl dJN_write_5 ?_
    refine lv_lload_n hx hb dJN_write_8 rfl (lv_at hl 1 rfl) ?_
    refine k_lst (W1 := [(h0, .inr (2, [.ref h1, .int (nI z), .int (nI q)])), (h1, .inl (cJ, 64, .inr (.inl (vp_updL rg q v))))]) hx hb hK hP hD hS 1 1 rfl rfl (j := q) rfl hq (by decide) rfl dJN_write_9 (fun H locs hP hD hS => ?_)
    refine lv_aload_n hx hb dJN_write_10 rfl (lv_at hl 0 rfl) ?_
    refine lv_aload_n hx hb dJN_write_11 rfl (lv_at hl 0 rfl) ?_
    refine va_get (D := (dC, dI)) (ci := 2) (v := .int (nI q)) (C := RJN) (T := TJN) (N := 3) hx hb hts inJN hown hK hP 0 rfl rfl 2 (by decide) (hts _ m_f_JN_17) (fun _ h9 => h9) rfl dJN_write_12 ?_
    refine lv_iconst (v := 1) hx hb dJN_write_15 (by decide) ?_
    refine lv_iadd hx hb dJN_write_16 ?_
    refine lv_bipush (v := 64) hx hb dJN_write_17 (by decide) ?_
    refine lv_irem hx hb dJN_write_19 (by decide) ?_
    refine k_topi (y := nI ((q + 1) % 64)) (f_nx hq) ?_
    refine va_put (D := (dC, dI)) (ci := 2) (v := .int (nI ((q + 1) % 64))) (ty := .int) (C := RJN) (T := TJN) (N := 3) hx hb hts inJN tyJN tyJN_ok nmJN hown hK hP hD hS 0 rfl rfl 2 (by decide) (hts _ m_f_JN_17) (fun _ h9 => h9) rfl (by decide +kernel) rfl rfl (Nat.le_of_ble_eq_true rfl) dJN_write_20 (fun H locs hP hD hS => ?_)
    have hP : va_P (dC, dI) vwCl [(h0, .inr (2, [.ref h1, .int (nI z), .int (nI ((q + 1) % 64))])), (h1, .inl (cJ, 64, .inr (.inl (vp_updL rg q v))))] H := hP
    have hD : va_D A [(h0, .inr (2, [.ref h1, .int (nI z), .int (nI ((q + 1) % 64))])), (h1, .inl (cJ, 64, .inr (.inl (vp_updL rg q v))))] := hD
    refine lv_aload_n hx hb dJN_write_23 rfl (lv_at hl 0 rfl) ?_
    refine va_get (D := (dC, dI)) (ci := 2) (v := .int (nI z)) (C := RJN) (T := TJN) (N := 3) hx hb hts inJN hown hK hP 0 rfl rfl 1 (by decide) (hts _ m_f_JN_13) (fun _ h9 => h9) rfl dJN_write_24 ?_
    refine lv_bipush (v := 64) hx hb dJN_write_27 (by decide) ?_
    refine lv_icmp_ge (tgt := 42) hx hb dJN_write_29 (by decide) (fun c_1 => ?_) (fun c_1 => ?_)
    · exact absurd ((n_le (n := 64) rfl (by decide) (by omega)).mp c_1) (by omega)
    · refine lv_aload_n hx hb dJN_write_32 rfl (lv_at hl 0 rfl) ?_
      refine lv_dup hx hb dJN_write_33 rfl ?_
      refine va_get (D := (dC, dI)) (ci := 2) (v := .int (nI z)) (C := RJN) (T := TJN) (N := 3) hx hb hts inJN hown hK hP 0 rfl rfl 1 (by decide) (hts _ m_f_JN_13) (fun _ h9 => h9) rfl dJN_write_34 ?_
      refine lv_iconst (v := 1) hx hb dJN_write_37 (by decide) ?_
      refine lv_iadd hx hb dJN_write_38 ?_
      refine k_topi (y := nI (z + 1)) (nI_1 z) ?_
      refine va_put (D := (dC, dI)) (ci := 2) (v := .int (nI (z + 1))) (ty := .int) (C := RJN) (T := TJN) (N := 3) hx hb hts inJN tyJN tyJN_ok nmJN hown hK hP hD hS 0 rfl rfl 1 (by decide) (hts _ m_f_JN_13) (fun _ h9 => h9) rfl (by decide +kernel) rfl rfl (Nat.le_of_ble_eq_true rfl) dJN_write_39 (fun H locs hP hD hS => ?_)
      have hP : va_P (dC, dI) vwCl [(h0, .inr (2, [.ref h1, .int (nI (z + 1)), .int (nI ((q + 1) % 64))])), (h1, .inl (cJ, 64, .inr (.inl (vp_updL rg q v))))] H := hP
      have hD : va_D A [(h0, .inr (2, [.ref h1, .int (nI (z + 1)), .int (nI ((q + 1) % 64))])), (h1, .inl (cJ, 64, .inr (.inl (vp_updL rg q v))))] := hD
      exact k_vret hx hb hr hlocks hP hK hD hS dJN_write_42 ⟨Nat.le_of_ble_eq_true rfl, Nat.le_of_ble_eq_true rfl⟩
  · rw [show f_js z = z from if_neg (by omega)]
    refine k_of (cc := cJN_write) (maxL := 3) (ret := none) (by decide) rfl (Nat.le_of_ble_eq_true rfl) ?_
    intro p e s m below meth c A ls hx hb hr hlocks hml hown hts hA hP hD hK hF hl hS
    have hown : s.vm.findClass RJN = some m.cls := hown
    have hl : lv_has ls 3 [(0, .ref h0), (1, .long v)] := hl
    refine lv_aload_n hx hb dJN_write_0 rfl (lv_at hl 0 rfl) ?_
    refine va_get (D := (dC, dI)) (ci := 2) (v := .ref h1) (C := RJN) (T := TJN) (N := 3) hx hb hts inJN hown hK hP 0 rfl rfl 0 (by decide) (hts _ m_f_JN_9) (fun _ h9 => h9) rfl dJN_write_1 ?_
    refine lv_aload_n hx hb dJN_write_4 rfl (lv_at hl 0 rfl) ?_
    refine va_get (D := (dC, dI)) (ci := 2) (v := .int (nI q)) (C := RJN) (T := TJN) (N := 3) hx hb hts inJN hown hK hP 0 rfl rfl 2 (by decide) (hts _ m_f_JN_17) (fun _ h9 => h9) rfl dJN_write_5 ?_
    refine lv_lload_n hx hb dJN_write_8 rfl (lv_at hl 1 rfl) ?_
    refine k_lst (W1 := [(h0, .inr (2, [.ref h1, .int (nI z), .int (nI q)])), (h1, .inl (cJ, 64, .inr (.inl (vp_updL rg q v))))]) hx hb hK hP hD hS 1 1 rfl rfl (j := q) rfl hq (by decide) rfl dJN_write_9 (fun H locs hP hD hS => ?_)
    refine lv_aload_n hx hb dJN_write_10 rfl (lv_at hl 0 rfl) ?_
    refine lv_aload_n hx hb dJN_write_11 rfl (lv_at hl 0 rfl) ?_
    refine va_get (D := (dC, dI)) (ci := 2) (v := .int (nI q)) (C := RJN) (T := TJN) (N := 3) hx hb hts inJN hown hK hP 0 rfl rfl 2 (by decide) (hts _ m_f_JN_17) (fun _ h9 => h9) rfl dJN_write_12 ?_
    refine lv_iconst (v := 1) hx hb dJN_write_15 (by decide) ?_
    refine lv_iadd hx hb dJN_write_16 ?_
    refine lv_bipush (v := 64) hx hb dJN_write_17 (by decide) ?_
    refine lv_irem hx hb dJN_write_19 (by decide) ?_
    refine k_topi (y := nI ((q + 1) % 64)) (f_nx hq) ?_
    refine va_put (D := (dC, dI)) (ci := 2) (v := .int (nI ((q + 1) % 64))) (ty := .int) (C := RJN) (T := TJN) (N := 3) hx hb hts inJN tyJN tyJN_ok nmJN hown hK hP hD hS 0 rfl rfl 2 (by decide) (hts _ m_f_JN_17) (fun _ h9 => h9) rfl (by decide +kernel) rfl rfl (Nat.le_of_ble_eq_true rfl) dJN_write_20 (fun H locs hP hD hS => ?_)
    have hP : va_P (dC, dI) vwCl [(h0, .inr (2, [.ref h1, .int (nI z), .int (nI ((q + 1) % 64))])), (h1, .inl (cJ, 64, .inr (.inl (vp_updL rg q v))))] H := hP
    have hD : va_D A [(h0, .inr (2, [.ref h1, .int (nI z), .int (nI ((q + 1) % 64))])), (h1, .inl (cJ, 64, .inr (.inl (vp_updL rg q v))))] := hD
    refine lv_aload_n hx hb dJN_write_23 rfl (lv_at hl 0 rfl) ?_
    refine va_get (D := (dC, dI)) (ci := 2) (v := .int (nI z)) (C := RJN) (T := TJN) (N := 3) hx hb hts inJN hown hK hP 0 rfl rfl 1 (by decide) (hts _ m_f_JN_13) (fun _ h9 => h9) rfl dJN_write_24 ?_
    refine lv_bipush (v := 64) hx hb dJN_write_27 (by decide) ?_
    refine lv_icmp_ge (tgt := 42) hx hb dJN_write_29 (by decide) (fun c_1 => ?_) (fun c_1 => ?_)
    · exact k_vret hx hb hr hlocks hP hK hD hS dJN_write_42 ⟨Nat.le_of_ble_eq_true rfl, Nat.le_of_ble_eq_true rfl⟩
    · exact absurd ((n_le (n := 64) rfl (by decide) (by omega)).mpr hz1) c_1

abbrev rm_JN_entryAt : Room := { frames := 0, cells := 0, slots := 0, locals := 0 }
set_option maxHeartbeats 4000000 in
set_option maxRecDepth 100000 in
theorem k_JN_entryAt (l : Launch) (dC : Nat → ClassId) (dI : Nat → Nat → Nat) (cI cJ cG cZ : ClassId) (h0 : Nat) (h1 : Nat) (rg : Nat → Int64) (z : Nat) (q : Nat) (j : Nat) (hz : z ≤ 64) (hq : q < 64) (hj : j < 64) : k_M l yJN_entryAt wsJN_entryAt rm_JN_entryAt (dC, dI) vwCl [(cI, .int), (cJ, .long), (cG, .array .long), (cZ, .boolean)] [.ref h0, .int (nI j)] [(h0, .inr (2, [.ref h1, .int (nI z), .int (nI q)])), (h1, .inl (cJ, 64, .inr (.inl rg)))] (some (.long (rg (f_ix q z j)))) [(h0, .inr (2, [.ref h1, .int (nI z), .int (nI q)])), (h1, .inl (cJ, 64, .inr (.inl rg)))] := by
  refine k_of (cc := cJN_entryAt) (maxL := 2) (ret := (some .long)) (by decide) rfl (Nat.le_of_ble_eq_true rfl) ?_
  intro p e s m below meth c A ls hx hb hr hlocks hml hown hts hA hP hD hK hF hl hS
  have hown : s.vm.findClass RJN = some m.cls := hown
  have hl : lv_has ls 2 [(0, .ref h0), (1, .int (nI j))] := hl
  refine lv_aload_n hx hb dJN_entryAt_0 rfl (lv_at hl 0 rfl) ?_
  refine va_get (D := (dC, dI)) (ci := 2) (v := .ref h1) (C := RJN) (T := TJN) (N := 3) hx hb hts inJN hown hK hP 0 rfl rfl 0 (by decide) (hts _ m_f_JN_9) (fun _ h9 => h9) rfl dJN_entryAt_1 ?_
  refine lv_aload_n hx hb dJN_entryAt_4 rfl (lv_at hl 0 rfl) ?_
  refine va_get (D := (dC, dI)) (ci := 2) (v := .int (nI q)) (C := RJN) (T := TJN) (N := 3) hx hb hts inJN hown hK hP 0 rfl rfl 2 (by decide) (hts _ m_f_JN_17) (fun _ h9 => h9) rfl dJN_entryAt_5 ?_
  refine lv_bipush (v := 64) hx hb dJN_entryAt_8 (by decide) ?_
  refine lv_iadd hx hb dJN_entryAt_10 ?_
  refine lv_aload_n hx hb dJN_entryAt_11 rfl (lv_at hl 0 rfl) ?_
  refine va_get (D := (dC, dI)) (ci := 2) (v := .int (nI z)) (C := RJN) (T := TJN) (N := 3) hx hb hts inJN hown hK hP 0 rfl rfl 1 (by decide) (hts _ m_f_JN_13) (fun _ h9 => h9) rfl dJN_entryAt_12 ?_
  refine lv_isub hx hb dJN_entryAt_15 ?_
  refine lv_iload_n hx hb dJN_entryAt_16 rfl (lv_at hl 1 rfl) ?_
  refine lv_iadd hx hb dJN_entryAt_17 ?_
  refine lv_bipush (v := 64) hx hb dJN_entryAt_18 (by decide) ?_
  refine lv_irem hx hb dJN_entryAt_20 (by decide) ?_
  refine k_topi (y := nI (f_ix q z j)) (f_ixe hq hz hj) ?_
  refine k_lld (v := rg (f_ix q z j)) hx hb hK hP 1 1 rfl rfl (j := (f_ix q z j)) rfl (f_ix_lt q z j) (by decide) rfl dJN_entryAt_21 ?_
  exact k_lret hx hb hr hlocks hP hK hD hS rfl dJN_entryAt_22 ⟨Nat.le_of_ble_eq_true rfl, Nat.le_of_ble_eq_true rfl⟩

abbrev rm_JN_isLike : Room := { frames := 1, cells := 0, slots := 0, locals := 21 }
set_option maxHeartbeats 4000000 in
set_option maxRecDepth 100000 in
theorem k_JN_isLike (l : Launch) (dC : Nat → ClassId) (dI : Nat → Nat → Nat) (cI cJ cG cZ : ClassId) (h0 : Nat) (h1 : Nat) (rg : Nat → Int64) (z : Nat) (q : Nat) (g0 : Nat) (g1 : Nat) (rg2 : Nat → Int64) (z2 : Nat) (q2 : Nat) (hz : z ≤ 64) (hq : q < 64) (hz2 : z2 ≤ 64) (hq2 : q2 < 64) : k_M l yJN_isLike wsJN_isLike rm_JN_isLike (dC, dI) vwCl [(cI, .int), (cJ, .long), (cG, .array .long), (cZ, .boolean)] [.ref h0, .ref g0] [(h0, .inr (2, [.ref h1, .int (nI z), .int (nI q)])), (h1, .inl (cJ, 64, .inr (.inl rg))), (g0, .inr (2, [.ref g1, .int (nI z2), .int (nI q2)])), (g1, .inl (cJ, 64, .inr (.inl rg2)))] (some (.int (if z = z2 ∧ ∀ j : Nat, j < z → rg (f_ix q z j) = rg2 (f_ix q2 z2 j) then 1 else 0))) [(h0, .inr (2, [.ref h1, .int (nI z), .int (nI q)])), (h1, .inl (cJ, 64, .inr (.inl rg))), (g0, .inr (2, [.ref g1, .int (nI z2), .int (nI q2)])), (g1, .inl (cJ, 64, .inr (.inl rg2)))] := by
  refine k_of (cc := cJN_isLike) (maxL := 3) (ret := (some .boolean)) (by decide) rfl (Nat.le_of_ble_eq_true rfl) ?_
  intro p e s m below meth c A ls hx hb hr hlocks hml hown hts hA hP hD hK hF hl hS
  have hown : s.vm.findClass RJN = some m.cls := hown
  have hl : lv_has ls 3 [(0, .ref h0), (1, .ref g0)] := hl
  refine lv_aload_n hx hb dJN_isLike_0 rfl (lv_at hl 0 rfl) ?_
  refine va_get (D := (dC, dI)) (ci := 2) (v := .int (nI z)) (C := RJN) (T := TJN) (N := 3) hx hb hts inJN hown hK hP 0 rfl rfl 1 (by decide) (hts _ m_f_JN_13) (fun _ h9 => h9) rfl dJN_isLike_1 ?_
  refine lv_aload_n hx hb dJN_isLike_4 rfl (lv_at hl 1 rfl) ?_
  refine va_get (D := (dC, dI)) (ci := 2) (v := .int (nI z2)) (C := RJN) (T := TJN) (N := 3) hx hb hts inJN hown hK hP 2 rfl rfl 1 (by decide) (hts _ m_f_JN_13) (fun _ h9 => h9) rfl dJN_isLike_5 ?_
  refine lv_icmp_eq (tgt := 13) hx hb dJN_isLike_8 (by decide) (fun c_1 => ?_) (fun c_1 => ?_)
  · refine lv_iconst (v := 0) hx hb dJN_isLike_13 (by decide) ?_
    refine lv_istore_n (lv' := [(2, .int 0), (0, .ref h0), (1, .ref g0)]) hx hb dJN_isLike_14 rfl hl (by decide) rfl (fun ls hl => ?_)
    have hl : lv_has ls 3 [(2, .int (nI 0)), (0, .ref h0), (1, .ref g0)] := hl
    have hzz : z = z2 := (nI_eq (by omega) (by omega)).mp c_1
    have lp : ∀ (n i : Nat), z < i + n → i ≤ z → (∀ j : Nat, j < i → rg (f_ix q z j) = rg2 (f_ix q2 z2 j)) → ∀ (H : Heap) (locs : List Loc), va_P (dC, dI) vwCl [(h0, .inr (2, [.ref h1, .int (nI z), .int (nI q)])), (h1, .inl (cJ, 64, .inr (.inl rg))), (g0, .inr (2, [.ref g1, .int (nI z2), .int (nI q2)])), (g1, .inl (cJ, 64, .inr (.inl rg2)))] H → va_D A [(h0, .inr (2, [.ref h1, .int (nI z), .int (nI q)])), (h1, .inl (cJ, 64, .inr (.inl rg))), (g0, .inr (2, [.ref g1, .int (nI z2), .int (nI q2)])), (g1, .inl (cJ, 64, .inr (.inl rg2)))] → va_S A s.heap H locs → ∀ (ls : Array Slot), lv_has ls 3 [(2, .int (nI i)), (0, .ref h0), (1, .ref g0)] → W p l e rm_JN_isLike s m ([.ref h0, .ref g0] : List Value).toArray below meth c H locs 0 0 (MQ below (k_Q (dC, dI) vwCl [(cI, .int), (cJ, .long), (cG, .array .long), (cZ, .boolean)] (some (.int (if z = z2 ∧ ∀ j : Nat, j < z → rg (f_ix q z j) = rg2 (f_ix q2 z2 j) then 1 else 0))) [(h0, .inr (2, [.ref h1, .int (nI z), .int (nI q)])), (h1, .inl (cJ, 64, .inr (.inl rg))), (g0, .inr (2, [.ref g1, .int (nI z2), .int (nI q2)])), (g1, .inl (cJ, 64, .inr (.inl rg2)))] A) ([.ref h0, .ref g0] : List Value).toArray s rm_JN_isLike.cells rm_JN_isLike.slots A) (F0 m 15 ls []) := by
      intro n
      induction n with
      | zero => intro i h8 h9; exact absurd h8 (by omega)
      | succ n ih =>
        intro i hn hle hinv H locs hP hD hS ls hl
        refine lv_iload_n hx hb dJN_isLike_15 rfl (lv_at hl 0 rfl) ?_
        refine lv_aload_n hx hb dJN_isLike_16 rfl (lv_at hl 1 rfl) ?_
        refine va_get (D := (dC, dI)) (ci := 2) (v := .int (nI z)) (C := RJN) (T := TJN) (N := 3) hx hb hts inJN hown hK hP 0 rfl rfl 1 (by decide) (hts _ m_f_JN_13) (fun _ h9 => h9) rfl dJN_isLike_17 ?_
        refine lv_icmp_ge (tgt := 45) hx hb dJN_isLike_20 (by decide) (fun c_2 => ?_) (fun c_2 => ?_)
        · refine lv_iconst (v := 1) hx hb dJN_isLike_45 (by decide) ?_
          exact k_zret hx hb hr hlocks rfl hP hK hD hS (if_pos ⟨hzz, fun j hj => hinv j (by have h9 := (nI_leI (by omega) (by omega)).mp c_2; omega)⟩).symm dJN_isLike_46 ⟨Nat.le_of_ble_eq_true rfl, Nat.le_of_ble_eq_true rfl⟩
        · have hlt : i < z := by rcases Nat.lt_or_ge i z with q9 | q9; exact q9; exact absurd (nI_le q9 (by omega)) c_2
          refine lv_aload_n hx hb dJN_isLike_23 rfl (lv_at hl 1 rfl) ?_
          refine lv_iload_n hx hb dJN_isLike_24 rfl (lv_at hl 0 rfl) ?_
          refine k_V (wr := [(g0, .inr (2, [.ref g1, .int (nI z2), .int (nI q2)])), (g1, .inl (cJ, 64, .inr (.inl rg2)))]) (W1 := [(h0, .inr (2, [.ref h1, .int (nI z), .int (nI q)])), (h1, .inl (cJ, 64, .inr (.inl rg))), (g0, .inr (2, [.ref g1, .int (nI z2), .int (nI q2)])), (g1, .inl (cJ, 64, .inr (.inl rg2)))]) (st1 := [.long (rg (f_ix q z i))]) ⟨hx, hb, hml, hown, hts⟩ (k_JN_entryAt l dC dI cI cJ cG cZ h0 h1 rg z q i hz hq (by omega)) (cwV 1 hts (k_gV m_l_JN_20 m_i_JN_entryAt m_s_JN_entryAt m_in_JN m_c_JN_entryAt) rfl rfl rfl (by decide +kernel) ⟨Nat.le_of_ble_eq_true rfl, Nat.le_of_ble_eq_true rfl⟩) hK hF hP hD hS hA [0, 1] [2, 3] [2, 3, 0, 1] rfl rfl (by decide) (by decide) (by decide) rfl (by decide) rfl rfl rfl rfl hl.1 rfl (Nat.le_of_ble_eq_true rfl) dJN_isLike_25 ⟨Nat.le_of_ble_eq_true rfl, Nat.le_of_ble_eq_true rfl⟩ rfl (fun H locs hP hD hS => ?_)
          refine lv_aload_n hx hb dJN_isLike_28 rfl (lv_at hl 2 rfl) ?_
          refine lv_iload_n hx hb dJN_isLike_29 rfl (lv_at hl 0 rfl) ?_
          refine k_V (wr := [(h0, .inr (2, [.ref h1, .int (nI z), .int (nI q)])), (h1, .inl (cJ, 64, .inr (.inl rg)))]) (W1 := [(h0, .inr (2, [.ref h1, .int (nI z), .int (nI q)])), (h1, .inl (cJ, 64, .inr (.inl rg))), (g0, .inr (2, [.ref g1, .int (nI z2), .int (nI q2)])), (g1, .inl (cJ, 64, .inr (.inl rg2)))]) (st1 := [.long (rg2 (f_ix q2 z2 i)), .long (rg (f_ix q z i))]) ⟨hx, hb, hml, hown, hts⟩ (k_JN_entryAt l dC dI cI cJ cG cZ g0 g1 rg2 z2 q2 i hz2 hq2 (by omega)) (cwV 1 hts (k_gV m_l_JN_20 m_i_JN_entryAt m_s_JN_entryAt m_in_JN m_c_JN_entryAt) rfl rfl rfl (by decide +kernel) ⟨Nat.le_of_ble_eq_true rfl, Nat.le_of_ble_eq_true rfl⟩) hK hF hP hD hS hA [2, 3] [0, 1] [0, 1, 2, 3] rfl rfl (by decide) (by decide) (by decide) rfl (by decide) rfl rfl rfl rfl hl.1 rfl (Nat.le_of_ble_eq_true rfl) dJN_isLike_30 ⟨Nat.le_of_ble_eq_true rfl, Nat.le_of_ble_eq_true rfl⟩ rfl (fun H locs hP hD hS => ?_)
          refine W.lcmp hx hb dJN_isLike_33 ?_
          refine lv_if_eq (tgt := 39) hx hb dJN_isLike_34 (by decide) (fun c_3 => ?_) (fun c_3 => ?_)
          · refine lv_iinc (v := nI (i + 1)) (lv' := [(2, .int (nI (i + 1))), (0, .ref h0), (1, .ref g0)]) hx hb dJN_isLike_39 hl (k := 0) rfl (nI_1 _) (by decide) rfl (fun ls hl => ?_)
            refine lv_goto (tgt := 15) hx hb dJN_isLike_42 (by decide) ?_
            exact ih (i + 1) (by omega) (by omega) (lt_s hinv (n_eq0.mp c_3)) _ _ hP hD hS ls (lv_sub hl [0, 1, 2] rfl)
          · refine lv_iconst (v := 0) hx hb dJN_isLike_37 (by decide) ?_
            exact k_zret hx hb hr hlocks rfl hP hK hD hS (if_neg (fun h9 => c_3 (n_eq0.mpr (h9.2 i hlt)))).symm dJN_isLike_38 ⟨Nat.le_of_ble_eq_true rfl, Nat.le_of_ble_eq_true rfl⟩
    exact lp (z + 1) 0 (by omega) (by omega) lt_0 _ _ hP hD hS ls hl
  · refine lv_iconst (v := 0) hx hb dJN_isLike_11 (by decide) ?_
    exact k_zret hx hb hr hlocks rfl hP hK hD hS (if_neg (fun h9 => c_1 (by rw [h9.1]))).symm dJN_isLike_12 ⟨Nat.le_of_ble_eq_true rfl, Nat.le_of_ble_eq_true rfl⟩
