/-! THE CLAIM OUT OF ONE WALK OF THE LAW'S BODY. Your part is whole_start (and what it stands on); all else here is the same for every law, but numbers. -/
def R_law : String := "PortDeskLaw"
def lw_P (b : Addr) (xs : List Int32) (args : Array Value) (s : State) : Prop := args = #[.ref b] ∧ s.IntsAt b xs ∧ xs.length ≤ 2560 ∧ (Jvm.Cond.and given_1 narrow_1).before args s = true
def lw_Q (_ : Array Value) (s : State) (o : Outcome) (t : State) : Prop := o = .returned (some (.int 1)) ∧ Framed s o t [] 601024 7293034
def lw_Z (below : List Frame) (a : Array Value) (s : State) : State → Prop := fun t => ∃ o, t.status = .running ∧ Ended t below o ∧ lw_Q a s o t
/-- the law's own end, with 1 on the stack, nothing written that was there before, its room as the claim has it -/
theorem lw_ret {p : Program} {l : Launch} {e : Env} {s : State} {m : MethodId} {below : List Frame} {meth : Method} {c : Code} {b : Nat} (hx : p.tables.exec = Jvm.exec) (hb : c.code = code) (hr : meth.sig.returnType = ret) (hlocks : meth.locks = false) {pc : Nat} {H : Heap} {ls : Array Slot} (hdg : decode code pc = .ok (.ireturn, 1)) : W p l e room_1 s m #[Value.ref b] below meth c H [] 601024 7293034 (lw_Z below #[Value.ref b] s) (F0 m pc ls [.int 1]) := by
  intro T hT X
  obtain ⟨fs, hret, hrun, hended, hW, hframe⟩ := X.leave (v := some (.int 1)) (hlocks := hlocks) (fun h => by rw [hr] at h; cases h)
  have hmeth' : T.vm.method? m = some meth := X.method'
  refine ⟨T.setFrames fs, ?_, .returned (some (.int 1)), hrun, hended, rfl, ⟨_, rfl⟩, hW, hframe⟩
  jvm_step X.here [X.here.top, hx, hb, hdg, hmeth', hr, ret, narrow_b1]
  (try refine ⟨rfl, ?_⟩); (try refine ⟨rfl, ?_⟩)
  first | (intro acts; rw [hret _ acts rfl rfl rfl]) | rw [hret _ _ rfl rfl rfl]
  exact Steps.refl _
/-- what holds at the law's entry: the machine, the code, the tables' words (any of lw_tbl by 'hts w (by decide +kernel)'), the script of L ints xs at the cell b, what the Statement gives of the start (any of its parts by flat_of_before) -/
def lw_At (p : Program) (s : State) (m : MethodId) (meth : Method) (c : Code) (b L : Nat) (xs : Nat → Int32) : Prop :=
  p.tables.exec = Jvm.exec ∧ c.code = code ∧ meth.sig.returnType = ret ∧ c.maxLocals = 8 ∧ s.vm.findClass R_law = some m.cls ∧ (∀ w ∈ lw_tbl, w.before #[Value.ref b] s = true) ∧ va_X b L xs s s.heap ∧ b < s.heap.size ∧ meth.locks = false ∧ (Jvm.Cond.and given_1 narrow_1).before #[Value.ref b] s = true
/-! ===== the law's loop ===== -/
def lwV (a b : Int32) : Int64 := (a.toInt64 <<< ((32 : Int32).toInt64 &&& 63)) ||| (b.toInt64 &&& 4294967295)
section KL
variable {p : Program} {l : Launch} {e : Env} {R : Room} {s : State} {m : MethodId} {args : Array Value} {below : List Frame} {meth : Method} {c : Code} {H : Heap} {locs : List Loc} {cells slots : Nat} {Q : State → Prop}
theorem k_sld {cc : ByteArray} {pc : Nat} {ls : Array Slot} {rest : List Value} {A : Nat → Prop} {H0 : Heap} {b L j : Nat} {xs : Nat → Int32} (hx : p.tables.exec = Jvm.exec) (hb : c.code = cc) (hX : va_X b L xs s H0) (hbl : b < H0.size) (hbA : ¬ A b) (hS : va_S A H0 H locs) {i : Int32} (hi : i = nI j) (hj : j < L) (hL : L < 2 ^ 31) (hdg : decode cc pc = .ok (.iaload, 1))
    (kk : W p l e R s m args below meth c H locs cells slots Q (F0 m (pc + 1) ls (.int (xs j) :: rest))) : W p l e R s m args below meth c H locs cells slots Q (F0 m pc ls (.int i :: .ref b :: rest)) := by
  subst hi
  refine va_sld hx hb hX hbl hbA hS (vp_in_nI hj hL) hdg ?_
  rw [nI_clamp (Nat.lt_trans hj hL)]
  exact kk
end KL
theorem lw_e0 {md : Nat → Int32} {ou : Nat → Int64} {x : Int32} (h : f_mk md x = 0) : lg_cmp (f_mkO md ou x 0) ((f_mkV md x).toInt64) = 0 := by
  rw [lg_cmp_eq]; unfold f_mkO f_mkV; rw [if_pos h, if_pos h]; rfl
theorem lw_e1 {tf ou : Nat → Int64} {x : Int32} (h : f_td x = 0) : lg_cmp (f_tdO tf ou x 0) (f_tdV tf x) = 0 := by
  rw [lg_cmp_eq]; unfold f_tdO f_tdV; rw [if_pos h, if_pos h]; rfl
theorem lw_e2 {md : Nat → Int32} {kn ou : Nat → Int64} {x i : Int32} (h : f_nk x = 0) : lg_cmp (f_nkO md kn ou x i 0) ((f_nkW md kn x i).toInt64) = 0 := by
  rw [lg_cmp_eq]; unfold f_nkO f_nkW; rw [if_pos h, if_pos h]; rfl
theorem lw_e3 {sz : Nat → Int32} {vs : Nat → Nat → Int64} {ou : Nat → Int64} {x i : Int32} (h : f_clR sz x i = 0) : lg_cmp (f_clO sz vs ou x i 0) (f_clV sz vs x i) = 0 := by
  rw [lg_cmp_eq]; unfold f_clO f_clV; rw [if_pos h, if_pos h]; rfl
theorem lw_e4 {rg xrg : Nat → Int64} {z q xz xq : Nat} {ou : Nat → Int64} {x i : Int32} (h : f_lgR z xz x i = 0) : lg_cmp (f_lgO rg xrg z q xz xq ou x i 0) (f_lgW rg xrg z q xz xq x i) = 0 := by
  rw [lg_cmp_eq]; unfold f_lgO f_lgW; rw [if_pos h, if_pos h]; rfl
theorem lw_e5 {sm xsm ou : Nat → Int64} {x y : Int32} (h : f_smR x y = 0) : lg_cmp (f_smO sm xsm ou x y 0) (f_smW sm xsm x y) = 0 := by
  rw [lg_cmp_eq]; unfold f_smO f_smW; rw [if_pos h, if_pos h]; rfl

def lwWorld (cI cJ cG cZ : ClassId) (o0 u0 w0 : Nat) (pa pm r1 r2 : Nat → Nat) (md : Nat → Int32) (kn : Nat → Int64) (an : Nat → Int64) (sz : Nat → Int32) (vs : Nat → Nat → Int64) (sm : Nat → Int64) (fl : Nat → Int32) (tf : Nat → Int64) (rg : Nat → Int64) (z : Nat) (q : Nat) (xsm : Nat → Int64) (xfl : Nat → Int32) (xtf : Nat → Int64) (xrg : Nat → Int64) (xz : Nat) (xq : Nat) (dr : Nat → Int32) (lg : Nat → Int64) (va : Nat → Int64) (th : Int32) (ou : Nat → Int64) : va_W := [(o0, .inr (6, [.ref (pa 0), .ref (pa 19)])), (pa 0, .inr (1, [.ref (pa 1), .ref (pa 4), .ref (pa 8), .ref (pa 10), .ref (pa 17)])), (pa 1, .inr (3, [.ref (pa 2), .ref (pa 3)])), (pa 2, .inl (cI, 8, .inl md)), (pa 3, .inl (cJ, 8, .inr (.inl kn))), (pa 4, .inr (4, [.ref (pa 5), .ref (pa 6), .ref (pa 7)])), (pa 5, .inl (cJ, 12, .inr (.inl an))), (pa 6, .inl (cJ, 12, .inr (.inl sm))), (pa 7, .inl (cI, 12, .inl fl)), (pa 8, .inr (5, [.ref (pa 9)])), (pa 9, .inl (cJ, 8, .inr (.inl tf))), (pa 10, .inr (0, [.ref (pa 11), .ref (pa 12)])), (pa 11, .inl (cI, 4, .inl sz)), (pa 12, .inl (cG, 4, .inr (.inr (.inr (.inr (f_rw r1)))))), (r1 0, .inl (cJ, 100, .inr (.inl (vs 0)))), (r1 1, .inl (cJ, 100, .inr (.inl (vs 1)))), (r1 2, .inl (cJ, 100, .inr (.inl (vs 2)))), (r1 3, .inl (cJ, 100, .inr (.inl (vs 3)))), (pa 17, .inr (2, [.ref (pa 18), .int (nI z), .int (nI q)])), (pa 18, .inl (cJ, 64, .inr (.inl rg))), (pa 19, .inr (1, [.ref (pa 20), .ref (pa 23), .ref (pa 27), .ref (pa 29), .ref (pa 36)])), (pa 20, .inr (3, [.ref (pa 21), .ref (pa 22)])), (pa 21, .inl (cI, 8, .inl md)), (pa 22, .inl (cJ, 8, .inr (.inl kn))), (pa 23, .inr (4, [.ref (pa 24), .ref (pa 25), .ref (pa 26)])), (pa 24, .inl (cJ, 12, .inr (.inl an))), (pa 25, .inl (cJ, 12, .inr (.inl xsm))), (pa 26, .inl (cI, 12, .inl xfl)), (pa 27, .inr (5, [.ref (pa 28)])), (pa 28, .inl (cJ, 8, .inr (.inl xtf))), (pa 29, .inr (0, [.ref (pa 30), .ref (pa 31)])), (pa 30, .inl (cI, 4, .inl sz)), (pa 31, .inl (cG, 4, .inr (.inr (.inr (.inr (f_rw r2)))))), (r2 0, .inl (cJ, 100, .inr (.inl (vs 0)))), (r2 1, .inl (cJ, 100, .inr (.inl (vs 1)))), (r2 2, .inl (cJ, 100, .inr (.inl (vs 2)))), (r2 3, .inl (cJ, 100, .inr (.inl (vs 3)))), (pa 36, .inr (2, [.ref (pa 37), .int (nI xz), .int (nI xq)])), (pa 37, .inl (cJ, 64, .inr (.inl xrg))), (u0, .inr (7, [.int th, .ref (pm 0), .ref (pm 1), .ref (pm 2), .ref (pm 3), .ref (pm 4), .ref (pm 5), .ref (pm 6), .ref (pm 7), .ref (pm 8), .ref (pm 9)])), (pm 0, .inl (cI, 8, .inl md)), (pm 1, .inl (cZ, 320, .inl dr)), (pm 2, .inl (cJ, 12, .inr (.inl an))), (pm 3, .inl (cI, 24, .inl (f_twoI 12 fl xfl))), (pm 4, .inl (cJ, 24, .inr (.inl (f_twoL 12 sm xsm)))), (pm 5, .inl (cI, 2, .inl (f_lo z xz))), (pm 6, .inl (cJ, 128, .inr (.inl lg))), (pm 7, .inl (cJ, 16, .inr (.inl (f_twoL 8 tf xtf)))), (pm 8, .inl (cI, 4, .inl sz)), (pm 9, .inl (cJ, 400, .inr (.inl va))), (w0, .inl (cJ, 1, .inr (.inl ou)))]
/-- from the loop's head, at the place i of the script, whatever class and reference hold, if they agree, the law comes to its end with true -/
def lwHead (p : Program) (l : Launch) (e : Env) (s : State) (m : MethodId) (below : List Frame) (meth : Method) (c : Code) (dC : Nat → ClassId) (dI : Nat → Nat → Nat) (cI cJ cG cZ : ClassId) (A : Nat → Prop) (b : Nat) (o0 u0 w0 : Nat) (pa pm r1 r2 : Nat → Nat) (i : Nat) : Prop :=
  ∀ (md : Nat → Int32) (kn : Nat → Int64) (an : Nat → Int64) (sz : Nat → Int32) (vs : Nat → Nat → Int64) (sm : Nat → Int64) (fl : Nat → Int32) (tf : Nat → Int64) (rg : Nat → Int64) (z : Nat) (q : Nat) (xsm : Nat → Int64) (xfl : Nat → Int32) (xtf : Nat → Int64) (xrg : Nat → Int64) (xz : Nat) (xq : Nat) (dr : Nat → Int32) (lg : Nat → Int64) (va : Nat → Int64) (th : Int32) (ou : Nat → Int64) (mn ns : Nat → Nat), lwN md kn dr mn → lwC sz vs va ns → lwG fl → lwG xfl → lwJ rg z q xrg xz xq lg → ∀ (H : Heap) (locs : List Loc), va_P (dC, dI) vwCl (lwWorld cI cJ cG cZ o0 u0 w0 pa pm r1 r2 md kn an sz vs sm fl tf rg z q xsm xfl xtf xrg xz xq dr lg va th ou) H → va_D A (lwWorld cI cJ cG cZ o0 u0 w0 pa pm r1 r2 md kn an sz vs sm fl tf rg z q xsm xfl xtf xrg xz xq dr lg va th ou) → va_S A s.heap H locs → ∀ (ls : Array Slot), lv_has ls 8 [(0, .ref b), (1, .ref o0), (2, .ref u0), (3, .ref w0), (4, .int (nI i))] → W p l e room_1 s m #[Value.ref b] below meth c H locs (51 + i) (2100 + 12 * i) (lw_Z below #[Value.ref b] s) (F0 m 23 ls [])
