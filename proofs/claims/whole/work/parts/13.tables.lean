/-! ===== methods with an exception table of their own ===== -/
section KH
def k_hh (hh : List (Nat × Nat × Nat × Nat)) : List ExceptionTableEntry := hh.map fun q => ⟨q.1, q.2.1, q.2.2.1, q.2.2.2⟩
theorem k_hh_of : ∀ (L : List ExceptionTableEntry) {hh : List (Nat × Nat × Nat × Nat)}, L.map (fun h => (h.startPc, h.endPc, h.handlerPc, h.catchType)) = hh → L = k_hh hh := by
  intro L hh h
  subst h
  unfold k_hh
  rw [List.map_map]
  exact (List.map_id L).symm
theorem k_ofH {l : Launch} {y : MethodName} {ws : List Cond} {rm : Room} {D : va_G} {cl : List vw_C} {tys : List (ClassId × FieldType)} {av : List Value} {w w' : va_W} {rv : Option Value} {cc : ByteArray} {maxL : Nat} {ret : Option FieldType} {hh : List (Nat × Nat × Nat × Nat)}
    (hy : plainName y.cls = true) (hw : ws = Cond.codeWith y cc maxL ret hh :: wsA) (hlen : (lg_sl av).length ≤ maxL)
    (body : ∀ (p : Program) (e : Env) (s : State) (m : MethodId) (below : List Frame) (meth : Method) (c : Code) (A : Nat → Prop) (ls : Array Slot), p.tables.exec = Jvm.exec → c.code = cc → meth.sig.returnType = ret → meth.locks = false → c.maxLocals = maxL → s.vm.findClass y.cls = some m.cls → (∀ x ∈ wsA, x.before av.toArray s = true) → (∀ q : Nat, s.heap.size ≤ q → A q) →
      va_P D cl w s.heap → va_D A w → va_K D cl tys s → k_F A s → lv_has ls maxL (lv_args 0 av) → va_S A s.heap s.heap [] → c.exceptionTable.toList = k_hh hh →
      W p l e rm s m av.toArray below meth c s.heap [] 0 0 (MQ below (k_Q D cl tys rv w' A) av.toArray s rm.cells rm.slots A) (F0 m 0 ls [])) : k_M l y ws rm D cl tys av w rv w' := by
  intro sz
  refine va_MetW (cc := cc) (maxL := maxL) (ret := ret) (hh := hh) hy hw ?_
  intro p e s m args below meth c s₁ B hml hv
  obtain ⟨rfl, hsz, hP, hK, hD0, hF⟩ := hv
  subst hsz
  have hl := lv_entry av (n := maxL) hlen
  have hts := atoms_spec (ws := ws) B.pre
  have ht : c.exceptionTable.toList = k_hh hh := by
    obtain ⟨m9, meth9, c9, hn9, h1, h2, -, -, h5, -⟩ := Cond.codeWith_spec (hts _ (by rw [hw]; exact List.mem_cons_self))
    cases B.named.symm.trans hn9
    cases B.method.symm.trans h1
    cases (Stand.of_body B).code.symm.trans h2
    exact k_hh_of _ h5
  rw [lg_entry_eq]
  exact body p e s m below meth c (va_A w s.heap.size) _ B.exec B.bytes B.returns B.notSynchronized hml (findClass_of_methodNamed B.named) (fun x hx => hts x (by rw [hw]; exact List.mem_cons_of_mem _ hx)) (fun q h => Or.inr h) hP hD0.self hK hF hl va_S.rf ht
section Rows
variable {p : Program} {l : Launch} {e : Env} {R : Room} {s : State} {m : MethodId} {args : Array Value} {below : List Frame} {meth : Method} {c : Code} {H : Heap} {locs : List Loc} {cells slots : Nat} {Q : State → Prop}
variable {cc : ByteArray} {pc : Nat} {ls : Array Slot} {rest st0 st1 : List Value} {D : va_G} {cl : List vw_C} {A : Nat → Prop} {tys : List (ClassId × FieldType)} {w w' wr W0 W1 : va_W} {rv : Option Value}
variable {y : MethodName} {bytes : ByteArray} {maxL nL n index : Nat} {ret : Option FieldType} {wsM Ts : List Cond} {rm : Room} {own C host : String} {b : Nat} {As : List Value} {hh : List (Nat × Nat × Nat × Nat)}
/-- what a call of a method with a table asks -/
def k_CW (R : Room) (own : String) (index : Nat) (y : MethodName) (bytes : ByteArray) (maxL : Nat) (ret : Option FieldType) (hh : List (Nat × Nat × Nat × Nat)) (wsM : List Cond) (rm : Room) (n : Nat) : Prop :=
  (rm.frames + 1 ≤ R.frames ∧ 8 + (maxL + 11) + rm.locals ≤ R.locals) ∧ wsM = Cond.codeWith y bytes maxL ret hh :: wsA ∧ Cond.codeWith y bytes maxL ret hh ∈ wsA ∧ Cond.methodLink own index y ∈ wsA ∧ Cond.initialized y.cls ∈ wsA ∧
  (y.cls ≠ "java/lang/invoke/MethodHandle" ∧ y.cls ≠ "java/lang/invoke/VarHandle" ∧ (parseMethodDescriptor y.desc).map (fun d => d.parameters.length) = some n)
theorem k_backW {w : va_W} {sz : Nat} {av : List Value} (hM : k_M l y wsM rm D cl tys av w rv w') (cw : k_CW R own index y bytes maxL ret hh wsM rm n) (hts : ∀ x ∈ wsA, x.before args s = true) :
    Back l R p e below s args y 3 8 (PreOf R rm.cells rm.slots (k_Pc D cl tys av w sz)) (PostOf (k_Q D cl tys rv w' (va_A w sz)) rm.cells rm.slots (va_A w sz)) := by
  obtain ⟨⟨h1, h2⟩, h3, h4, h5, h6, h7⟩ := cw
  refine va_backW (hh := hh) (bytes := bytes) (maxL := maxL) (ret := ret) (hM sz) k_blind rfl rfl h1 h2 ?_ (by rw [h3]; exact List.mem_cons_self) (fun a' U hW => word_at hW (wa_good _ h6) (hts _ h6))
  intro x hx a' U hW
  have hm : x ∈ wsA := by
    rw [h3] at hx
    rcases List.mem_cons.mp hx with rfl | hx <;> assumption
  exact word_at hW (wa_good x hm) (hts x hm)
theorem k_len {sig : MethodDescriptor} (h : (parseMethodDescriptor y.desc).map (fun d => d.parameters.length) = some n) (h1 : parseMethodDescriptor y.desc = some sig) : n = sig.parameters.length := by
  rw [h1] at h
  exact (Option.some.inj h).symm
theorem k_runVW (hx : p.tables.exec = Jvm.exec) (hb : c.code = cc) (hml : c.maxLocals = nL) (ho : s.vm.findClass own = some m.cls) (hts : ∀ x ∈ wsA, x.before args s = true) (hM : k_M l y wsM rm D cl tys (.ref b :: As) w rv w') (cw : k_CW R own index y bytes maxL ret hh wsM rm n) (hin : Cond.instanceMethod y ∈ wsA) (hse : Cond.selects C y y ∈ wsA)
    (hrecv : ∃ cell : Cell, H[b]? = some cell ∧ cell.vm.isStatics = false ∧ s.vm.findClass C = some cell.cls) (hPc : ∀ U : State, U.heap = H → s.WarmedH U.vm → k_Pc D cl tys (.ref b :: As) w H.size (Value.ref b :: As).toArray U)
    (hn : As.length = n) (hsize : ls.size = nL) (hW : 2 * (F0 m pc ls rest).monitorRoom + (rest.map fun v => v.category).sum ≤ 8) (hdg : decode cc pc = .ok (.invokevirtual index, 3)) (hf : cells + rm.cells ≤ R.cells ∧ slots + rm.slots ≤ R.slots) :
    va_Run p l e R s m args below meth c H locs cells slots rm.cells rm.slots (F0 m pc ls (As.reverse ++ .ref b :: rest)) rest (k_Q D cl tys rv w' (va_A w H.size) (Value.ref b :: As).toArray) (va_A w H.size) := by
  have hK := k_backW (p := p) (e := e) (below := below) (sz := H.size) hM cw hts
  obtain ⟨-, -, hcode, hl, hini, hy1, hy2, hlen⟩ := cw
  obtain ⟨cellB, hcB, hoB, hclB⟩ := hrecv
  intro T hT X
  obtain ⟨mk, methM, hnamed, hmethM, hstM, habM⟩ := Cond.instanceMethod_spec (hts _ hin)
  obtain ⟨m9, methM', cM, hn9, hmethM', -, -, -, -, -, -, hsigM⟩ := Cond.codeWith_spec (hts _ hcode)
  cases hnamed.symm.trans hn9
  cases hmethM.symm.trans hmethM'
  obtain ⟨c2, r2, m2, q1, q2, q3, q4, kP, hkP, hkPi⟩ := Cond.selects_spec (hts _ hse)
  cases hclB.symm.trans q1
  cases (State.methodFound?_of_named hnamed ⟨hy1, hy2⟩).symm.trans q2
  cases hnamed.symm.trans q3
  have hselP : selectMethod e.platform s.vm cellB.cls mk = .method mk := by rw [Launch.admits_selectMethod X.admits]; exact q4
  obtain ⟨vm₁, X₁, hstep₁⟩ := X.invokevirtual hx ho (hts _ hl) hnamed hmethM hstM hkP hkPi ⟨hy1, hy2⟩ (a := b) (cell := cellB) (by rw [hT]; exact hcB)
    (fun z h => by rw [h] at hoB; cases hoB) hselP hmethM habM hkP hkPi (g := F0 m pc ls (As.reverse ++ .ref b :: rest)) rfl (argsL := As) (rest := rest) (by rw [hn]; exact k_len hlen hsigM) rfl (by rw [hb]; exact hdg)
  obtain ⟨v, ⟨U', l2, c2, s2⟩, X', ⟨g', mk', t, L, e1, e2, hq, h1, hL, h2, h3⟩, hsteps⟩ := hK m meth c ⟨T.setVm vm₁, locs, cells, slots⟩ (F0 m pc ls rest) (.invokevirtual index) mk (Value.ref b :: As).toArray X₁ rfl (hsize.trans hml.symm) (by rw [hb]; exact hdg) hW (X₁.named hnamed) ⟨hf.1, hf.2, hPc (T.setVm vm₁) hT X₁.warmed⟩
  dsimp only [Pt.U, Pt.locs, Pt.cells, Pt.slots] at X' e1 e2 h1 h2 h3 hsteps
  subst h1; subst h2; subst h3
  exact ⟨v, (T.setVm vm₁).calling g' mk' (Value.ref b :: As).toArray, t, U', L, hT, X', hL, e1, e2, hq, fun target h => hstep₁ _ fun acts => by rw [doInvoke_state]; exact hsteps.trans h⟩
theorem k_runSW (hx : p.tables.exec = Jvm.exec) (hb : c.code = cc) (hml : c.maxLocals = nL) (ho : s.vm.findClass own = some m.cls) (hts : ∀ x ∈ wsA, x.before args s = true) (hM : k_M l y wsM rm D cl tys As w rv w') (cw : k_CW R own index y bytes maxL ret hh wsM rm n) (hstt : Cond.static y ∈ wsA)
    (hPc : ∀ U : State, U.heap = H → s.WarmedH U.vm → k_Pc D cl tys As w H.size As.toArray U)
    (hn : As.length = n) (hsize : ls.size = nL) (hW : 2 * (F0 m pc ls rest).monitorRoom + (rest.map fun v => v.category).sum ≤ 8) (hdg : decode cc pc = .ok (.invokestatic index, 3)) (hf : cells + rm.cells ≤ R.cells ∧ slots + rm.slots ≤ R.slots) :
    va_Run p l e R s m args below meth c H locs cells slots rm.cells rm.slots (F0 m pc ls (As.reverse ++ rest)) rest (k_Q D cl tys rv w' (va_A w H.size) As.toArray) (va_A w H.size) := by
  have hK := k_backW (p := p) (e := e) (below := below) (sz := H.size) hM cw hts
  obtain ⟨-, -, hcode, hl, hini, hy1, hy2, hlen⟩ := cw
  intro T hT X
  obtain ⟨mk, methM, cM, hnamed, hmethM, -, -, -, -, -, -, hsigM⟩ := Cond.codeWith_spec (hts _ hcode)
  have hstatic : methM.isStatic = true := Cond.static_spec hnamed hmethM (hts _ hstt)
  obtain ⟨kP, hkP, -⟩ := className_of_methodNamed hnamed
  have hinitP : kP.init = .initialized := Cond.initialized_spec (findClass_of_methodNamed hnamed) hkP (hts _ hini)
  obtain ⟨vm₁, X₁, hstep₁⟩ := X.invokestatic hx ho (hts _ hl) hnamed hmethM hstatic hkP hinitP ⟨hy1, hy2⟩ (g := F0 m pc ls (As.reverse ++ rest)) rfl (argsL := As) (rest := rest) (by rw [hn]; exact k_len hlen hsigM) rfl (by rw [hb]; exact hdg)
  obtain ⟨v, ⟨U', l2, c2, s2⟩, X', ⟨g', mk', t, L, e1, e2, hq, h1, hL, h2, h3⟩, hsteps⟩ := hK m meth c ⟨T.setVm vm₁, locs, cells, slots⟩ (F0 m pc ls rest) (.invokestatic index) mk As.toArray X₁ rfl (hsize.trans hml.symm) (by rw [hb]; exact hdg) hW (X₁.named hnamed) ⟨hf.1, hf.2, hPc (T.setVm vm₁) hT X₁.warmed⟩
  dsimp only [Pt.U, Pt.locs, Pt.cells, Pt.slots] at X' e1 e2 h1 h2 h3 hsteps
  subst h1; subst h2; subst h3
  exact ⟨v, (T.setVm vm₁).calling g' mk' As.toArray, t, U', L, hT, X', hL, e1, e2, hq, fun target h => hstep₁ _ fun acts => by rw [doInvoke_state]; exact hsteps.trans h⟩
theorem k_VW {ci : Nat} {fs : List Value} {q : vw_C} (hx : p.tables.exec = Jvm.exec) (hb : c.code = cc) (hml : c.maxLocals = nL) (ho : s.vm.findClass own = some m.cls) (hts : ∀ x ∈ wsA, x.before args s = true) (hM : k_M l y wsM rm D cl tys (.ref b :: As) w rv w') (cw : k_CW R own index y bytes maxL ret hh wsM rm n) (hin : Cond.instanceMethod y ∈ wsA) (hse : Cond.selects C y y ∈ wsA)
    (hK : va_K D cl tys s) (hF : k_F A s) (hP : va_P D cl W0 H) (hD : va_D A W0) (hS : va_S A s.heap H locs) (hA : ∀ q : Nat, s.heap.size ≤ q → A q)
    (isC isR isO : List Nat) (hC : isC.map (fun i => W0[i]?) = w.map some) (hR : isR.map (fun i => W0[i]?) = wr.map some) (hnC : va_nd isC = true) (hn : va_nd isR = true) (hdis : ∀ i ∈ isR, i ∉ isC) (hO : isO.map (fun i => (wr ++ w')[i]?) = W1.map some) (hnO : va_nd isO = true)
    (he : w[0]? = some (b, .inr (ci, fs))) (hc : cl[ci]? = some q) (hq : q.1 = C) (hlen : As.length = n) (hsize : ls.size = nL) (hst : st0 = As.reverse ++ .ref b :: rest) (hW : (rest.map fun v => v.category).sum ≤ 8) (hdg : decode cc pc = .ok (.invokevirtual index, 3)) (hf : cells + rm.cells ≤ R.cells ∧ slots + rm.slots ≤ R.slots) (hst1 : rv.toList ++ rest = st1)
    (kk : ∀ (H1 : Heap) (locs1 : List Loc), va_P D cl W1 H1 → va_D A W1 → va_S A s.heap H1 locs1 → W p l e R s m args below meth c H1 locs1 (cells + rm.cells) (slots + rm.slots) Q (F0 m (pc + 3) ls st1)) : W p l e R s m args below meth c H locs cells slots Q (F0 m pc ls st0) := by
  have hPc := hP.sub isC (k_fm hC)
  have hDc := hD.sub isC hnC hC
  have hFc := va_free (wc := w) hD hS hA isC hC
  subst hst; subst hq
  exact k_go (k_runVW hx hb hml ho hts hM cw hin hse (va_recv hK hPc hc he) (fun U hU hW => ⟨rfl, by rw [hU], by rw [hU]; exact hPc, va_K.moved hW.alike hK, hDc.weaken (fun _ _ _ _ => trivial), k_F.go hF hS hFc hU hW (k_ns hPc)⟩) hlen hsize (lv_room hW) hdg hf) hP hD hS hA isC isR isO hC hR hn hdis hO hnO hst1 kk
theorem k_SW (hx : p.tables.exec = Jvm.exec) (hb : c.code = cc) (hml : c.maxLocals = nL) (ho : s.vm.findClass own = some m.cls) (hts : ∀ x ∈ wsA, x.before args s = true) (hM : k_M l y wsM rm D cl tys As w rv w') (cw : k_CW R own index y bytes maxL ret hh wsM rm n) (hstt : Cond.static y ∈ wsA)
    (hK : va_K D cl tys s) (hF : k_F A s) (hP : va_P D cl W0 H) (hD : va_D A W0) (hS : va_S A s.heap H locs) (hA : ∀ q : Nat, s.heap.size ≤ q → A q)
    (isC isR isO : List Nat) (hC : isC.map (fun i => W0[i]?) = w.map some) (hR : isR.map (fun i => W0[i]?) = wr.map some) (hnC : va_nd isC = true) (hn : va_nd isR = true) (hdis : ∀ i ∈ isR, i ∉ isC) (hO : isO.map (fun i => (wr ++ w')[i]?) = W1.map some) (hnO : va_nd isO = true)
    (hlen : As.length = n) (hsize : ls.size = nL) (hst : st0 = As.reverse ++ rest) (hW : (rest.map fun v => v.category).sum ≤ 8) (hdg : decode cc pc = .ok (.invokestatic index, 3)) (hf : cells + rm.cells ≤ R.cells ∧ slots + rm.slots ≤ R.slots) (hst1 : rv.toList ++ rest = st1)
    (kk : ∀ (H1 : Heap) (locs1 : List Loc), va_P D cl W1 H1 → va_D A W1 → va_S A s.heap H1 locs1 → W p l e R s m args below meth c H1 locs1 (cells + rm.cells) (slots + rm.slots) Q (F0 m (pc + 3) ls st1)) : W p l e R s m args below meth c H locs cells slots Q (F0 m pc ls st0) := by
  have hPc := hP.sub isC (k_fm hC)
  have hDc := hD.sub isC hnC hC
  have hFc := va_free (wc := w) hD hS hA isC hC
  subst hst
  exact k_go (k_runSW hx hb hml ho hts hM cw hstt (fun U hU hW => ⟨rfl, by rw [hU], by rw [hU]; exact hPc, va_K.moved hW.alike hK, hDc.weaken (fun _ _ _ _ => trivial), k_F.go hF hS hFc hU hW (k_ns hPc)⟩) hlen hsize (lv_room hW) hdg hf) hP hD hS hA isC isR isO hC hR hn hdis hO hnO hst1 kk
end Rows
end KH
