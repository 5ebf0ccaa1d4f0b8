/-! ===== own: calls whose callee has a part of the world ===== -/
def xn_ok (U : State) : Prop := ∀ a b : Nat, a < 3 → b < 3 → a ≠ b → va_Nc (xe_n a) (xe_n b) U
theorem xn_moved {u U : State} (hvm : u.vm.Alike U.vm) (h : xn_ok u) : xn_ok U := by
  intro a b ha hb hab
  obtain ⟨c, t, h1, h2, h3⟩ := h a b ha hb hab
  exact ⟨c, t, by rw [hvm.findClass]; exact h1, by rw [hvm.findClass]; exact h2, by rw [hvm.assignable]; exact h3⟩
theorem zx_blind {F : zf_T} {w1 : va_W} {sz : Nat} {as : List Value} : FrameBlind (va_Pc as (zc_prx F w1 sz)) := by
  intro a U g mk q
  obtain ⟨q0, ⟨q1, qP, qK, qD, qn⟩, qx⟩ := q
  exact ⟨q0, ⟨q1, qP, va_K.moved (u := U) (U := U.calling g mk a) (Vm.Alike.refl U.vm) qK, qD, zn_same (s := U) (U := U.calling g mk a) rfl qn⟩, xt_ok.same (s := U) (U := U.calling g mk a) rfl qx⟩
/-- a method with a table of handlers, that catches all -/
def zc_prh (F : zf_T) (w1 : va_W) (sz : Nat) (U : State) : Prop := zc_pre F w1 sz U ∧ xt_ok (va_A w1 sz) U U.heap ∧ xn_ok U
theorem zh_blind {F : zf_T} {w1 : va_W} {sz : Nat} {as : List Value} : FrameBlind (va_Pc as (zc_prh F w1 sz)) := by
  intro a U g mk q
  obtain ⟨q0, ⟨q1, qP, qK, qD, qn⟩, qx, qy⟩ := q
  exact ⟨q0, ⟨q1, qP, va_K.moved (u := U) (U := U.calling g mk a) (Vm.Alike.refl U.vm) qK, qD, zn_same (s := U) (U := U.calling g mk a) rfl qn⟩, xt_ok.same (s := U) (U := U.calling g mk a) rfl qx, xn_moved (u := U) (U := U.calling g mk a) (Vm.Alike.refl U.vm) qy⟩
def zc_w (F : zf_T) (w1 w2 : va_W) (y : MethodName) (cc : ByteArray) (maxL : Nat) (hh : List (Nat × Nat × Nat × Nat)) (rm : Room) (as : List Value) (r : Int32) : Prop :=
  ∀ sz : Nat, Met F.1 y (Cond.codeWith y cc maxL (some .int) hh :: zt_ws) rm (va_Pc as (zc_prh F w1 sz)) (va_Qi (fun r' (_ : Unit) => r' = r) (fun _ t => va_P F.2.1 vw_Cl w2 t.heap) (va_A w1 sz)) rm.cells rm.slots (va_A w1 sz)
def xw_ok (X : zx_T) (hh : List (Nat × Nat × Nat × Nat)) : Prop :=
  match X with
  | (_, _, _, s, _, _, _, _, c, A, _, _) => xt_ok A s s.heap ∧ xn_ok s ∧ c.exceptionTable.toList = tableOf hh
theorem zc_w_of {F : zf_T} {w1 w2 : va_W} {y : MethodName} {cc : ByteArray} {maxL : Nat} {hh : List (Nat × Nat × Nat × Nat)} {rm : Room} {as : List Value} {r : Int32} (hy : plainName y.cls = true) (hc : as.all (fun v => v.category == 1) = true) (hl : as.length ≤ maxL)
    (body : ∀ X : zx_T, zx F X cc y.cls rm maxL → xw_ok X hh → zq_i F X w2 .int r → zj F X 0 0 w1 0 (as.map some ++ List.replicate (maxL - as.length) none) []) : zc_w F w1 w2 y cc maxL hh rm as r := by
  obtain ⟨l, D, tys⟩ := F
  intro sz
  refine va_MetW (cc := cc) (maxL := maxL) (ret := some .int) (hh := hh) hy rfl ?_
  intro p e s m args below meth c s₁ B hml hv
  obtain ⟨rfl, ⟨hsz, hP, hK, hD0, hn⟩, hx, hxn⟩ := hv
  have hts := atoms_spec (ws := Cond.codeWith y cc maxL (some .int) hh :: zt_ws) B.pre
  have htab : c.exceptionTable.toList = tableOf hh := by
    obtain ⟨m9, meth9, c9, hn9, h1, h2, -, -, h6, -⟩ := Cond.codeWith_spec (hts _ List.mem_cons_self)
    cases Option.some.inj (hn9.symm.trans B.named)
    cases Option.some.inj (h1.symm.trans B.method)
    cases Option.some.inj (h2.symm.trans (Stand.of_body B).code)
    rw [← h6, table_eq]
  subst hsz
  have hD := hD0.self (sz := s.heap.size)
  rw [lg_entry_eq]
  exact body (p, e, _, s, m, as.toArray, below, meth, c, va_A w1 s.heap.size, maxL, _) ⟨B.exec, B.bytes, hml, findClass_of_methodNamed B.named, fun w hw => hts w (List.mem_cons_of_mem _ hw), hK, hn, B.notSynchronized, fun q h => Or.inr h, rfl, rfl⟩ ⟨hx, hxn, htab⟩ ⟨B.returns, rfl⟩ s.heap [] _ hP hD va_S.rf (lz_args_has as maxL hc hl)
/-- a static call of such a method -/
theorem zy_runSW {p : Program} {l : Launch} {e : Env} {R : Room} {s : State} {m : MethodId} {args : Array Value} {below : List Frame} {meth : Method} {c : Code} {H : Heap} {locs : List Loc} {cells slots : Nat} {y : MethodName} {bytes cc : ByteArray} {maxL nL n index : Nat} {ret : Option FieldType} {hh : List (Nat × Nat × Nat × Nat)} {ws : List Cond} {rm : Room} {Pc : Array Value → State → Prop} {Qc : Array Value → State → Outcome → State → Prop} {free : Addr → Prop} {Ts : List Cond} {own : String} {As rest : List Value} {g : JFrame}
    (S : CallFix p m c cc nL s args Ts own) (hM : Met l y ws rm Pc Qc rm.cells rm.slots free) (hws : ∀ w ∈ ws, ∀ (a' : Array Value) (U : State), s.WarmedH U.vm → w.before a' U = true) (hcw : Cond.codeWith y bytes maxL ret hh ∈ ws) (hcode : (Cond.codeWith y bytes maxL ret hh).before args s = true) (hini : (Cond.initialized y.cls).before args s = true) (hy : y.cls ≠ "java/lang/invoke/MethodHandle" ∧ y.cls ≠ "java/lang/invoke/VarHandle") (hlen : ∀ sig, parseMethodDescriptor y.desc = some sig → n = sig.parameters.length) (hlk : (Cond.methodLink own index y).before args s = true) (hst : (Cond.static y).before args s = true) (hfr : rm.frames + 1 ≤ R.frames) (hlo : 8 + (maxL + 11) + rm.locals ≤ R.locals) (hp : PreS s H Pc As)
    (hg : g.method = m) (hn : As.length = n) (hsize : g.locals.size = nL) (hstack : g.stack = As.reverse ++ rest) (hW : 2 * g.monitorRoom + (rest.map fun v => v.category).sum ≤ 8) (hdg : decode cc g.pc = .ok (.invokestatic index, 3)) (hf : cells + rm.cells ≤ R.cells ∧ slots + rm.slots ≤ R.slots) :
    va_Run p l e R s m args below meth c H locs cells slots rm.cells rm.slots g rest (Qc As.toArray) free := by
  have hK : Back l R p e below s args y 3 8 (PreOf R rm.cells rm.slots Pc) (PostOf Qc rm.cells rm.slots free) := va_backW (hh := hh) (bytes := bytes) (maxL := maxL) (ret := ret) hM hp.1 rfl rfl hfr hlo hws hcw (fun a' U hW => word_at hW (Or.inl (by first | rfl | simp [Cond.onTables, Cond.keeps, Cond.steady])) hini)
  obtain ⟨hx, hb, hml, ho, -⟩ := S
  intro T hT X
  obtain ⟨mk, methM, cM, hnamed, hmethM, -, -, -, -, -, -, hsigM⟩ := Cond.codeWith_spec hcode
  have hstatic : methM.isStatic = true := Cond.static_spec hnamed hmethM hst
  obtain ⟨kP, hkP, -⟩ := className_of_methodNamed hnamed
  have hinitP : kP.init = .initialized := Cond.initialized_spec (findClass_of_methodNamed hnamed) hkP hini
  obtain ⟨v1, X1, hstep1⟩ := X.invokestatic hx ho hlk hnamed hmethM hstatic hkP hinitP hy (g := g) hg (argsL := As) (rest := rest) (hn.trans (hlen _ hsigM)) hstack (by rw [hb]; exact hdg)
  obtain ⟨v, ⟨U', l2, c2, s2⟩, X', ⟨g', mk9, t, L, e1, e2, hq, h1, hL, h2, h3⟩, hsteps⟩ := hK m meth c ⟨T.setVm v1, locs, cells, slots⟩ { g with stack := rest } (.invokestatic index) mk As.toArray X1 hg (hsize.trans hml.symm) (by rw [hb]; exact hdg) hW (X1.named hnamed) ⟨hf.1, hf.2, hp.2 (T.setVm v1) hT X1.warmed⟩
  dsimp only [Pt.U, Pt.locs, Pt.cells, Pt.slots] at X' e1 e2 h1 h2 h3 hsteps
  subst h1; subst h2; subst h3
  exact ⟨v, (T.setVm v1).calling g' mk9 As.toArray, t, U', L, hT, X', hL, e1, e2, hq, fun target h => hstep1 _ fun acts => by rw [doInvoke_state]; exact hsteps.trans h⟩
section ZY
variable {F : zf_T} {X : zx_T} {cc : ByteArray} {own : String} {rm : Room} {cells slots pc ml : Nat} {ws wl w1 wr : va_W} {L : List (Option Value)}
theorem zy_callVi (cx : zx F X cc own rm ml) {w2 : va_W} {y : MethodName} {cb : ByteArray} {maxL n index b : Nat} {ty : FieldType} {rm2 : Room} {As rest : List Value} {r : Int32} (hM : zc_i F w1 w2 y cb maxL ty rm2 (.ref b :: As) r) (hws : ws = wl ++ (w1 ++ wr)) (hwm : zw_m y cb maxL (some ty) n) (hl : Cond.methodLink own index y ∈ zt_ws) (hwv : zw_v y) (q0 : Nat) {ci N : Nat} {T : u_T} {fs : List Value} (hq0 : w1[q0]? = some (b, .inr (ci, fs))) (hci : vw_Cl[ci]? = some (y.cls, T, N)) (hrm : rm2.frames + 1 ≤ rm.frames ∧ 8 + (maxL + 11) + rm2.locals ≤ rm.locals) (hln : As.length = n) (hrest : (rest.map fun v => v.category).sum ≤ 8) {c2 s2 : Nat} (hc2 : cells + rm2.cells = c2) (hs2 : slots + rm2.slots = s2) (hf : c2 ≤ rm.cells ∧ s2 ≤ rm.slots) (had : w2.map Prod.fst = w1.map Prod.fst) (hd : decode cc pc = .ok (.invokevirtual index, 3)) (k : zj F X c2 s2 (wl ++ (w2 ++ wr)) (pc + 3) L (.int r :: rest)) : zj F X cells slots ws pc L (As.reverse ++ .ref b :: rest) := by
  have zg : ∀ w ∈ wsV own index y.cls y (Cond.code y cb maxL (some ty) :: zt_ws), w ∈ zt_ws := by
    intro w hw
    unfold wsV at hw
    simp only [List.cons_append, List.nil_append, List.mem_cons] at hw
    rcases hw with rfl | rfl | rfl | rfl | rfl | hw
    · exact hl
    · exact hwv.1
    · exact hwv.2
    · exact hwm.1
    · exact hwm.2.1
    · exact hw
  obtain ⟨l, D, tys⟩ := F
  obtain ⟨p, e, R, s, m, args, below, meth, c, A, nL, Q⟩ := X
  obtain ⟨hx, hb, hml, hown, hts, hK, hn, hlo, hA, hR, hL9⟩ := cx
  subst hR; subst hc2; subst hs2; subst hws
  intro H locs ls hP hD hS hl1
  have hFc := zy_free hD hS hA
  exact va_calli (va_runV (As := As) (rest := rest) ⟨hx, hb, hml, hown, hts⟩ (hM H.size) (cwV n hts (zt_gi zg) rfl rfl rfl ⟨rfl, hwm.2.2⟩ hrm) ⟨zc_blind, va_recv hK (zy_sub hP) hci hq0, fun U hU hW => ⟨rfl, by rw [hU], by rw [hU]; exact zy_sub hP, va_K.moved hW.alike hK, (zy_dsub hD).weaken (fun _ _ _ _ => trivial), zn_warm hW hn⟩⟩ rfl hln hl1.1 rfl (lv_room hrest) hd hf) hS (fun q _ h => hFc q h) hFc (fun r_ u t H1 locs1 ht hvm hw hB hz1 hk1 hS1 => by subst hw; exact k H1 locs1 ls (zy_join hP hD hk1 (by rw [← ht]; exact hB)) (zy_addr had hD) hS1 hl1)

theorem zy_callVv (cx : zx F X cc own rm ml) {w2 : va_W} {y : MethodName} {cb : ByteArray} {maxL n index b : Nat} {rm2 : Room} {As rest : List Value} (hM : zc_v F w1 w2 y cb maxL rm2 (.ref b :: As)) (hws : ws = wl ++ (w1 ++ wr)) (hwm : zw_m y cb maxL none n) (hl : Cond.methodLink own index y ∈ zt_ws) (hwv : zw_v y) (q0 : Nat) {ci N : Nat} {T : u_T} {fs : List Value} (hq0 : w1[q0]? = some (b, .inr (ci, fs))) (hci : vw_Cl[ci]? = some (y.cls, T, N)) (hrm : rm2.frames + 1 ≤ rm.frames ∧ 8 + (maxL + 11) + rm2.locals ≤ rm.locals) (hln : As.length = n) (hrest : (rest.map fun v => v.category).sum ≤ 8) {c2 s2 : Nat} (hc2 : cells + rm2.cells = c2) (hs2 : slots + rm2.slots = s2) (hf : c2 ≤ rm.cells ∧ s2 ≤ rm.slots) (had : w2.map Prod.fst = w1.map Prod.fst) (hd : decode cc pc = .ok (.invokevirtual index, 3)) (k : zj F X c2 s2 (wl ++ (w2 ++ wr)) (pc + 3) L rest) : zj F X cells slots ws pc L (As.reverse ++ .ref b :: rest) := by
  have zg : ∀ w ∈ wsV own index y.cls y (Cond.code y cb maxL none :: zt_ws), w ∈ zt_ws := by
    intro w hw
    unfold wsV at hw
    simp only [List.cons_append, List.nil_append, List.mem_cons] at hw
    rcases hw with rfl | rfl | rfl | rfl | rfl | hw
    · exact hl
    · exact hwv.1
    · exact hwv.2
    · exact hwm.1
    · exact hwm.2.1
    · exact hw
  obtain ⟨l, D, tys⟩ := F
  obtain ⟨p, e, R, s, m, args, below, meth, c, A, nL, Q⟩ := X
  obtain ⟨hx, hb, hml, hown, hts, hK, hn, hlo, hA, hR, hL9⟩ := cx
  subst hR; subst hc2; subst hs2; subst hws
  intro H locs ls hP hD hS hl1
  have hFc := zy_free hD hS hA
  exact va_callv (va_runV (As := As) (rest := rest) ⟨hx, hb, hml, hown, hts⟩ (hM H.size) (cwV n hts (zt_gi zg) rfl rfl rfl ⟨rfl, hwm.2.2⟩ hrm) ⟨zc_blind, va_recv hK (zy_sub hP) hci hq0, fun U hU hW => ⟨rfl, by rw [hU], by rw [hU]; exact zy_sub hP, va_K.moved hW.alike hK, (zy_dsub hD).weaken (fun _ _ _ _ => trivial), zn_warm hW hn⟩⟩ rfl hln hl1.1 rfl (lv_room hrest) hd hf) hS (fun q _ h => hFc q h) hFc (fun u t H1 locs1 ht hvm hw hB hz1 hk1 hS1 => k H1 locs1 ls (zy_join hP hD hk1 (by rw [← ht]; exact hB)) (zy_addr had hD) hS1 hl1)

theorem zy_callI (cx : zx F X cc own rm ml) {wf : (Nat → Nat) → va_W} {y : MethodName} {cb : ByteArray} {maxL n index b k0 : Nat} {rm2 : Room} {rest : List Value} (hM : zc_c F w1 b k0 wf y cb maxL rm2 [.ref b]) (hws : ws = wl ++ (w1 ++ wr)) (hwm : zw_m y cb maxL none n) (hl : Cond.methodLink own index y ∈ zt_ws) (hyn : y.name = "<init>") (hu : Cond.instanceMethod y ∈ zt_ws) (hrm : rm2.frames + 1 ≤ rm.frames ∧ 8 + (maxL + 11) + rm2.locals ≤ rm.locals) (hln : 0 = n) (hrest : (rest.map fun v => v.category).sum ≤ 8) {c2 s2 : Nat} (hc2 : cells + rm2.cells = c2) (hs2 : slots + rm2.slots = s2) (hf : c2 ≤ rm.cells ∧ s2 ≤ rm.slots) (hd : decode cc pc = .ok (.invokespecial index, 3)) (k : ∀ ad : Nat → Nat, ad k0 = b → zj F X c2 s2 (wl ++ (wf ad ++ wr)) (pc + 3) L rest) : zj F X cells slots ws pc L (.ref b :: rest) := by
  have zg : ∀ w ∈ (Cond.code y cb maxL none :: zt_ws), w ∈ zt_ws := by
    intro w hw
    rcases List.mem_cons.mp hw with rfl | hw
    · exact hwm.2.1
    · exact hw
  obtain ⟨l, D, tys⟩ := F
  obtain ⟨p, e, R, s, m, args, below, meth, c, A, nL, Q⟩ := X
  obtain ⟨hx, hb, hml, hown, hts, hK, hn, hlo, hA, hR, hL9⟩ := cx
  subst hR; subst hc2; subst hs2; subst hws
  intro H locs ls hP hD hS hl1
  have hFc := zy_free hD hS hA
  exact va_callv (va_runI (As := []) (rest := rest) ⟨hx, hb, hml, hown, hts⟩ (hM H.size) (cwI n hts (zt_gi zg) rfl rfl rfl (hts _ hwm.1) (hts _ hl) (hts _ hu) hyn hwm.2.2 hrm) ⟨zc_blind, fun U hU hW => ⟨rfl, by rw [hU], by rw [hU]; exact zy_sub hP, va_K.moved hW.alike hK, (zy_dsub hD).weaken (fun _ _ _ _ => trivial), zn_warm hW hn⟩⟩ rfl hln hl1.1 rfl (lv_room hrest) hd hf) hS (fun q _ h => hFc q h) hFc (fun ad t H1 locs1 ht hvm hw hB hz1 hk1 hS1 => k ad hw H1 locs1 ls (zy_join hP hD hk1 (by rw [← ht]; exact hB.1)) (zy_grow hP hD hk1 hFc hB.2) hS1 hl1)

theorem zy_callIN (cx : zx F X cc own rm ml) {wf : (Nat → Nat) → va_W} {y : MethodName} {cb : ByteArray} {maxL n index b k0 : Nat} {rm2 : Room} {rest : List Value} (hM : zc_c F w1 b k0 wf y cb maxL rm2 [.ref b]) (hws : ws = wl ++ (w1 ++ wr)) (hwm : zw_m y cb maxL none n) {host : String} (hl : Cond.methodLinkNest own index y host ∈ zn_ws) (hyn : y.name = "<init>") (hu : Cond.instanceMethod y ∈ zt_ws) (hrm : rm2.frames + 1 ≤ rm.frames ∧ 8 + (maxL + 11) + rm2.locals ≤ rm.locals) (hln : 0 = n) (hrest : (rest.map fun v => v.category).sum ≤ 8) {c2 s2 : Nat} (hc2 : cells + rm2.cells = c2) (hs2 : slots + rm2.slots = s2) (hf : c2 ≤ rm.cells ∧ s2 ≤ rm.slots) (hd : decode cc pc = .ok (.invokespecial index, 3)) (k : ∀ ad : Nat → Nat, ad k0 = b → zj F X c2 s2 (wl ++ (wf ad ++ wr)) (pc + 3) L rest) : zj F X cells slots ws pc L (.ref b :: rest) := by
  have zg : ∀ w ∈ (Cond.code y cb maxL none :: zt_ws), w ∈ zt_ws := by
    intro w hw
    rcases List.mem_cons.mp hw with rfl | hw
    · exact hwm.2.1
    · exact hw
  obtain ⟨l, D, tys⟩ := F
  obtain ⟨p, e, R, s, m, args, below, meth, c, A, nL, Q⟩ := X
  obtain ⟨hx, hb, hml, hown, hts, hK, hn, hlo, hA, hR, hL9⟩ := cx
  subst hR; subst hc2; subst hs2; subst hws
  intro H locs ls hP hD hS hl1
  have hFc := zy_free hD hS hA
  exact va_callv (va_runIN (As := []) (rest := rest) ⟨hx, hb, hml, hown, hts⟩ (hM H.size) ⟨va_cnB n hts (zt_gi zg) rfl rfl rfl (hn _ hl) (hts _ hwm.1) hwm.2.2 hrm, hyn, hts _ hu⟩ ⟨zc_blind, fun U hU hW => ⟨rfl, by rw [hU], by rw [hU]; exact zy_sub hP, va_K.moved hW.alike hK, (zy_dsub hD).weaken (fun _ _ _ _ => trivial), zn_warm hW hn⟩⟩ rfl hln hl1.1 rfl (lv_room hrest) hd hf) hS (fun q _ h => hFc q h) hFc (fun ad t H1 locs1 ht hvm hw hB hz1 hk1 hS1 => k ad hw H1 locs1 ls (zy_join hP hD hk1 (by rw [← ht]; exact hB.1)) (zy_grow hP hD hk1 hFc hB.2) hS1 hl1)

theorem zy_callW (cx : zx F X cc own rm ml) {w2 : va_W} {y : MethodName} {cb : ByteArray} {maxL n index : Nat} {hh : List (Nat × Nat × Nat × Nat)} {rm2 : Room} {As rest : List Value} {r : Int32} {hh9 : List (Nat × Nat × Nat × Nat)} (hM : zc_w F w1 w2 y cb maxL hh rm2 As r) (hws : ws = wl ++ (w1 ++ wr)) (hx9 : match X with | (_, _, _, s, _, _, _, _, _, A, _, _) => xt_ok A s s.heap ∧ xn_ok s) (hini : Cond.initialized y.cls ∈ zt_ws) (hcw : Cond.codeWith y cb maxL (some .int) hh ∈ zt_ws) (hy : y.cls ≠ "java/lang/invoke/MethodHandle" ∧ y.cls ≠ "java/lang/invoke/VarHandle") (hds : (parseMethodDescriptor y.desc).map (fun d => d.parameters.length) = some n) (hl : Cond.methodLink own index y ∈ zt_ws) (hst : Cond.static y ∈ zt_ws) (hrm : rm2.frames + 1 ≤ rm.frames ∧ 8 + (maxL + 11) + rm2.locals ≤ rm.locals) (hln : As.length = n) (hrest : (rest.map fun v => v.category).sum ≤ 8) {c2 s2 : Nat} (hc2 : cells + rm2.cells = c2) (hs2 : slots + rm2.slots = s2) (hf : c2 ≤ rm.cells ∧ s2 ≤ rm.slots) (had : w2.map Prod.fst = w1.map Prod.fst) (hd : decode cc pc = .ok (.invokestatic index, 3)) (k : zj F X c2 s2 (wl ++ (w2 ++ wr)) (pc + 3) L (.int r :: rest)) : zj F X cells slots ws pc L (As.reverse ++ rest) := by
  obtain ⟨l, D, tys⟩ := F
  obtain ⟨p, e, R, s, m, args, below, meth, c, A, nL, Q⟩ := X
  obtain ⟨hx, hb, hml, hown, hts, hK, hn, hlo, hA, hR, hL9⟩ := cx
  subst hR; subst hc2; subst hs2; subst hws
  intro H locs ls hP hD hS hl1
  have hFc := zy_free hD hS hA
  obtain ⟨hxt, hxn⟩ := hx9
  refine va_calli (zy_runSW (As := As) (rest := rest) (ret := some .int) (bytes := cb) (maxL := maxL) (hh := hh) (n := n) ⟨hx, hb, hml, hown, hts⟩ (hM H.size) (fun w hw => ?_) List.mem_cons_self (hts _ hcw) (hts _ hini) hy (fun sig h => by rw [h] at hds; exact (Option.some.inj hds).symm) (hts _ hl) (hts _ hst) hrm.1 hrm.2
    ⟨zh_blind, fun U hU hW => ⟨rfl, ⟨by rw [hU], by rw [hU]; exact zy_sub hP, va_K.moved hW.alike hK, (zy_dsub hD).weaken (fun _ _ _ _ => trivial), zn_warm hW hn⟩, by rw [hU]; exact ((hxt.kept hS.2.1).narrow hFc).warm hW, xn_moved hW.alike hxn⟩⟩ rfl hln hl1.1 rfl (lv_room hrest) hd hf) hS (fun q _ h => hFc q h) hFc (fun r_ u t H1 locs1 ht hvm hw hB hz1 hk1 hS1 => by subst hw; exact k H1 locs1 ls (zy_join hP hD hk1 (by rw [← ht]; exact hB)) (zy_addr had hD) hS1 hl1)
  exact pay_in hts (zt_gi (w := Cond.codeWith y cb maxL (some .int) hh :: zt_ws) (fun x hx => (List.mem_cons.mp hx).elim (fun e => by rw [e]; exact hcw) id)) w hw
/-- a call that throws, caught here -/
theorem zy_callT (cx : zx F X cc own rm ml) {w2 : va_W} {y : MethodName} {cb : ByteArray} {maxL n index b ek : Nat} {ret : Option FieldType} {hh : List (Nat × Nat × Nat × Nat)} {rm2 : Room} {As rest : List Value} (wx : xw_ok X hh) (hM : zc_t F w1 w2 y cb maxL ret rm2 (.ref b :: As) (xe_n ek)) (hws : ws = wl ++ (w1 ++ wr)) (hwm : zw_m y cb maxL ret n) (hl : Cond.methodLink own index y ∈ zt_ws) (hwv : zw_v y) (q0 : Nat) {ci N : Nat} {T : u_T} {fs : List Value} (hq0 : w1[q0]? = some (b, .inr (ci, fs))) (hci : vw_Cl[ci]? = some (y.cls, T, N)) (hrm : rm2.frames + 1 ≤ rm.frames ∧ 8 + (maxL + 11) + rm2.locals ≤ rm.locals) (hln : As.length = n) (hrest : (rest.map fun v => v.category).sum ≤ 8) {c2 s2 : Nat} (hc2 : cells + rm2.cells = c2) (hs2 : slots + rm2.slots = s2) (hf : c2 ≤ rm.cells ∧ s2 ≤ rm.slots) (had : w2.map Prod.fst = w1.map Prod.fst) (hd : decode cc pc = .ok (.invokevirtual index, 3))
    (pre : List ExceptionTableEntry) (x : ExceptionTableEntry) (suf : List ExceptionTableEntry) (hsplit : tableOf hh = pre ++ x :: suf) (hpass : ∀ z ∈ pre, covers z pc = true ∧ z.catchType ≠ 0 ∧ ∃ j, j < 3 ∧ j ≠ ek ∧ Cond.classLink own z.catchType (xe_n j) ∈ zt_ws) (hek : ek < 3) (hcov : covers x pc = true) (h0 : x.catchType ≠ 0) (hlk : Cond.classLink own x.catchType (xe_n ek) ∈ zt_ws) (hcast : Cond.castable (xe_n ek) (xe_n ek) ∈ xd_ws)
    (k : ∀ q : Nat, zj F X c2 s2 (wl ++ (w2 ++ wr)) x.handlerPc L [.ref q]) : zj F X cells slots ws pc L (As.reverse ++ .ref b :: rest) := by
  obtain ⟨l, D, tys⟩ := F
  obtain ⟨p, e, R, s, m, args, below, meth, c, A, nL, Q⟩ := X
  obtain ⟨hx, hb, hml, hown, hts, hK, hn, hlo, hA, hR, hL9⟩ := cx
  subst hR; subst hc2; subst hs2; subst hws
  intro H locs ls hP hD hS hl1
  have hFc := zy_free hD hS hA
  obtain ⟨hxt, hxn, htab⟩ := wx
  intro T hT X0
  subst hT
  have zg : ∀ w ∈ (Cond.code y cb maxL ret :: zt_ws), w ∈ zt_ws := fun w hw => (List.mem_cons.mp hw).elim (fun e => by rw [e]; exact hwm.2.1) id
  obtain ⟨cellB, hcB, hoB, hclB⟩ := va_recv hK (zy_sub hP) hci hq0
  obtain ⟨q, ce, t, T2, L2, X2, hh2, hL2, hP2, hsz2, hk2, hce, hcv, hcl, hst⟩ := xk_call X0 hx (hM T.heap.size) zx_blind hrm.1 hrm.2 (pay_in hts (zt_gi zg)) List.mem_cons_self hown (hts _ hl) (hts _ hwv.1) (hts _ hwv.2) (hts _ hwm.1) (hts _ hwm.2.1) ⟨hwm.2.2.1, hwm.2.2.2.1⟩ hcB hoB hclB
    (g := F0 m pc ls (As.reverse ++ .ref b :: rest)) rfl (hl1.1.trans hml.symm) (As := As) (rest := rest) (fun sig h => by have h9 := hwm.2.2.2.2; rw [h] at h9; exact hln.trans (Option.some.inj h9).symm) rfl (lv_room hrest) (by rw [hb]; exact hd) hf
    (fun U hU hW => ⟨rfl, ⟨by rw [hU], by rw [hU]; exact zy_sub hP, va_K.moved hW.alike hK, (zy_dsub hD).weaken (fun _ _ _ _ => trivial), zn_warm hW hn⟩, by rw [hU]; exact ((hxt.kept hS.2.1).narrow hFc).warm hW⟩)
  have hpl : e.platform.magicAccessors = ({} : Platform).magicAccessors := by rw [X0.admits.platform]
  obtain ⟨c5, hc5, hcl5⟩ := Cond.classLink_spec hown (hts _ hlk) e.platform hpl
  cases Option.some.inj (hcl.symm.trans hc5)
  have hself : s.vm.assignable ce.cls ce.cls = true := by
    obtain ⟨c3, c4, g3, g4, g5⟩ := Cond.castable_spec (hxt.2.2.2 _ hcast)
    cases Option.some.inj (g3.symm.trans hcl)
    cases Option.some.inj (g4.symm.trans hcl)
    exact g5
  obtain ⟨v, X3, st3⟩ := xk_caught X2 q (g := F0 m pc ls rest) rfl (by rw [hh2]; exact hce) hcv (by obtain ⟨k9, h9, -⟩ := Vm.findClass_spec hcl; exact ⟨k9, h9⟩) pre x suf (htab.trans hsplit) (fun z hz => by
      obtain ⟨g1, g2, j, g3, g4, g5⟩ := hpass z hz
      obtain ⟨c6, hc6, hcl6⟩ := Cond.classLink_spec hown (hts _ g5) e.platform hpl
      obtain ⟨a8, b8, k1, k2, k3⟩ := hxn ek j hek g3 (Ne.symm g4)
      cases Option.some.inj (k1.symm.trans hcl)
      cases Option.some.inj (k2.symm.trans hc6)
      exact Or.inr ⟨g1, g2, _, hcl6, k3⟩) hcov h0 hcl5 hself
  have hS3 : va_S A s.heap T2.heap (locs ++ L2) := by
    rw [hh2]
    refine ⟨Nat.le_trans hS.1 hsz2, fun z h1 h2 => ?_, fun z hz => ?_⟩
    · rw [hk2 z (Nat.lt_of_lt_of_le h1 hS.1) (fun h9 => h2 (hFc z h9))]
      exact hS.2.1 z h1 h2
    · rcases List.mem_append.mp hz with h | h
      · exact hS.2.2 z h
      · exact hFc _ (hL2 z h)
  obtain ⟨t9, a9, b9⟩ := k q T2.heap (locs ++ L2) ls (by rw [hh2]; exact zy_join hP hD hk2 hP2) (zy_addr had hD) hS3 hl1 (T2.setVm v) rfl X3
  exact ⟨t9, hst.trans (st3 _ a9), b9⟩
end ZY
