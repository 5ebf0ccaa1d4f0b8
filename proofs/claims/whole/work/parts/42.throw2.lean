/-! ===== own: the throw itself ===== -/
theorem xk_frame {s U : State} {k n : Nat} (h : s.sameButNew ({ U with vm := s.vm } : State) [] k n) : s.heap.size ≤ U.heap.size ∧ ∀ q : Nat, q < s.heap.size → U.heap[q]? = s.heap[q]? := by
  obtain ⟨-, h2, -, -, -, h6⟩ := h
  refine ⟨h2, fun q hq => ?_⟩
  obtain ⟨c9, e1, e2, -, e4⟩ := h6 q _ (Array.getElem?_eq_getElem hq)
  have hs : c9.slots = (s.heap[q]).slots := Array.ext_getElem? fun i => e4 i (fun hm => nomatch hm)
  have h9 : c9 = s.heap[q] := by rw [hs] at e2; exact e2
  have e5 : U.heap[q]? = some c9 := e1
  rw [e5, h9, Array.getElem?_eq_getElem hq]
/-- what a body that throws has at its beginning -/
def xz_ok (X : zx_T) : Prop :=
  match X with
  | (_, _, _, s, _, _, _, _, c, A, _, _) => xt_ok A s s.heap ∧ ∀ x ∈ c.exceptionTable.toList, False
def zq_t (F : zf_T) (X : zx_T) (w2 : va_W) (E : String) : Prop :=
  match F, X with
  | (_, D, _), (_, _, R, s, _, args, below, _, _, A, _, Q) => Q = fun t => ∃ o, t.status = .running ∧ Ended t below o ∧ xt_q D w2 A E R.cells R.slots args s o t
set_option maxHeartbeats 2000000 in
theorem zz_throw {F : zf_T} {X : zx_T} {cc : ByteArray} {own : String} {rm : Room} {cells slots pc ml ik is ic : Nat} {ws : va_W} {L : List (Option Value)} {st : List Value} {E text : String} (cx : zx F X cc own rm ml) (hl : F.1.stackTraces = false) (tx : xz_ok X) (cq : zq_t F X ws E) (hw : xe_ok own ic E) (hE : Bundle.fit E = true) (hnames : ∀ n ∈ xe_names, Bundle.fit n = true)
    (hk : Cond.classLink own ik E ∈ zt_ws) (hini : Cond.initialized E ∈ zt_ws) (hstr : Cond.stringRef own is text ∈ tables_1) (d0 : decode cc pc = .ok (.new ik, 3)) (d3 : decode cc (pc + 3) = .ok (.dup, 1)) (d4 : decode cc (pc + 4) = .ok (.ldc is, 2)) (d6 : decode cc (pc + 6) = .ok (.invokespecial ic, 3)) (d9 : decode cc (pc + 9) = .ok (.athrow, 1))
    (hfr : 5 < rm.frames) (hlo2 : (st.map fun v => v.category).sum + 82 ≤ rm.locals) (hc1 : cells + 1 ≤ rm.cells) (hs1 : slots + 6 ≤ rm.slots) : zj F X cells slots ws pc L st := by
  obtain ⟨l, D, tys⟩ := F
  obtain ⟨p, e, R, s, m, args, below, meth, c, A, nL, Q⟩ := X
  obtain ⟨hx, hb, hml, hown, hts, hK, hn, hlo, hA, hR, hL9⟩ := cx
  obtain ⟨tx, htab⟩ := tx
  have hQ : Q = fun t => ∃ o, t.status = .running ∧ Ended t below o ∧ xt_q D ws A E R.cells R.slots args s o t := cq
  subst hQ; subst hR
  intro H locs ls hP hD hS hls T hT X0
  subst hT
  have htr : e.platform.stackTraces = false := (show e.platform.stackTraces = l.stackTraces by rw [X0.admits.platform]).trans hl
  have Y := xk_here X0 (R2 := { frames := R.frames, locals := R.locals, cells := 1, slots := 6 }) (Nat.le_refl _) (Nat.le_refl _) hc1 hs1
  obtain ⟨s2, hs2⟩ : ∃ z, z = (T.setVm s.vm).setFrames (.invoking m args :: below) := ⟨_, rfl⟩
  rw [← hs2] at Y
  have hvm : s2.vm = s.vm := by rw [hs2]; rfl
  have hhp : s2.heap = T.heap := by rw [hs2]; rfl
  have hW0 : s.WarmedH s2.vm := by rw [hvm]; exact State.WarmedH.refl s
  have hts2 : ∀ w ∈ zt_ws, w.before args s2 = true := fun w h => word_at hW0 (good_of_word (List.all_eq_true.mp zt_good w h)) (hts w h)
  have tx2 : xt_ok A s2 s2.heap := by rw [hhp]; exact (tx.kept hS.2.1).warm hW0
  have h := xt_words hw hts2 tx2
  have hown2 : s2.vm.findClass own = some m.cls := by rw [hvm]; exact hown
  obtain ⟨sa, hsa⟩ := tx2.2.2.1 own text is hstr
  have hins : (Cond.instantiable E 6).before args s2 = true := h _ (by simp [Bundle.ownAtoms])
  obtain ⟨v1, cX, kX, hfX, hkX, -, -, X1, st1⟩ := Y.newCold hx (own := own) (C := E) (index := ik) (n := 6) hown2 (hts2 _ hk) hins (hts2 _ hini) (g := F0 m pc ls st) rfl (by rw [hb]; exact d0) (Nat.le_refl _) (Nat.le_refl _)
  generalize hT1 : (T.setVm v1).pushCell { cls := cX, slots := kX.instanceTypes.map defaultValue, vm := .none } = T1 at X1 st1
  have hcat : (Value.ref T.heap.size).category = 1 := rfl
  have hcellA : T1.heap[T.heap.size]? = some (freshCell cX kX) := by rw [← hT1]; exact State.heap_pushCell_size _ _
  have d3' : decode c.code (pc + 3) = .ok (.dup, 1) := by rw [hb]; exact d3
  have d4' : decode c.code (pc + 4) = .ok (.ldc is, 2) := by rw [hb]; exact d4
  obtain ⟨U, hsteps, hrun, hend, hW, hsame, ce, hce, hO⟩ := X1.ctorThrowS hx htr (own := own) (cls := E) (names := xe_names) (ic := ic) hown2 hE hnames h (fun x hx => nomatch hx) hfX hkX hcellA (by rw [hhp]; exact Nat.le_refl _) (msg := .ref sa) rfl
    (g := { method := m, pc := pc + 6, locals := ls, stack := .ref sa :: .ref T.heap.size :: .ref T.heap.size :: st, locked := none }) rfl (hls.1.trans hml.symm) rfl rfl (rest := st) rfl
    (by rw [hb]; exact d6) (by rw [hb]; exact d9) (fun x hx => (htab x hx).elim) hfr (by
      simp only [List.map_cons, List.sum_cons, hcat, show xe_names.length = 2 from rfl]
      omega) hlo
  obtain ⟨f1, f2⟩ := xk_frame hsame
  rw [hhp] at f1 f2
  have hWs : s.WarmedH U.vm := State.WarmedH.trans hW0 hW
  have hcl : s.vm.findClass E = some ce.cls := by
    have h9 := hO.cls
    rw [hvm] at h9
    exact h9
  have hall : s.sameButNew ({ U with vm := s.vm } : State) locs R.cells R.slots := by
    subst hs2
    obtain ⟨e1, e2⟩ := hsame
    rw [State.setFrames_setFrames] at e1
    have h2 : (T.setVm s.vm).sameButNew ({ U with vm := s.vm } : State) [] (0 + 1) (0 + 6) := ⟨e1, e2⟩
    have h3 := X0.same.trans h2
    rw [List.append_nil] at h3
    exact h3.mono hc1 hs1
  have hF : va_F A s U := ⟨Nat.le_trans hS.1 f1, fun q h1 h2 => (f2 q (Nat.lt_of_lt_of_le h1 hS.1)).trans (hS.2.1 q h1 h2)⟩
  refine ⟨U, ?_, .threw T.heap.size, hrun, hend, T.heap.size, ce, locs, rfl, hP.kept (fun k q hq => f2 q.1 (hP k q hq).lt), hF, hce, hO.vm, hcl, hWs, hall, hS.2.2⟩
  refine st1 _ ?_
  show Steps p.tables e below (T1.setTop { method := m, pc := pc + 3, locals := ls, stack := .ref T.heap.size :: st, locked := none }) _
  jvm_step X1.here [X1.here.top, hx, d3', Value.category]
  exact X1.ldcString hx (own := own) (text := text) (index := is) (a := sa) hown2 hsa.1 hsa.2
    (g := { method := m, pc := pc + 4, locals := ls, stack := .ref T.heap.size :: .ref T.heap.size :: st, locked := none }) rfl d4' _ hsteps
/-! ===== contracts of methods that throw ===== -/
def zc_prx (F : zf_T) (w1 : va_W) (sz : Nat) (U : State) : Prop := zc_pre F w1 sz U ∧ xt_ok (va_A w1 sz) U U.heap
def zc_t (F : zf_T) (w1 w2 : va_W) (y : MethodName) (cc : ByteArray) (maxL : Nat) (ret : Option FieldType) (rm : Room) (as : List Value) (E : String) : Prop :=
  ∀ sz : Nat, MetFree F.1 y (headSpec (Cond.code y cc maxL ret :: zt_ws) rm) (va_Pc as (zc_prx F w1 sz)) (fun _ _ _ _ _ => True) (xt_q F.2.1 w2 (va_A w1 sz) E rm.cells rm.slots)
theorem zc_t_of {F : zf_T} {w1 w2 : va_W} {y : MethodName} {cc : ByteArray} {maxL : Nat} {ret : Option FieldType} {rm : Room} {as : List Value} {E : String} (hy : plainName y.cls = true) (hc : as.all (fun v => v.category == 1) = true) (hl : as.length ≤ maxL)
    (body : ∀ X : zx_T, zx F X cc y.cls rm maxL → xz_ok X → zq_t F X w2 E → zj F X 0 0 w1 0 (as.map some ++ List.replicate (maxL - as.length) none) []) : zc_t F w1 w2 y cc maxL ret rm as E := by
  obtain ⟨l, D, tys⟩ := F
  intro sz
  refine MetFree.of_bodyS (code := cc) (maxLocals := maxL) (ret := ret) hy ?_ ?_
  · intro args s m h hn
    obtain ⟨meth, c, h1, h2, h3, h4, h5, h6, -, -⟩ := Cond.code_spec hn (atoms_spec (ws := Cond.code y cc maxL ret :: zt_ws) h _ List.mem_cons_self)
    exact ⟨meth, c, h1, h2, h3, h4, h5, h6⟩
  · intro p e s m args below meth c s₁ B hml hv _
    obtain ⟨rfl, ⟨hsz, hP, hK, hD0, hn⟩, hx⟩ := hv
    have hts := atoms_spec (ws := Cond.code y cc maxL ret :: zt_ws) B.pre
    have X0 := Stand.of_body B
    have htab : ∀ x ∈ c.exceptionTable.toList, False := by
      obtain ⟨m9, c9, h1, h2, -, -, -, -, h7, -⟩ := Cond.code_spec B.named (hts _ List.mem_cons_self)
      cases Option.some.inj (h1.symm.trans B.method)
      cases Option.some.inj (h2.symm.trans X0.code)
      intro x hx9
      rw [Array.isEmpty_iff.mp h7] at hx9
      cases hx9
    subst hsz
    have hD := hD0.self (sz := s.heap.size)
    have hh0 : s₁.heap = s.heap := by rw [B.state]; rfl
    have k := body (p, e, _, s, m, as.toArray, below, meth, c, va_A w1 s.heap.size, maxL, _) ⟨B.exec, B.bytes, hml, findClass_of_methodNamed B.named, fun w hw => hts w (List.mem_cons_of_mem _ hw), hK, hn, B.notSynchronized, fun q h => Or.inr h, rfl, rfl⟩ ⟨hx, htab⟩ rfl s.heap [] _ hP hD va_S.rf (lz_args_has as maxL hc hl)
    rw [← lg_entry_eq] at k
    obtain ⟨t, a1, o, b1, b2, b3⟩ := k s₁ hh0 X0
    exact ⟨t, o, a1, b1, b2, b3⟩
theorem xe_fit : ∀ n ∈ xe_names, Bundle.fit n = true := by decide +kernel
theorem xe_ISE : xe_ok rn_X0 38 "java/lang/IllegalStateException" := by unfold xe_ok; decide +kernel
theorem xe_IOB : xe_ok rn_X0 53 "java/lang/IndexOutOfBoundsException" := by unfold xe_ok; decide +kernel
theorem xe_IAE : xe_ok rn_X0 58 "java/lang/IllegalArgumentException" := by unfold xe_ok; decide +kernel
