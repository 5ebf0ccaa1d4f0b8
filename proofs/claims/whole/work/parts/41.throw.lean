/-! ===== own: 'throw new E("text")' out of a method, its contract, and its catching by a caller with a table ===== -/
/-- the walk's point, taken as the beginning of a walk -/
theorem xk_here {p : Program} {l : Launch} {e : Env} {R R2 : Room} {s : State} {m : MethodId} {args : Array Value} {below : List Frame} {meth : Method} {c : Code} {T : State} {locs : List Loc} {cells slots : Nat} (X : Stand p l e R s m args below meth c T locs cells slots) (hf : R2.frames ≤ R.frames) (hl : R2.locals ≤ R.locals) (hc : cells + R2.cells ≤ R.cells) (hs : slots + R2.slots ≤ R.slots) :
    Stand p l e R2 ((T.setVm s.vm).setFrames (.invoking m args :: below)) m args below meth c T [] 0 0 := by
  obtain ⟨g0, hg0⟩ := X.frames_eq
  have hcur : (T.setVm s.vm).cur < (T.setVm s.vm).threads.size := State.cur_lt_of_frames (s := T.setVm s.vm) hg0
  have hF : ((T.setVm s.vm).setFrames (.invoking m args :: below)).frames = .invoking m args :: below := State.frames_setFrames _ hcur
  have hlim : e.platform.stackLimits (T.setVm s.vm).me = e.platform.stackLimits s.me := X.limits
  have hby : (T.setVm s.vm).me.stackBytes = s.me.stackBytes := X.bytes
  have hloc : ((T.setVm s.vm).setFrames (.invoking m args :: below)).localsInUse = s.localsInUse := by
    rw [State.localsInUse_invoking hF (meth := meth) (c := c) X.method X.code, State.localsInUse_invoking X.frames X.method X.code]
  have hsz := X.heapSize
  have hus := X.used
  exact {
    admits := X.admits, cas := X.cas, clock := X.clock, frames := hF, hears := X.hears, method := X.method, code := X.code, here := X.here, tail := X.tail, warmed := X.warmed
    room := by
      have h := X.room
      simp only [State.hasRoom, Bool.and_eq_true, decide_eq_true_eq] at h ⊢
      obtain ⟨⟨⟨⟨h1, h2, h3, h4, h5, h6⟩, h7⟩, h8⟩, h9⟩ := h
      rw [X.frames, List.length_cons] at h2 h3
      simp only [hF, hloc, List.length_cons, State.stackLimits_setFrames, State.stackBytes_setFrames, hlim, hby]
      refine ⟨⟨⟨⟨by omega, by omega, by omega, by omega, by omega, h6⟩, ?_⟩, ?_⟩, X.book⟩
      · show T.heap.size + R2.cells ≤ e.platform.maxCells
        omega
      · show T.slotsUsed + R2.slots ≤ e.platform.maxSlots
        omega
    limits := by rw [State.stackLimits_setFrames]; rfl
    bytes := by rw [State.stackBytes_setFrames]; rfl
    same := by
      have hg1 : (T.setVm s.vm).frames = .java g0 :: below := hg0
      obtain ⟨t, ht, -⟩ := State.frames_cons hg1
      refine ⟨?_, Nat.le_refl _, Nat.le_refl _, ?_, ?_, fun a c9 h9 => ⟨c9, h9, rfl, rfl, fun _ _ => rfl⟩⟩
      · show T.setVm s.vm = { ((T.setVm s.vm).setFrames (.invoking m args :: below)).setFrames (T.setVm s.vm).frames with heap := T.heap, slotsUsed := T.slotsUsed }
        rw [State.setFrames_setFrames, State.setFrames_self ht]
        rfl
      · show T.slotsUsed = T.slotsUsed + ((T.heap.toList.drop T.heap.size).map (·.slots.size)).sum
        rw [List.drop_eq_nil_of_le (Nat.le_of_eq Array.length_toList)]
        rfl
      · show ((T.heap.toList.drop T.heap.size).map (·.slots.size)).sum ≤ 0
        rw [List.drop_eq_nil_of_le (Nat.le_of_eq Array.length_toList)]
        exact Nat.le_refl _ }
/-- a static field of a class: where it lies, out of A; it holds null or a reference -/
def xt_S (C n d : String) (A : Nat → Prop) (U : State) (H : Heap) : Prop := va_Zq C n d A U H ∧ ∃ (c : ClassId) (k : Class) (i : Nat) (f : Field) (a : Nat) (cell : Cell), U.vm.findClass C = some c ∧ U.fieldFound? C n d = some (c, k, i, f) ∧ f.isStatic = true ∧ k.statics = some a ∧ H[a]? = some cell ∧ cell.vm.isStatics = true ∧ cell.cls = c ∧ f.slot < cell.slots.size ∧ k.staticTypes[f.slot]? = some f.type ∧ ¬ A a
theorem xt_S.moved {C n d : String} {A : Nat → Prop} {u U : State} {H : Heap} (hvm : u.vm.Alike U.vm) (h : xt_S C n d A u H) : xt_S C n d A U H := by
  obtain ⟨h0, c, k, i, f, a, cell, h1, h2, h3, h4, h5, h6, h7, h8, h9, h10⟩ := h
  obtain ⟨k2, hi2, he⟩ := State.fieldFound?_setVm hvm h2
  exact ⟨va_Zq.moved hvm h0, c, k2, i, f, a, cell, by rw [hvm.findClass]; exact h1, hi2, h3, by rw [he]; exact h4, h5, h6, h7, h8, by rw [he]; exact h9, h10⟩
theorem xt_S.kept {C n d : String} {A : Nat → Prop} {U : State} {H H1 : Heap} (h : xt_S C n d A U H) (hq : ∀ a : Nat, a < H.size → ¬ A a → H1[a]? = H[a]?) : xt_S C n d A U H1 := by
  obtain ⟨h0, c, k, i, f, a, cell, h1, h2, h3, h4, h5, h6, h7, h8, h9, h10⟩ := h
  exact ⟨h0.kept hq, c, k, i, f, a, cell, h1, h2, h3, h4, by rw [hq a (Array.getElem?_eq_some_iff.mp h5).1 h10]; exact h5, h6, h7, h8, h9, h10⟩
theorem xt_S.narrow {C n d : String} {A B : Nat → Prop} {U : State} {H : Heap} (h : xt_S C n d A U H) (hAB : ∀ q, B q → A q) : xt_S C n d B U H := by
  obtain ⟨h0, c, k, i, f, a, cell, h1, h2, h3, h4, h5, h6, h7, h8, h9, h10⟩ := h
  exact ⟨h0.narrow hAB, c, k, i, f, a, cell, h1, h2, h3, h4, h5, h6, h7, h8, h9, fun z => h10 (hAB _ z)⟩
theorem xt_S.lays {C n d : String} {A : Nat → Prop} {s : State} {args : Array Value} (h : xt_S C n d A s s.heap) : (Cond.laysStatic C n d).before args s = true := by
  obtain ⟨-, c, k, i, f, a, cell, h1, h2, h3, h4, h5, h6, h7, h8, h9, -⟩ := h
  show (Cond.laysStatic C n d).holds args s none s [] = true
  exact Cond.laysStatic_of h1 h2 h3 h4 h5 h6 h7 h8 h9
theorem xt_S.isRef {C n d : String} {A : Nat → Prop} {s : State} {args : Array Value} (h : xt_S C n d A s s.heap) : (Cond.isRef (.static C n d)).before args s = true := by
  have key : ∀ v : Value, v.isRef = true → va_Z C n d v A s s.heap → (Cond.isRef (.static C n d)).before args s = true := by
    intro v hv hz
    obtain ⟨cf, kf, fi, f, a, cell, h1, h2, h3, h4, h5, h6, h7, -⟩ := hz
    have he : (Term.static C n d).eval args s none [] s = some v := by
      simp [Term.eval, State.fieldNamed?, h1, h2, h4, h5, h6, h7]
    simp only [Cond.before, Cond.holds, Cond.value, he]
    cases v <;> simp_all [Value.isRef]
  rcases h.1 with hz | ⟨t, hz⟩
  · exact key _ rfl hz
  · exact key _ rfl hz
def xd_is : Cond → Bool
  | .declares _ => true
  | .castable _ _ => true
  | _ => false
def xd_ws : List Cond := tables_1.filter xd_is
theorem xd_cast {a b : String} {s U : State} (hW : s.WarmedH U.vm) (h : va_Nw (.castable a b) s) : va_Nw (.castable a b) U := by
  obtain ⟨c, t, h1, h2, h3⟩ := Cond.castable_spec h
  have e1 : U.vm.findClass a = some c := by rw [hW.alike.findClass]; exact h1
  have e2 : U.vm.findClass b = some t := by rw [hW.alike.findClass]; exact h2
  have e3 : U.vm.assignable c t = true := by rw [hW.alike.assignable]; exact h3
  show (Cond.castable a b).holds #[] U none U [] = true
  simp [Cond.holds, Cond.value, e1, e2, e3]
/-- what a throw stands on, but the words of zt_ws -/
def xt_ok (A : Nat → Prop) (U : State) (H : Heap) : Prop := xt_S Bundle.tN "UNASSIGNED_STACK" Bundle.steD A U H ∧ xt_S Bundle.tN "SUPPRESSED_SENTINEL" Bundle.listD A U H ∧ (∀ (own tx : String) (k : Nat), Cond.stringRef own k tx ∈ tables_1 → ∃ sa, vk_R own k tx sa U) ∧ (∀ w ∈ xd_ws, va_Nw w U)
theorem xd_warm {s U : State} (hW : s.WarmedH U.vm) (h : ∀ w ∈ xd_ws, va_Nw w s) : ∀ w ∈ xd_ws, va_Nw w U := by
  intro w hw
  have h1 : xd_is w = true := (List.mem_filter.mp hw).2
  have h2 := h w hw
  cases w <;> first | exact va_Nw.warmD hW h2 | exact xd_cast hW h2 | cases h1
theorem xd_same {s U : State} (hv : s.vm = U.vm) (h : ∀ w ∈ xd_ws, va_Nw w s) : ∀ w ∈ xd_ws, va_Nw w U := by
  intro w hw
  have h1 : xd_is w = true := (List.mem_filter.mp hw).2
  have h2 := h w hw
  cases w <;> first | exact va_Nw.same rfl hv h2 | cases h1
theorem xt_ok.warm {A : Nat → Prop} {s U : State} {H : Heap} (hW : s.WarmedH U.vm) (h : xt_ok A s H) : xt_ok A U H :=
  ⟨h.1.moved hW.alike, h.2.1.moved hW.alike, fun own tx k hk => (h.2.2.1 own tx k hk).elim fun sa hs => ⟨sa, vk_R.warm hW hs⟩, xd_warm hW h.2.2.2⟩
theorem xt_ok.same {A : Nat → Prop} {s U : State} {H : Heap} (hv : s.vm = U.vm) (h : xt_ok A s H) : xt_ok A U H :=
  ⟨h.1.moved (by rw [hv]; exact Vm.Alike.refl _), h.2.1.moved (by rw [hv]; exact Vm.Alike.refl _), fun own tx k hk => (h.2.2.1 own tx k hk).elim fun sa hs => ⟨sa, vk_R.same hv.symm hs⟩, xd_same hv h.2.2.2⟩
theorem xt_ok.kept {A : Nat → Prop} {U : State} {H H1 : Heap} (h : xt_ok A U H) (hq : ∀ a : Nat, a < H.size → ¬ A a → H1[a]? = H[a]?) : xt_ok A U H1 := ⟨h.1.kept hq, h.2.1.kept hq, h.2.2⟩
theorem xt_ok.narrow {A B : Nat → Prop} {U : State} {H : Heap} (h : xt_ok A U H) (hAB : ∀ q, B q → A q) : xt_ok B U H := ⟨h.1.narrow hAB, h.2.1.narrow hAB, h.2.2⟩
/-- the words of a throw: in zt_ws, in xd_ws, or of the two static fields -/
def xh_ws : List Cond := [.isRef (.static Bundle.tN "UNASSIGNED_STACK" Bundle.steD), .isRef (.static Bundle.tN "SUPPRESSED_SENTINEL" Bundle.listD), .laysStatic Bundle.tN "UNASSIGNED_STACK" Bundle.steD, .laysStatic Bundle.tN "SUPPRESSED_SENTINEL" Bundle.listD]
def xe_names : List String := ["java/lang/RuntimeException", "java/lang/Exception"]
def xe_ok (own : String) (ic : Nat) (E : String) : Prop := ∀ w ∈ Bundle.ownAtoms own ic E xe_names, w ∈ zt_ws ∨ w ∈ xd_ws ∨ w ∈ xh_ws
theorem xt_words {own E : String} {ic : Nat} (hw : xe_ok own ic E) {A : Nat → Prop} {s : State} {args : Array Value} (hts : ∀ w ∈ zt_ws, w.before args s = true) (hx : xt_ok A s s.heap) : ∀ w ∈ Bundle.ownAtoms own ic E xe_names, w.before args s = true := by
  intro w h
  rcases hw w h with h1 | h1 | h1
  · exact hts w h1
  · have h2 := hx.2.2.2 w h1
    have h3 : xd_is w = true := (List.mem_filter.mp h1).2
    cases w <;> first | exact va_Nw.use rfl h2 | cases h3
  · simp only [xh_ws, List.mem_cons, List.not_mem_nil, or_false] at h1
    rcases h1 with rfl | rfl | rfl | rfl
    · exact hx.1.isRef
    · exact hx.2.1.isRef
    · exact hx.1.lays
    · exact hx.2.1.lays
