/-! ===== own: constructors ===== -/
def zi_ok (X : zx_T) : Prop :=
  match X with
  | (_, _, _, _, _, _, _, meth, _, _, _, _) => meth.name = "<init>"
section ZN
variable {F : zf_T} {X : zx_T} {cc : ByteArray} {own : String} {rm : Room} {cells slots pc ml : Nat} {ws ws2 : va_W} {L : List (Option Value)} {st : List Value}
theorem zz_putF (cx : zx F X cc own rm ml) (ci9 : zi_ok X) {C : String} {T : u_T} {N ci index a : Nat} {fs : List Value} {v : Value} (hin : ∀ w ∈ u_ws C T N, w ∈ zt_ws) {ty0 : Nat → FieldType} (hty : ∀ k, k < N → parseFieldDescriptor (T k).2.2.1 = some (ty0 k)) (hnm : ∀ a, a < N → ∀ b, b < N → a ≠ b → (T a).2.1 ≠ (T b).2.1) (hc : vw_Cl[ci]? = some (C, T, N)) (q0 kf : Nat) (he : ws[q0]? = some (a, .inr (ci, fs))) (hk : kf < N) (hlink : Cond.fieldLink own index (T kf).1 (T kf).2.1 (T kf).2.2.1 ∈ zt_ws) (hfin : (T kf).2.2.2 = true) (hdecl : (T kf).1 = own) {ty : FieldType} (hpd : parseFieldDescriptor (T kf).2.2.1 = some ty) (hnr : narrow ty v = v) (hfit : fits ty v = true) (hlen : kf < fs.length) (hw : ws.set q0 (a, .inr (ci, fs.set kf v)) = ws2) (hd : decode cc pc = .ok (.putfield index, 3)) (k : zj F X cells slots ws2 (pc + 3) L st) : zj F X cells slots ws pc L (v :: .ref a :: st) := by
  obtain ⟨l, D, tys⟩ := F
  obtain ⟨p, e, R, s, m, args, below, meth, c, A, nL, Q⟩ := X
  obtain ⟨hx, hb, hml, hown, hts, hK, hn, hlo, hA, hR, hL9⟩ := cx
  subst hw
  exact fun H locs ls hP hD hS hl => va_putF (D := D) hx hb hts hin ty0 hty hnm hown hK hP hD hS q0 he hc kf hk (hts _ hlink) (fun _ h9 => h9) hfin ci9 hdecl hpd hnr hfit hlen hd (fun H1 locs1 hP1 hD1 hS1 => k H1 locs1 ls hP1 hD1 hS1 hl)
theorem zz_objinit (cx : zx F X cc own rm ml) {index a : Nat} (hl1 : Cond.methodLink own index objectInit ∈ zt_ws) (hl2 : Cond.instanceMethod objectInit ∈ zt_ws) (hl3 : Cond.code objectInit ⟨#[0xb1]⟩ 1 none ∈ zt_ws) (hd : decode cc pc = .ok (.invokespecial index, 3)) (hf : 1 ≤ rm.frames) (hlo2 : (st.map fun v => v.category).sum + 12 ≤ rm.locals) (k : zj F X cells slots ws (pc + 3) L st) : zj F X cells slots ws pc L (.ref a :: st) := by
  obtain ⟨l, D, tys⟩ := F
  obtain ⟨p, e, R, s, m, args, below, meth, c, A, nL, Q⟩ := X
  obtain ⟨hx, hb, hml, hown, hts, hK, hn, hlo, hA, hR, hL9⟩ := cx
  subst hR
  exact fun H locs ls hP hD hS hl => W.objInit hx hb hown (hts _ hl1) (hts _ hl2) (hts _ hl3) rfl (hl.1.trans hml.symm) rfl hd hf (by
    show 2 * 0 + _ + 12 ≤ R.locals
    omega) (k H locs ls hP hD hS hl)
theorem zz_new (cx : zx F X cc own rm ml) {C : String} {T : u_T} {N ci index : Nat} {fs : List Value} (hin : ∀ w ∈ u_ws C T N, w ∈ zt_ws) {ty0 : Nat → FieldType} (hty : ∀ k, k < N → parseFieldDescriptor (T k).2.2.1 = some (ty0 k)) (hc : vw_Cl[ci]? = some (C, T, N)) (hcl : Cond.classLink own index C ∈ zt_ws) (hinst : Cond.instantiable C N ∈ zt_ws) (hini : Cond.initialized C ∈ zt_ws) (hfs : ∀ j, j < N → defaultValue (ty0 j) = vp_V fs j) {c2 s2 : Nat} (hc2 : cells + 1 = c2) (hs2 : slots + N = s2) (hf : c2 ≤ rm.cells ∧ s2 ≤ rm.slots) (hd : decode cc pc = .ok (.new index, 3)) (k : ∀ q : Nat, zj F X c2 s2 (ws ++ [(q, .inr (ci, fs))]) (pc + 3) L (.ref q :: st)) : zj F X cells slots ws pc L st := by
  subst hc2; subst hs2
  obtain ⟨l, D, tys⟩ := F
  obtain ⟨p, e, R, s, m, args, below, meth, c, A, nL, Q⟩ := X
  obtain ⟨hx, hb, hml, hown, hts, hK, hn, hlo, hA, hR, hL9⟩ := cx
  subst hR
  exact fun H locs ls hP hD hS hl => va_new hx hb hts hin ty0 hty hown (hts _ hcl) (hts _ hinst) (hts _ hini) hK hP hD hS hA hc hfs hf.1 hf.2 hd (fun q H1 hP1 hD1 hS1 => k q H1 locs ls hP1 hD1 hS1 hl)
theorem zz_newa (cx : zx F X cc own rm ml) {atype : ArrayType} {ty : FieldType} {cA N : Nat} {n : Int32} {a0 : vp_A} (t0 : Nat) (harr : Cond.arrayClass ty ∈ zt_ws) (hty : newarray.typeOf atype = ty) (ht : F.2.2[t0]? = some (cA, ty)) (hra : ∀ (U : State) (c : ClassId), va_RA U c ty = (U.vm.findClass ("[" ++ ty.toString) = some c)) (ha : ∀ cA : ClassId, vp_cell cA a0 = arrV cA N (fun _ => defaultValue ty)) (hn0 : ¬ n < 0) (hN : n.toNatClampNeg = N) (hbytes : N * componentBytes ty ≤ 536870912) {c2 s2 : Nat} (hc2 : cells + 1 = c2) (hs2 : slots + N = s2) (hf : c2 ≤ rm.cells ∧ s2 ≤ rm.slots) (hd : decode cc pc = .ok (.newarray atype, 2)) (k : ∀ q : Nat, zj F X c2 s2 (ws ++ [(q, .inl (cA, a0))]) (pc + 2) L (.ref q :: st)) : zj F X cells slots ws pc L (.int n :: st) := by
  subst hc2; subst hs2
  obtain ⟨l, D, tys⟩ := F
  obtain ⟨p, e, R, s, m, args, below, meth, c, A, nL, Q⟩ := X
  obtain ⟨hx, hb, hml, hown, hts, hK, hn, hlo, hA, hR, hL9⟩ := cx
  subst hR
  intro H locs ls hP hD hS hl
  refine va_newa hx hb (by rw [hty]; exact hts _ harr) hty hK hP hD hS hA ha hn0 hN hbytes hf.1 hf.2 hd (fun q cB H1 hK1 hP1 hD1 hS1 => ?_)
  have h1 := (hK1.2 tys.length (cB, ty) (by rw [List.getElem?_append_right (Nat.le_refl _), Nat.sub_self]; rfl)).2
  have h2 := (hK.2 t0 (cA, ty) ht).2
  have h1 : va_RA s cB ty := h1
  have h2 : va_RA s cA ty := h2
  rw [hra] at h1 h2
  have hcc : cB = cA := Option.some.inj (h1.symm.trans h2)
  subst hcc
  exact k q H1 locs ls hP1 hD1 hS1 hl
end ZN
/-- a constructor: one object becomes a world -/
def zc_c (F : zf_T) (w1 : va_W) (h0 k0 : Nat) (wf : (Nat → Nat) → va_W) (y : MethodName) (cc : ByteArray) (maxL : Nat) (rm : Room) (as : List Value) : Prop :=
  ∀ sz : Nat, Met F.1 y (Cond.code y cc maxL none :: zt_ws) rm (va_Pc as (zc_pre F w1 sz)) (va_Qv (fun (ad : Nat → Nat) => ad k0 = h0) (fun ad t => va_P F.2.1 vw_Cl (wf ad) t.heap ∧ va_D (va_A w1 sz) (wf ad)) (va_A w1 sz)) rm.cells rm.slots (va_A w1 sz)
def zq_c (F : zf_T) (X : zx_T) (h0 k0 : Nat) (wf : (Nat → Nat) → va_W) : Prop :=
  match F, X with
  | (_, D, _), (_, _, R, s, _, args, below, meth, _, A, _, Q) => meth.sig.returnType = none ∧ Q = MQ below (va_Qv (fun (ad : Nat → Nat) => ad k0 = h0) (fun ad t => va_P D vw_Cl (wf ad) t.heap ∧ va_D A (wf ad)) A) args s R.cells R.slots A
theorem zz_cret {F : zf_T} {X : zx_T} {cc : ByteArray} {own : String} {rm : Room} {cells slots pc ml h0 k0 : Nat} {ws : va_W} {wf : (Nat → Nat) → va_W} {L : List (Option Value)} (cx : zx F X cc own rm ml) (cq : zq_c F X h0 k0 wf) (ad : Nat → Nat) (h0k : ad k0 = h0) (hw : ws = wf ad) (h1 : cells ≤ rm.cells) (h2 : slots ≤ rm.slots) (hd : decode cc pc = .ok (.return_, 1)) : zj F X cells slots ws pc L [] := by
  subst hw
  obtain ⟨l, D, tys⟩ := F
  obtain ⟨p, e, R, s, m, args, below, meth, c, A, nL, Q⟩ := X
  obtain ⟨hx, hb, hml, hown, hts, hK, hn, hlo, hA, hR, hL9⟩ := cx
  obtain ⟨hr, hq⟩ := cq
  subst hR; subst hq
  exact fun H locs ls hP hD hS hl => W.widen h1 h2 (W.vret hx hb hr (fun t ht hW => ⟨⟨ad, rfl, h0k, by rw [ht]; exact hP, hD⟩, hS.F ht⟩) hS.2.2 hd hlo)
theorem zc_c_of {F : zf_T} {w1 : va_W} {h0 k0 : Nat} {wf : (Nat → Nat) → va_W} {y : MethodName} {cc : ByteArray} {maxL : Nat} {rm : Room} {as : List Value} (hy : plainName y.cls = true) (hyn : y.name = "<init>") (hc : as.all (fun v => v.category == 1) = true) (hl : as.length ≤ maxL)
    (body : ∀ X : zx_T, zx F X cc y.cls rm maxL → zi_ok X → zq_c F X h0 k0 wf → zj F X 0 0 w1 0 (as.map some ++ List.replicate (maxL - as.length) none) []) : zc_c F w1 h0 k0 wf y cc maxL rm as := by
  obtain ⟨l, D, tys⟩ := F
  intro sz
  refine Met.ofW (cc := cc) (maxL := maxL) (ret := none) hy rfl ?_
  intro p e s m args below meth c s₁ B hml hv
  obtain ⟨rfl, hsz, hP, hK, hD0, hn⟩ := hv
  have hts := atoms_spec (ws := Cond.code y cc maxL none :: zt_ws) B.pre
  subst hsz
  have hD := hD0.self (sz := s.heap.size)
  rw [lg_entry_eq]
  exact body (p, e, _, s, m, as.toArray, below, meth, c, va_A w1 s.heap.size, maxL, _) ⟨B.exec, B.bytes, hml, findClass_of_methodNamed B.named, fun w hw => hts w (List.mem_cons_of_mem _ hw), hK, hn, B.notSynchronized, fun q h => Or.inr h, rfl, rfl⟩ ((name_of_methodNamed B.named B.method).1.trans hyn) ⟨B.returns, rfl⟩ s.heap [] _ hP hD va_S.rf (lz_args_has as maxL hc hl)
/-! ===== a callee whose world is a part of the world ===== -/
theorem zy_at {α : Type} {wl w1 wr : List α} {k : Nat} {q : α} (h : w1[k]? = some q) : (wl ++ (w1 ++ wr))[wl.length + k]? = some q := by
  rw [List.getElem?_append_right (Nat.le_add_right _ _), Nat.add_sub_cancel_left, List.getElem?_append_left (List.getElem?_eq_some_iff.mp h).1]
  exact h
theorem zy_sub {D : va_G} {wl w1 wr : va_W} {H : Heap} (hP : va_P D vw_Cl (wl ++ (w1 ++ wr)) H) : va_P D vw_Cl w1 H := fun _ q hk => hP _ q (zy_at hk)
theorem zy_dsub {A : Nat → Prop} {wl w1 wr : va_W} (hD : va_D A (wl ++ (w1 ++ wr))) : va_D A w1 := by
  refine ⟨fun i j x y hi hj hxy => ?_, fun k q hk => hD.2 _ q (zy_at hk)⟩
  have h := hD.1 _ _ x y (zy_at hi) (zy_at hj) hxy
  omega
theorem zy_free {A : Nat → Prop} {wl w1 wr : va_W} {H0 H : Heap} {locs : List Loc} (hD : va_D A (wl ++ (w1 ++ wr))) (hS : va_S A H0 H locs) (hA : ∀ q, H0.size ≤ q → A q) : ∀ q, va_A w1 H.size q → A q := za_free (zy_dsub hD) hS hA
/-- the other cells stay -/
theorem zy_rest {A : Nat → Prop} {D : va_G} {wl w1 wr : va_W} {H H1 : Heap} (hP : va_P D vw_Cl (wl ++ (w1 ++ wr)) H) (hD : va_D A (wl ++ (w1 ++ wr))) (hk : ∀ q : Nat, q < H.size → ¬ va_A w1 H.size q → H1[q]? = H[q]?) (k : Nat) (q : Nat × va_E) (hq : (wl ++ (w1 ++ wr))[k]? = some q) (hout : k < wl.length ∨ wl.length + w1.length ≤ k) : va_at D vw_Cl q H1 ∧ ¬ va_A w1 H.size q.1 := by
  have hl := (hP k q hq).lt
  have hn : ¬ va_A w1 H.size q.1 := by
    rintro (⟨j, e, hj⟩ | hj)
    · have h1 := hD.1 _ _ q (q.1, e) hq (zy_at hj) rfl
      have h2 := (List.getElem?_eq_some_iff.mp hj).1
      omega
    · omega
  exact ⟨(hP k q hq).kept (hk q.1 hl hn), hn⟩
theorem zy_join {A : Nat → Prop} {D : va_G} {wl w1 w2 wr : va_W} {H H1 : Heap} (hP : va_P D vw_Cl (wl ++ (w1 ++ wr)) H) (hD : va_D A (wl ++ (w1 ++ wr))) (hk : ∀ q : Nat, q < H.size → ¬ va_A w1 H.size q → H1[q]? = H[q]?) (hP1 : va_P D vw_Cl w2 H1) : va_P D vw_Cl (wl ++ (w2 ++ wr)) H1 := by
  intro k q hq
  by_cases h1 : k < wl.length
  · rw [List.getElem?_append_left h1] at hq
    exact (zy_rest hP hD hk k q (by rw [List.getElem?_append_left h1]; exact hq) (Or.inl h1)).1
  · rw [List.getElem?_append_right (by omega)] at hq
    by_cases h2 : k - wl.length < w2.length
    · rw [List.getElem?_append_left h2] at hq
      exact hP1 _ q hq
    · rw [List.getElem?_append_right (by omega)] at hq
      have hq' : (wl ++ (w1 ++ wr))[wl.length + (w1.length + (k - wl.length - w2.length))]? = some q := by
        rw [List.getElem?_append_right (Nat.le_add_right _ _), Nat.add_sub_cancel_left, List.getElem?_append_right (Nat.le_add_right _ _), Nat.add_sub_cancel_left]
        exact hq
      exact (zy_rest hP hD hk _ q hq' (Or.inr (by omega))).1
theorem zy_addr {A : Nat → Prop} {wl w1 w2 wr : va_W} (he : w2.map Prod.fst = w1.map Prod.fst) (hD : va_D A (wl ++ (w1 ++ wr))) : va_D A (wl ++ (w2 ++ wr)) := za_addr (by rw [List.map_append, List.map_append, List.map_append, List.map_append, he]) hD
/-- the callee's world may have grown -/
theorem zy_grow {A : Nat → Prop} {D : va_G} {wl w1 w2 wr : va_W} {H H1 : Heap} (hP : va_P D vw_Cl (wl ++ (w1 ++ wr)) H) (hD : va_D A (wl ++ (w1 ++ wr))) (hk : ∀ q : Nat, q < H.size → ¬ va_A w1 H.size q → H1[q]? = H[q]?) (hF : ∀ q, va_A w1 H.size q → A q) (hD2 : va_D (va_A w1 H.size) w2) : va_D A (wl ++ (w2 ++ wr)) := by
  have hlr : va_D A (wl ++ wr) := by
    refine ⟨fun i j x y hi hj hxy => ?_, fun k q hq => ?_⟩
    · have key : ∀ (k : Nat) (q : Nat × va_E), (wl ++ wr)[k]? = some q → (wl ++ (w1 ++ wr))[if k < wl.length then k else k + w1.length]? = some q := by
        intro k q hq
        by_cases h : k < wl.length
        · rw [if_pos h, List.getElem?_append_left h]
          rw [List.getElem?_append_left h] at hq
          exact hq
        · rw [if_neg h, List.getElem?_append_right (by omega), List.getElem?_append_right (by omega)]
          rw [List.getElem?_append_right (by omega)] at hq
          rw [show k + w1.length - wl.length - w1.length = k - wl.length by omega]
          exact hq
      have h := hD.1 _ _ x y (key i x hi) (key j y hj) hxy
      split at h <;> split at h <;> omega
    · rcases List.mem_append.mp (List.mem_of_getElem? hq) with h | h
      · obtain ⟨i, hi⟩ := List.getElem?_of_mem h
        exact hD.2 i q (by rw [List.getElem?_append_left (List.getElem?_eq_some_iff.mp hi).1]; exact hi)
      · obtain ⟨i, hi⟩ := List.getElem?_of_mem h
        refine hD.2 (wl.length + (w1.length + i)) q ?_
        rw [List.getElem?_append_right (Nat.le_add_right _ _), Nat.add_sub_cancel_left, List.getElem?_append_right (Nat.le_add_right _ _), Nat.add_sub_cancel_left]
        exact hi
  have hout : ∀ (i : Nat) (x : Nat × va_E), (wl ++ wr)[i]? = some x → ¬ va_A w1 H.size x.1 := by
    intro i x hx
    rcases List.mem_append.mp (List.mem_of_getElem? hx) with h | h
    · obtain ⟨i, hi⟩ := List.getElem?_of_mem h
      have hl := (List.getElem?_eq_some_iff.mp hi).1
      exact (zy_rest hP hD hk i x (by rw [List.getElem?_append_left hl]; exact hi) (Or.inl hl)).2
    · obtain ⟨i, hi⟩ := List.getElem?_of_mem h
      refine (zy_rest hP hD hk (wl.length + (w1.length + i)) x ?_ (Or.inr (by omega))).2
      rw [List.getElem?_append_right (Nat.le_add_right _ _), Nat.add_sub_cancel_left, List.getElem?_append_right (Nat.le_add_right _ _), Nat.add_sub_cancel_left]
      exact hi
  have hall : va_D A ((wl ++ wr) ++ w2) := va_D.app hlr (hD2.weaken (fun k q _ h => hF q.1 h)) (fun i j x y hx hy hxy => hout i x hx (by rw [hxy]; exact hD2.2 j y hy))
  -- the order of the cells doesn't matter
  refine ⟨fun i j x y hi hj hxy => ?_, fun k q hq => ?_⟩
  · have key : ∀ (k : Nat) (q : Nat × va_E), (wl ++ (w2 ++ wr))[k]? = some q → ((wl ++ wr) ++ w2)[if k < wl.length then k else if k < wl.length + w2.length then k + wr.length else k - w2.length]? = some q := by
      intro k q hq
      by_cases h : k < wl.length
      · rw [if_pos h, List.append_assoc, List.getElem?_append_left h]
        rw [List.getElem?_append_left h] at hq
        exact hq
      · rw [if_neg h]
        rw [List.getElem?_append_right (by omega)] at hq
        by_cases h2 : k < wl.length + w2.length
        · rw [if_pos h2, List.getElem?_append_right (by rw [List.length_append]; omega)]
          rw [List.getElem?_append_left (by omega)] at hq
          rw [List.length_append, show k + wr.length - (wl.length + wr.length) = k - wl.length by omega]
          exact hq
        · rw [if_neg h2]
          rw [List.getElem?_append_right (by omega)] at hq
          have hlt := (List.getElem?_eq_some_iff.mp hq).1
          rw [List.append_assoc, List.getElem?_append_right (by omega), List.getElem?_append_left (by omega)]
          rw [show k - w2.length - wl.length = k - wl.length - w2.length by omega]
          exact hq
    have h := hall.1 _ _ x y (key i x hi) (key j y hj) hxy
    have bi := (List.getElem?_eq_some_iff.mp hi).1
    have bj := (List.getElem?_eq_some_iff.mp hj).1
    rw [List.length_append, List.length_append] at bi bj
    split at h
    · split at h
      · exact h
      · split at h <;> omega
    · split at h
      · split at h
        · omega
        · split at h <;> omega
      · split at h
        · omega
        · split at h <;> omega
  · rcases List.mem_append.mp (List.mem_of_getElem? hq) with h | h
    · obtain ⟨i, hi⟩ := List.getElem?_of_mem (List.mem_append_left w2 (List.mem_append_left wr h))
      exact hall.2 i q hi
    · rcases List.mem_append.mp h with h | h
      · obtain ⟨i, hi⟩ := List.getElem?_of_mem (List.mem_append_right (wl ++ wr) h)
        exact hall.2 i q hi
      · obtain ⟨i, hi⟩ := List.getElem?_of_mem (List.mem_append_left w2 (List.mem_append_right wl h))
        exact hall.2 i q hi
