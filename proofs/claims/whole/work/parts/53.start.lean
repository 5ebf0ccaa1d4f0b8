/-! THE CLAIM OUT OF ONE WALK OF THE LAW'S BODY. Your part is whole_start (and what it stands on); all else here is the same for every law, but numbers. -/
def R_law : String := "RepeatWaysLaw"
def lw_P (b : Addr) (xs : List Int32) (args : Array Value) (s : State) : Prop := args = #[.ref b] ∧ s.IntsAt b xs ∧ xs.length ≤ 2560 ∧ (Jvm.Cond.and given_1 narrow_1).before args s = true
def lw_Q (_ : Array Value) (s : State) (o : Outcome) (t : State) : Prop := o = .returned (some (.int 1)) ∧ Framed s o t [] 1111 29205
def lw_Z (below : List Frame) (a : Array Value) (s : State) : State → Prop := fun t => ∃ o, t.status = .running ∧ Ended t below o ∧ lw_Q a s o t
/-- the law's own end, with 1 on the stack, nothing written that was there before, its room as the claim has it -/
theorem lw_ret {p : Program} {l : Launch} {e : Env} {s : State} {m : MethodId} {below : List Frame} {meth : Method} {c : Code} {b : Nat} (hx : p.tables.exec = Jvm.exec) (hb : c.code = code) (hr : meth.sig.returnType = ret) (hlocks : meth.locks = false) {pc : Nat} {H : Heap} {ls : Array Slot} (hdg : decode code pc = .ok (.ireturn, 1)) : W p l e room_1 s m #[Value.ref b] below meth c H [] 1111 29205 (lw_Z below #[Value.ref b] s) (F0 m pc ls [.int 1]) := by
  intro T hT X
  obtain ⟨fs, hret, hrun, hended, hW, hframe⟩ := X.leave (v := some (.int 1)) (hlocks := hlocks) (fun h => by rw [hr] at h; cases h)
  have hmeth' : T.vm.method? m = some meth := X.method'
  refine ⟨T.setFrames fs, ?_, .returned (some (.int 1)), hrun, hended, rfl, ⟨_, rfl⟩, hW, hframe⟩
  jvm_step X.here [X.here.top, hx, hb, hdg, hmeth', hr, ret, narrow_b1]
  (try refine ⟨rfl, ?_⟩); (try refine ⟨rfl, ?_⟩)
  first | (intro acts; rw [hret _ acts rfl rfl rfl]) | rw [hret _ _ rfl rfl rfl]
  exact Steps.refl _
/-- what holds at the law's entry: the machine, the code, the tables' words (any of lw_tbl by 'hts w (by decide +kernel)'), the script of L ints xs at the cell b, what the Statement gives of the start (any of its parts by flat_of_before) -/
def lw_At (p : Program) (s : State) (m : MethodId) (meth : Method) (c : Code) (b L : Nat) (xs : Nat → Int32) : Prop :=
  p.tables.exec = Jvm.exec ∧ c.code = code ∧ meth.sig.returnType = ret ∧ c.maxLocals = 7 ∧ s.vm.findClass R_law = some m.cls ∧ (∀ w ∈ lw_tbl, w.before #[Value.ref b] s = true) ∧ va_X b L xs s s.heap ∧ b < s.heap.size ∧ meth.locks = false ∧ (Jvm.Cond.and given_1 narrow_1).before #[Value.ref b] s = true
/-! ===== own: the law's start ===== -/
def gi_c : gs_T := (fun k => match k with
  | 2 => -1
  | 5 => -1
  | _ => 0, fun k => match k with
  | 8 => fun _ => -1
  | 9 => fun _ => -1
  | 14 => fun _ => -1
  | _ => fun _ => 0)
def gi_m : gs_T := (fun k => match k with
  | 4 => -1
  | _ => 0, fun k => match k with
  | 8 => fun _ => -1
  | _ => fun _ => 0)
set_option maxRecDepth 100000 in
theorem zl_ic (E : ze_T) : [] ++ (wi_X0 E ++ []) = wc_c E gi_c := by
  rw [List.append_nil, List.nil_append]
  simp only [wi_X0, wi_X1, wi_X2, wi_X3, List.cons_append, List.nil_append]
  rfl
set_option maxRecDepth 100000 in
theorem zl_im (E : ze_T) : wi_X4 E = wc_m E gi_m := rfl
theorem zl_w4 (E : ze_T) (am : Nat → Nat) (w : va_W) : w ++ (wi_X4 (ze_ad E am) ++ []) = w ++ wc_m (ze_ad E am) gi_m := by
  rw [List.append_nil, zl_im]
theorem zl_xS {C n d : String} {s : State} {args : Array Value} (hl : (Cond.laysStatic C n d).before args s = true) (hini : (Cond.initialized C).before args s = true) (h : (Cond.isRef (.static C n d)).before args s = true) : xt_S C n d (fun q => s.heap.size ≤ q) s s.heap := by
  obtain ⟨c, k, i, f, a, cell, h1, h2, h3, h4, h5, h6, h7, h8, h9⟩ := Cond.laysStatic_spec (show (Cond.laysStatic C n d).holds args s none s [] = true from hl)
  exact ⟨va_Zqof hl hini h (fun a ha => by show ¬ s.heap.size ≤ a; omega), c, k, i, f, a, cell, h1, h2, h3, h4, h5, h6, h7, h8, h9, by
    show ¬ s.heap.size ≤ a
    have := (Array.getElem?_eq_some_iff.mp h5).1
    omega⟩
theorem zl_str {s : State} {args : Array Value} (hts : ∀ w ∈ tables_1, w.before args s = true) (own tx : String) (k : Nat) (hk : Cond.stringRef own k tx ∈ tables_1) : ∃ sa, vk_R own k tx sa s := by
  have h : (Cond.stringRef own k tx).before #[] s = true := hts _ hk
  cases hcur : s.vm.findClass own with
  | none => simp [Cond.before, Cond.holds, Cond.value, hcur] at h
  | some cur =>
    obtain ⟨k9, cf, i, a, h1, h2, h3, h4, h5, h6⟩ := Cond.stringRef_spec (first := s) (o := none) (idx := []) (args := #[]) hcur h
    exact ⟨a, h, h6⟩
theorem zl_nest {s : State} {args : Array Value} (hts : ∀ w ∈ tables_1, w.before args s = true) : zn_ok s := by
  intro w hw
  have h1 := hts w (List.mem_filter.mp hw).1
  have h2 := List.all_eq_true.mp zn_all w hw
  cases w <;> first | exact va_Nw.of rfl h1 | cases h2
theorem zl_xd {s : State} {args : Array Value} (hts : ∀ w ∈ tables_1, w.before args s = true) : ∀ w ∈ xd_ws, va_Nw w s := by
  intro w hw
  have h1 := hts w (List.mem_filter.mp hw).1
  have h2 : xd_is w = true := (List.mem_filter.mp hw).2
  cases w <;> first | exact va_Nw.of rfl h1 | cases h2
theorem zl_arr {s : State} {args : Array Value} {ty : FieldType} (h : (Cond.arrayClass ty).before args s = true) : ∃ c : ClassId, s.vm.findClass ("[" ++ ty.toString) = some c ∧ ArrOfT s c ty := by
  obtain ⟨c, k, comp, h1, h2, h3⟩ := Cond.arrayClass_spec (show (Cond.arrayClass ty).holds args s none s [] = true from h)
  exact ⟨c, h1, fun n z => ⟨fun k h => (by cases h), k, h2, comp, h3⟩⟩
theorem zl_xn {s : State} {args : Array Value} (h : (Jvm.Cond.and given_1 narrow_1).before args s = true) : xn_ok s := by
  have hs := flat_of_before _ h
  have n01 : va_Nc "java/lang/IllegalStateException" "java/lang/IndexOutOfBoundsException" s := va_Nc.of (hs (.not (.castable "java/lang/IllegalStateException" "java/lang/IndexOutOfBoundsException")) (by decide +kernel))
  have n02 : va_Nc "java/lang/IllegalStateException" "java/lang/IllegalArgumentException" s := va_Nc.of (hs (.not (.castable "java/lang/IllegalStateException" "java/lang/IllegalArgumentException")) (by decide +kernel))
  have n10 : va_Nc "java/lang/IndexOutOfBoundsException" "java/lang/IllegalStateException" s := va_Nc.of (hs (.not (.castable "java/lang/IndexOutOfBoundsException" "java/lang/IllegalStateException")) (by decide +kernel))
  have n12 : va_Nc "java/lang/IndexOutOfBoundsException" "java/lang/IllegalArgumentException" s := va_Nc.of (hs (.not (.castable "java/lang/IndexOutOfBoundsException" "java/lang/IllegalArgumentException")) (by decide +kernel))
  have n20 : va_Nc "java/lang/IllegalArgumentException" "java/lang/IllegalStateException" s := va_Nc.of (hs (.not (.castable "java/lang/IllegalArgumentException" "java/lang/IllegalStateException")) (by decide +kernel))
  have n21 : va_Nc "java/lang/IllegalArgumentException" "java/lang/IndexOutOfBoundsException" s := va_Nc.of (hs (.not (.castable "java/lang/IllegalArgumentException" "java/lang/IndexOutOfBoundsException")) (by decide +kernel))
  intro a b ha hb hab
  match a, b, ha, hb, hab with
  | 0, 0, _, _, h => exact absurd rfl h
  | 1, 1, _, _, h => exact absurd rfl h
  | 2, 2, _, _, h => exact absurd rfl h
  | 0, 1, _, _, _ => exact n01
  | 0, 2, _, _, _ => exact n02
  | 1, 0, _, _, _ => exact n10
  | 1, 2, _, _, _ => exact n12
  | 2, 0, _, _, _ => exact n20
  | 2, 1, _, _, _ => exact n21
  | a + 3, _, ha, _, _ => exact absurd ha (by omega)
  | 0, b + 3, _, hb, _ => exact absurd hb (by omega)
  | 1, b + 3, _, hb, _ => exact absurd hb (by omega)
  | 2, b + 3, _, hb, _ => exact absurd hb (by omega)
theorem zl_lo {s : State} {args : Array Value} (hts : ∀ w ∈ lw_tbl, w.before args s = true) : ∀ w ∈ tables_1, w.before args s = true := fun w hw => hts w (List.mem_append_right _ hw)
theorem zl_z {s : State} {args : Array Value} (hts : ∀ w ∈ lw_tbl, w.before args s = true) : ∀ w ∈ zt_ws, w.before args s = true := fun w hw => hts w (List.mem_filter.mp hw).1
set_option maxHeartbeats 4000000 in
set_option maxRecDepth 100000 in
theorem zl_start (Rel : gs_T → gs_T → Prop) (hR : ∀ G Gm, Rel G Gm → sp_ok Rel G Gm) (hR0 : Rel gi_c gi_m) {p : Program} {e : Env} {s : State} {m : MethodId} {below : List Frame} {meth : Method} {c : Code} (l : Launch) (hst : l.stackTraces = false) {b L : Nat} {xs : Nat → Int32} (hL : L ≤ 2560) (C0 : lw_At p s m meth c b L xs) : W p l e room_1 s m #[Value.ref b] below meth c s.heap [] 0 0 (lw_Z below #[Value.ref b] s) (entryFrame m ([Value.ref b] : List Value).toArray 7) := by
  obtain ⟨hx, hb, hr, hml, hown, hts, hX, hbl, hlocks, hgv⟩ := C0
  have hz := zl_z hts
  have h1 := zl_lo hts
  have hs := flat_of_before _ hgv
  obtain ⟨c0, iS0, hKn0⟩ := u_known (C := rn_X0) (T := tn_X0) (N := 3) (n := 3) hz zi_X0 (hz _ zp_X0)
  obtain ⟨c1, iS1, hKn1⟩ := u_known (C := rn_X1) (T := tn_X1) (N := 19) (n := 19) hz zi_X1 (hz _ zp_X1)
  obtain ⟨c2, iS2, hKn2⟩ := u_known (C := rn_X2) (T := tn_X2) (N := 15) (n := 15) hz zi_X2 (hz _ zp_X2)
  obtain ⟨c3, iS3, hKn3⟩ := u_known (C := rn_X3) (T := tn_X3) (N := 11) (n := 11) hz zi_X3 (hz _ zp_X3)
  obtain ⟨c4, iS4, hKn4⟩ := u_known (C := rn_X4) (T := tn_X4) (N := 41) (n := 41) hz zi_X4 (hz _ zp_X4)
  obtain ⟨cI, kI, aI⟩ := zl_arr (hz _ za_int)
  obtain ⟨cZ, kZ, aZ⟩ := zl_arr (hz _ za_boolean)
  obtain ⟨cL, kL, aL⟩ := zl_arr (hz _ za_long)
  obtain ⟨dC, dI, hKc⟩ : ∃ (dC : Nat → ClassId) (dI : Nat → Nat → Nat), ∀ (k : Nat) (q : vw_C), vw_Cl[k]? = some q → u_Kn s q.1 q.2.1 q.2.2 (dC k) (dI k) := by
    refine ⟨fun k => if k = 0 then c0 else if k = 1 then c1 else if k = 2 then c2 else if k = 3 then c3 else c4, fun k => if k = 0 then iS0 else if k = 1 then iS1 else if k = 2 then iS2 else if k = 3 then iS3 else iS4, ?_⟩
    intro k q hq
    match k, hq with
    | 0, hq => cases hq; exact hKn0
    | 1, hq => cases hq; exact hKn1
    | 2, hq => cases hq; exact hKn2
    | 3, hq => cases hq; exact hKn3
    | 4, hq => cases hq; exact hKn4
    | k + 5, hq => simp [vw_Cl] at hq
  have hK : va_K (dC, dI) vw_Cl [(cI, .int), (cZ, .boolean), (cL, .long)] s := by
    refine ⟨hKc, fun k q hq => ?_⟩
    match k, hq with
    | 0, hq => cases hq; exact ⟨aI, kI⟩
    | 1, hq => cases hq; exact ⟨aZ, kZ⟩
    | 2, hq => cases hq; exact ⟨aL, kL⟩
    | k + 3, hq => simp at hq
  have hxt : xt_ok (fun q => s.heap.size ≤ q) s s.heap := by
    refine ⟨zl_xS (h1 _ (List.mem_of_getElem? (i := 358) (by decide +kernel))) (h1 _ (List.mem_of_getElem? (i := 7) (by decide +kernel))) (hs (.isRef (.static Bundle.tN "UNASSIGNED_STACK" Bundle.steD)) (by decide +kernel)), zl_xS (h1 _ (List.mem_of_getElem? (i := 360) (by decide +kernel))) (h1 _ (List.mem_of_getElem? (i := 7) (by decide +kernel))) (hs (.isRef (.static Bundle.tN "SUPPRESSED_SENTINEL" Bundle.listD)) (by decide +kernel)), zl_str h1, zl_xd h1⟩
  rw [lg_entry_eq]
  let E0 : ze_T := (l, (dC, dI), cI, cZ, cL, fun _ => 0)
  let X : zx_T := (p, e, room_1, s, m, #[Value.ref b], below, meth, c, fun q => s.heap.size ≤ q, 7, lw_Z below #[Value.ref b] s)
  have cx : zx (zF E0) X code rn_XL room_1 7 := ⟨hx, hb, hml, hown, hz, hK, zl_nest h1, hlocks, fun q h => h, rfl, rfl⟩
  have sx : zs_ok X b L xs := ⟨hX, hbl, Nat.not_le.mpr hbl⟩
  have hx9 : zh_ok X := ⟨hxt, zl_xn hgv⟩
  have hend : ∀ (cc ss : Nat) (ws : va_W) (L9 : List (Option Value)), cc ≤ 1111 → ss ≤ 29205 → zj (zF E0) X cc ss ws 933 L9 [.int 1] := by
    intro cc ss ws L9 h1 h2
    exact fun H locs ls hP hD hS hl => W.widen (k := 1111) (n := 29205) h1 h2 (va_forget (fun q hq => hS.2.2 q hq) (lw_ret hx hb hr hlocks dn_XL_law_933))
  have body : zj (zF E0) X 0 0 [] 0 [some (.ref b), none, none, none, none, none, none] [] := by
    clear_value X
    refine zz_new cx (fs := [.null, .null, .null]) zi_X0 fk_X0 (ci := 0) rfl zk_XL_8 zp_X0 zo_X0 (by decide) (c2 := 1) (s2 := 3) rfl rfl ⟨Nat.le_of_ble_eq_true rfl, Nat.le_of_ble_eq_true rfl⟩ dn_XL_law_0 (fun q => ?_)
    refine zz_dup cx dn_XL_law_3 rfl ?_
    refine zy_callI cx (wl := []) (wr := []) (rest := [.ref q]) (zc_X0 E0 q) rfl zm_X0_init zk_XL_57 rfl zu_X0_init (by decide) rfl (Nat.le_of_ble_eq_true rfl) (c2 := 35) (s2 := 10495) rfl rfl ⟨Nat.le_of_ble_eq_true rfl, Nat.le_of_ble_eq_true rfl⟩ dn_XL_law_4 ?_
    intro ad e0
    subst e0
    refine zy_eq (zl_ic (ze_ad E0 ad)) ?_
    refine zz_astore_n cx dn_XL_law_7 rfl (by decide) rfl ?_
    refine zz_new cx (fs := [.int 0, .int 0, .null, .int 0, .null, .null, .null, .int 0, .null, .null, .null, .null, .null, .null, .null, .null, .null, .int 0, .int 0, .null, .null, .null, .null, .null, .int 0, .null, .null, .int 0, .int 0, .int 0, .int 0, .null, .null, .null, .null, .int 0, .null, .null, .int 0, .null, .null]) zi_X4 fk_X4 (ci := 4) rfl zk_XL_58 zp_X4 zo_X4 (by decide) (c2 := 36) (s2 := 10536) rfl rfl ⟨Nat.le_of_ble_eq_true rfl, Nat.le_of_ble_eq_true rfl⟩ dn_XL_law_8 (fun q => ?_)
    refine zz_dup cx dn_XL_law_11 rfl ?_
    refine zy_callI cx (wl := wc_c (ze_ad E0 ad) gi_c) (wr := []) (rest := [.ref q]) (zc_X4 E0 q) (zy_ap _ _) zm_X4_init zk_XL_60 rfl zu_X4_init (by decide) rfl (Nat.le_of_ble_eq_true rfl) (c2 := 64) (s2 := 20880) rfl rfl ⟨Nat.le_of_ble_eq_true rfl, Nat.le_of_ble_eq_true rfl⟩ dn_XL_law_12 ?_
    intro am e0
    subst e0
    refine zy_eq (zl_w4 E0 am _) ?_
    refine zz_astore_n cx dn_XL_law_15 rfl (by decide) rfl ?_
    refine zz_iconst cx dn_XL_law_16 (v := 1) (by decide) ?_
    refine zz_newa cx (a0 := (1, .inr (.inl (fun _ => 0)))) 2 za_long rfl rfl (fun _ _ => rfl) (fun _ => rfl) (by decide) (by decide) (by decide) (c2 := 65) (s2 := 20881) rfl rfl ⟨Nat.le_of_ble_eq_true rfl, Nat.le_of_ble_eq_true rfl⟩ dn_XL_law_17 (fun o => ?_)
    refine zy_swap ?_
    refine zz_astore_n cx dn_XL_law_19 rfl (by decide) rfl ?_
    refine zz_iconst cx dn_XL_law_20 (v := nI 0) (by decide) ?_
    refine zz_istore cx dn_XL_law_21 (by decide) rfl ?_
    exact zl_loop Rel hR (ze_ad E0 ad) am o b L xs X cx sx hx9 hst hL hend (L + 1) 0 (fun _ => 0) gi_c gi_m hR0 (by omega) (by omega)
  exact body s.heap [] _ (fun k q h => by simp at h) ⟨fun i j p q h => by simp at h, fun k q h => by simp at h⟩ va_S.rf (lz_args_has [.ref b] 7 rfl (Nat.le_of_ble_eq_true rfl))
