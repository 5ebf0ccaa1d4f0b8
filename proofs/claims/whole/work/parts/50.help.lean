/-! ===== own: long rules, and the helpers of the law (printed by genhelp.py) ===== -/
section ZL
variable {F : zf_T} {X : zx_T} {cc : ByteArray} {own : String} {rm : Room} {cells slots pc ml : Nat} {ws : va_W} {L : List (Option Value)} {st : List Value}
theorem zz_i2l (cx : zx F X cc own rm ml) {x : Int32} (hd : decode cc pc = .ok (.i2l, 1)) (k : zj F X cells slots ws (pc + 1) L (.long x.toInt64 :: st)) : zj F X cells slots ws pc L (.int x :: st) := by
  obtain ⟨l, D, tys⟩ := F
  obtain ⟨p, e, R, s, m, args, below, meth, c, A, nL, Q⟩ := X
  obtain ⟨hx, hb, hml, hown, hts, hK, hn, hlo, hA, hR, hL9⟩ := cx
  exact fun H locs ls hP hD hS hl => lv_i2l hx hb hd rfl (k H locs ls hP hD hS hl)
theorem zz_lcmp (cx : zx F X cc own rm ml) {x y : Int64} (hd : decode cc pc = .ok (.lcmp, 1)) (k : zj F X cells slots ws (pc + 1) L (.int (lg_cmp x y) :: st)) : zj F X cells slots ws pc L (.long y :: .long x :: st) := by
  obtain ⟨l, D, tys⟩ := F
  obtain ⟨p, e, R, s, m, args, below, meth, c, A, nL, Q⟩ := X
  obtain ⟨hx, hb, hml, hown, hts, hK, hn, hlo, hA, hR, hL9⟩ := cx
  exact fun H locs ls hP hD hS hl => W.lcmp hx hb hd (k H locs ls hP hD hS hl)
theorem zz_lald (cx : zx F X cc own rm ml) {cA n a : Nat} {f : Nat → Int64} {i : Int32} {v : Int64} (q0 t0 : Nat) (ha : ws[q0]? = some (a, .inl (cA, n, .inr (.inl f)))) (ht : F.2.2[t0]? = some (cA, .long)) (hin : vp_in i n) (hv : f i.toNatClampNeg = v) (hd : decode cc pc = .ok (.laload, 1)) (k : zj F X cells slots ws (pc + 1) L (.long v :: st)) : zj F X cells slots ws pc L (.int i :: .ref a :: st) := by
  subst hv
  obtain ⟨l, D, tys⟩ := F
  obtain ⟨p, e, R, s, m, args, below, meth, c, A, nL, Q⟩ := X
  obtain ⟨hx, hb, hml, hown, hts, hK, hn, hlo, hA, hR, hL9⟩ := cx
  exact fun H locs ls hP hD hS hl => va_lald hx hb hK hP q0 t0 ha ht hin hd (k H locs ls hP hD hS hl)
theorem zz_last (cx : zx F X cc own rm ml) {cA n a : Nat} {f : Nat → Int64} {i : Int32} {x : Int64} {ws2 : va_W} (q0 t0 : Nat) (ha : ws[q0]? = some (a, .inl (cA, n, .inr (.inl f)))) (ht : F.2.2[t0]? = some (cA, .long)) (hin : vp_in i n) (hw : ws.set q0 (a, .inl (cA, n, .inr (.inl (vp_updL f i.toNatClampNeg x)))) = ws2) (hd : decode cc pc = .ok (.lastore, 1)) (k : zj F X cells slots ws2 (pc + 1) L st) : zj F X cells slots ws pc L (.long x :: .int i :: .ref a :: st) := by
  subst hw
  obtain ⟨l, D, tys⟩ := F
  obtain ⟨p, e, R, s, m, args, below, meth, c, A, nL, Q⟩ := X
  obtain ⟨hx, hb, hml, hown, hts, hK, hn, hlo, hA, hR, hL9⟩ := cx
  exact fun H locs ls hP hD hS hl => va_last hx hb hK hP hD hS q0 t0 ha ht hin hd (fun H1 locs1 hP1 hD1 hS1 => k H1 locs1 ls hP1 hD1 hS1 hl)
end ZL
theorem zy_ap0 {α : Type} (x : α) (S : List α) : x :: S = [x] ++ (S ++ []) := by rw [List.append_nil]; rfl
theorem zy_ap1 {α : Type} (x : α) (S : List α) : [x] ++ (S ++ []) = x :: S := by rw [List.append_nil]; rfl
theorem zy_ap2 {α : Type} (S : List α) : S = [] ++ (S ++ []) := by rw [List.append_nil]; rfl
theorem zy_ap3 {α : Type} (S : List α) : [] ++ (S ++ []) = S := by rw [List.append_nil]; rfl
abbrev wo_e (E : ze_T) (o : Nat) (f : Nat → Int64) : Nat × va_E := (o, .inl (E.2.2.2.2.1, 1, .inr (.inl f)))
theorem xq_0 : Cond.castable (xe_n 0) (xe_n 0) ∈ xd_ws := List.mem_filter.mpr ⟨List.mem_of_getElem? (i := 333) (by decide +kernel), by decide +kernel⟩
theorem xq_1 : Cond.castable (xe_n 1) (xe_n 1) ∈ xd_ws := List.mem_filter.mpr ⟨List.mem_of_getElem? (i := 418) (by decide +kernel), by decide +kernel⟩
theorem xq_2 : Cond.castable (xe_n 2) (xe_n 2) ∈ xd_ws := List.mem_filter.mpr ⟨List.mem_of_getElem? (i := 434) (by decide +kernel), by decide +kernel⟩
theorem zi_01 : vp_in 0 1 := by unfold vp_in; decide
theorem zo_XL : Cond.initialized rn_XL ∈ zt_ws := zt_m 0 (by decide +kernel) (by decide +kernel)

set_option maxRecDepth 100000 in
theorem zw_bar : Cond.codeWith yn_XL_bar cn_XL_bar 4 (some .int) [(0, 9, 12, 13)] ∈ zt_ws := zt_m 325 rfl rfl
theorem zs_XL_bar : Cond.static yn_XL_bar ∈ zt_ws := zt_m 324 (by decide +kernel) (by decide +kernel)
set_option maxHeartbeats 4000000 in
set_option maxRecDepth 100000 in
theorem zh_bar_r (E : ze_T) (o : Nat) (f : Nat → Int64) (G : gs_T) (x1 : Int32) (rv : Int32) (G1 : gs_T) (h : cR_bar G x1 = some (.inl rv, G1)) : zc_w (zF E) (wo_e E o f :: wc_c E G) (wo_e E o (vp_updL f 0 rv.toInt64) :: wc_c E G1) yn_XL_bar cn_XL_bar 4 [(0, 9, 12, 13)] { frames := 2, cells := 0, slots := 0, locals := 42 } [.ref (ad_p E 0), .int x1, .ref o] (0 : Int32) := by
  refine zc_w_of (by decide) rfl (Nat.le_of_ble_eq_true rfl) (fun X cx wx cq => ?_)
  refine zz_aload_n cx dn_XL_bar_0 rfl rfl ?_
  refine zz_iconst cx dn_XL_bar_1 (v := (0 : Int32)) (by decide) ?_
  refine zz_aload_n cx dn_XL_bar_2 rfl rfl ?_
  refine zz_iload_n cx dn_XL_bar_3 rfl rfl ?_
  refine zy_callVi cx (wl := [wo_e E o f]) (wr := []) (As := [.int x1]) (rest := [.int (0 : Int32), .ref o]) (z_cR_bar_r E G x1 rv G1 h) (zy_ap0 _ _) zm_X0_bar zk_XL_7 zv_X0_bar 0 (ci := 0) rfl rfl (by decide) rfl (Nat.le_of_ble_eq_true rfl) (c2 := 0) (s2 := 0) rfl rfl (by decide) (wc_c_addr E _ _) dn_XL_bar_4 ?_
  refine zy_eq (zy_ap1 _ _) ?_
  refine zz_i2l cx dn_XL_bar_7 ?_
  refine zz_last cx 0 2 rfl rfl zi_01 (ws2 := wo_e E o (vp_updL f 0 rv.toInt64) :: wc_c E G1) rfl dn_XL_bar_8 ?_
  refine zz_goto cx dn_XL_bar_9 (tgt := 15) (by decide) ?_
  refine zz_iconst cx dn_XL_bar_15 (v := (0 : Int32)) (by decide) ?_
  exact zz_iret cx cq (by decide) (by decide) dn_XL_bar_16
set_option maxHeartbeats 4000000 in
set_option maxRecDepth 100000 in
theorem zh_bar_t0 (E : ze_T) (o : Nat) (f : Nat → Int64) (G : gs_T) (x1 : Int32) (G1 : gs_T) (hl : (zF E).1.stackTraces = false) (h : cR_bar G x1 = some (.inr 0, G1)) : zc_w (zF E) (wo_e E o f :: wc_c E G) (wo_e E o f :: wc_c E G1) yn_XL_bar cn_XL_bar 4 [(0, 9, 12, 13)] { frames := 7, cells := 1, slots := 6, locals := 111 } [.ref (ad_p E 0), .int x1, .ref o] (1 : Int32) := by
  refine zc_w_of (by decide) rfl (Nat.le_of_ble_eq_true rfl) (fun X cx wx cq => ?_)
  refine zz_aload_n cx dn_XL_bar_0 rfl rfl ?_
  refine zz_iconst cx dn_XL_bar_1 (v := (0 : Int32)) (by decide) ?_
  refine zz_aload_n cx dn_XL_bar_2 rfl rfl ?_
  refine zz_iload_n cx dn_XL_bar_3 rfl rfl ?_
  refine zy_callT cx (wl := [wo_e E o f]) (wr := []) (As := [.int x1]) (rest := [.int (0 : Int32), .ref o]) wx (z_cR_bar_t E G x1 _ G1 hl h) (zy_ap0 _ _) zm_X0_bar zk_XL_7 zv_X0_bar 0 (ci := 0) rfl rfl (by decide) rfl (Nat.le_of_ble_eq_true rfl) (c2 := 1) (s2 := 6) rfl rfl (by decide) (wc_c_addr E _ _) dn_XL_bar_4 [] ⟨0, 9, 12, 13⟩ [] rfl (fun z hz => nomatch hz) (by decide) (by decide) (by decide) zk_XL_13 xq_0 (fun q9 => ?_)
  refine zy_eq (zy_ap1 _ _) ?_
  refine zz_astore_n cx dn_XL_bar_12 rfl (by decide) rfl ?_
  refine zz_iconst cx dn_XL_bar_13 (v := (1 : Int32)) (by decide) ?_
  exact zz_iret cx cq (by decide) (by decide) dn_XL_bar_14
set_option maxRecDepth 100000 in
theorem zw_repeat : Cond.codeWith yn_XL_repeat cn_XL_repeat 6 (some .int) [(0, 12, 15, 19), (0, 12, 19, 21), (0, 12, 23, 13)] ∈ zt_ws := zt_m 405 rfl rfl
theorem zs_XL_repeat : Cond.static yn_XL_repeat ∈ zt_ws := zt_m 404 (by decide +kernel) (by decide +kernel)
set_option maxHeartbeats 4000000 in
set_option maxRecDepth 100000 in
theorem zh_repeat_r (E : ze_T) (o : Nat) (f : Nat → Int64) (n : Nat) (G : gs_T) (x1 x2 x3 : Int32) (rv : Int32) (G1 : gs_T) (h : cR_repeat n G x1 x2 x3 = some (.inl rv, G1)) : zc_w (zF E) (wo_e E o f :: wc_c E G) (wo_e E o (vp_updL f 0 rv.toInt64) :: wc_c E G1) yn_XL_repeat cn_XL_repeat 6 [(0, 12, 15, 19), (0, 12, 19, 21), (0, 12, 23, 13)] { frames := 5, cells := 0, slots := 0, locals := 116 } [.ref (ad_p E 0), .int x1, .int x2, .int x3, .ref o] (0 : Int32) := by
  refine zc_w_of (by decide) rfl (Nat.le_of_ble_eq_true rfl) (fun X cx wx cq => ?_)
  refine zz_aload cx dn_XL_repeat_0 rfl ?_
  refine zz_iconst cx dn_XL_repeat_2 (v := (0 : Int32)) (by decide) ?_
  refine zz_aload_n cx dn_XL_repeat_3 rfl rfl ?_
  refine zz_iload_n cx dn_XL_repeat_4 rfl rfl ?_
  refine zz_iload_n cx dn_XL_repeat_5 rfl rfl ?_
  refine zz_iload_n cx dn_XL_repeat_6 rfl rfl ?_
  refine zy_callVi cx (wl := [wo_e E o f]) (wr := []) (As := [.int x1, .int x2, .int x3]) (rest := [.int (0 : Int32), .ref o]) (z_cR_repeat_r E n G x1 x2 x3 rv G1 h) (zy_ap0 _ _) zm_X0_repeat zk_XL_15 zv_X0_repeat 0 (ci := 0) rfl rfl (by decide) rfl (Nat.le_of_ble_eq_true rfl) (c2 := 0) (s2 := 0) rfl rfl (by decide) (wc_c_addr E _ _) dn_XL_repeat_7 ?_
  refine zy_eq (zy_ap1 _ _) ?_
  refine zz_i2l cx dn_XL_repeat_10 ?_
  refine zz_last cx 0 2 rfl rfl zi_01 (ws2 := wo_e E o (vp_updL f 0 rv.toInt64) :: wc_c E G1) rfl dn_XL_repeat_11 ?_
  refine zz_goto cx dn_XL_repeat_12 (tgt := 27) (by decide) ?_
  refine zz_iconst cx dn_XL_repeat_27 (v := (0 : Int32)) (by decide) ?_
  exact zz_iret cx cq (by decide) (by decide) dn_XL_repeat_28
set_option maxHeartbeats 4000000 in
set_option maxRecDepth 100000 in
theorem zh_repeat_t1 (E : ze_T) (o : Nat) (f : Nat → Int64) (n : Nat) (G : gs_T) (x1 x2 x3 : Int32) (G1 : gs_T) (hl : (zF E).1.stackTraces = false) (h : cR_repeat n G x1 x2 x3 = some (.inr 1, G1)) : zc_w (zF E) (wo_e E o f :: wc_c E G) (wo_e E o f :: wc_c E G1) yn_XL_repeat cn_XL_repeat 6 [(0, 12, 15, 19), (0, 12, 19, 21), (0, 12, 23, 13)] { frames := 7, cells := 1, slots := 6, locals := 116 } [.ref (ad_p E 0), .int x1, .int x2, .int x3, .ref o] (1 : Int32) := by
  refine zc_w_of (by decide) rfl (Nat.le_of_ble_eq_true rfl) (fun X cx wx cq => ?_)
  refine zz_aload cx dn_XL_repeat_0 rfl ?_
  refine zz_iconst cx dn_XL_repeat_2 (v := (0 : Int32)) (by decide) ?_
  refine zz_aload_n cx dn_XL_repeat_3 rfl rfl ?_
  refine zz_iload_n cx dn_XL_repeat_4 rfl rfl ?_
  refine zz_iload_n cx dn_XL_repeat_5 rfl rfl ?_
  refine zz_iload_n cx dn_XL_repeat_6 rfl rfl ?_
  refine zy_callT cx (wl := [wo_e E o f]) (wr := []) (As := [.int x1, .int x2, .int x3]) (rest := [.int (0 : Int32), .ref o]) wx (z_cR_repeat_t E n G x1 x2 x3 _ G1 hl h) (zy_ap0 _ _) zm_X0_repeat zk_XL_15 zv_X0_repeat 0 (ci := 0) rfl rfl (by decide) rfl (Nat.le_of_ble_eq_true rfl) (c2 := 1) (s2 := 6) rfl rfl (by decide) (wc_c_addr E _ _) dn_XL_repeat_7 [] ⟨0, 12, 15, 19⟩ [⟨0, 12, 19, 21⟩, ⟨0, 12, 23, 13⟩] rfl (fun z hz => nomatch hz) (by decide) (by decide) (by decide) zk_XL_19 xq_1 (fun q9 => ?_)
  refine zy_eq (zy_ap1 _ _) ?_
  refine zz_astore cx dn_XL_repeat_15 (by decide) rfl ?_
  refine zz_iconst cx dn_XL_repeat_17 (v := (1 : Int32)) (by decide) ?_
  exact zz_iret cx cq (by decide) (by decide) dn_XL_repeat_18
set_option maxHeartbeats 4000000 in
set_option maxRecDepth 100000 in
theorem zh_repeat_t2 (E : ze_T) (o : Nat) (f : Nat → Int64) (n : Nat) (G : gs_T) (x1 x2 x3 : Int32) (G1 : gs_T) (hl : (zF E).1.stackTraces = false) (h : cR_repeat n G x1 x2 x3 = some (.inr 2, G1)) : zc_w (zF E) (wo_e E o f :: wc_c E G) (wo_e E o f :: wc_c E G1) yn_XL_repeat cn_XL_repeat 6 [(0, 12, 15, 19), (0, 12, 19, 21), (0, 12, 23, 13)] { frames := 7, cells := 1, slots := 6, locals := 116 } [.ref (ad_p E 0), .int x1, .int x2, .int x3, .ref o] (2 : Int32) := by
  refine zc_w_of (by decide) rfl (Nat.le_of_ble_eq_true rfl) (fun X cx wx cq => ?_)
  refine zz_aload cx dn_XL_repeat_0 rfl ?_
  refine zz_iconst cx dn_XL_repeat_2 (v := (0 : Int32)) (by decide) ?_
  refine zz_aload_n cx dn_XL_repeat_3 rfl rfl ?_
  refine zz_iload_n cx dn_XL_repeat_4 rfl rfl ?_
  refine zz_iload_n cx dn_XL_repeat_5 rfl rfl ?_
  refine zz_iload_n cx dn_XL_repeat_6 rfl rfl ?_
  refine zy_callT cx (wl := [wo_e E o f]) (wr := []) (As := [.int x1, .int x2, .int x3]) (rest := [.int (0 : Int32), .ref o]) wx (z_cR_repeat_t E n G x1 x2 x3 _ G1 hl h) (zy_ap0 _ _) zm_X0_repeat zk_XL_15 zv_X0_repeat 0 (ci := 0) rfl rfl (by decide) rfl (Nat.le_of_ble_eq_true rfl) (c2 := 1) (s2 := 6) rfl rfl (by decide) (wc_c_addr E _ _) dn_XL_repeat_7 [⟨0, 12, 15, 19⟩] ⟨0, 12, 19, 21⟩ [⟨0, 12, 23, 13⟩] rfl (fun z hz => by obtain rfl := List.mem_singleton.mp hz; exact ⟨by decide, by decide, 1, by decide, by decide, zk_XL_19⟩) (by decide) (by decide) (by decide) zk_XL_21 xq_2 (fun q9 => ?_)
  refine zy_eq (zy_ap1 _ _) ?_
  refine zz_astore cx dn_XL_repeat_19 (by decide) rfl ?_
  refine zz_iconst cx dn_XL_repeat_21 (v := (2 : Int32)) (by decide) ?_
  exact zz_iret cx cq (by decide) (by decide) dn_XL_repeat_22
set_option maxHeartbeats 4000000 in
set_option maxRecDepth 100000 in
theorem zh_repeat_t0 (E : ze_T) (o : Nat) (f : Nat → Int64) (n : Nat) (G : gs_T) (x1 x2 x3 : Int32) (G1 : gs_T) (hl : (zF E).1.stackTraces = false) (h : cR_repeat n G x1 x2 x3 = some (.inr 0, G1)) : zc_w (zF E) (wo_e E o f :: wc_c E G) (wo_e E o f :: wc_c E G1) yn_XL_repeat cn_XL_repeat 6 [(0, 12, 15, 19), (0, 12, 19, 21), (0, 12, 23, 13)] { frames := 7, cells := 1, slots := 6, locals := 116 } [.ref (ad_p E 0), .int x1, .int x2, .int x3, .ref o] (3 : Int32) := by
  refine zc_w_of (by decide) rfl (Nat.le_of_ble_eq_true rfl) (fun X cx wx cq => ?_)
  refine zz_aload cx dn_XL_repeat_0 rfl ?_
  refine zz_iconst cx dn_XL_repeat_2 (v := (0 : Int32)) (by decide) ?_
  refine zz_aload_n cx dn_XL_repeat_3 rfl rfl ?_
  refine zz_iload_n cx dn_XL_repeat_4 rfl rfl ?_
  refine zz_iload_n cx dn_XL_repeat_5 rfl rfl ?_
  refine zz_iload_n cx dn_XL_repeat_6 rfl rfl ?_
  refine zy_callT cx (wl := [wo_e E o f]) (wr := []) (As := [.int x1, .int x2, .int x3]) (rest := [.int (0 : Int32), .ref o]) wx (z_cR_repeat_t E n G x1 x2 x3 _ G1 hl h) (zy_ap0 _ _) zm_X0_repeat zk_XL_15 zv_X0_repeat 0 (ci := 0) rfl rfl (by decide) rfl (Nat.le_of_ble_eq_true rfl) (c2 := 1) (s2 := 6) rfl rfl (by decide) (wc_c_addr E _ _) dn_XL_repeat_7 [⟨0, 12, 15, 19⟩, ⟨0, 12, 19, 21⟩] ⟨0, 12, 23, 13⟩ [] rfl (fun z hz => (List.mem_cons.mp hz).elim (fun e9 => by subst e9; exact ⟨by decide, by decide, 1, by decide, by decide, zk_XL_19⟩) (fun hz => by obtain rfl := List.mem_singleton.mp hz; exact ⟨by decide, by decide, 2, by decide, by decide, zk_XL_21⟩)) (by decide) (by decide) (by decide) zk_XL_13 xq_0 (fun q9 => ?_)
  refine zy_eq (zy_ap1 _ _) ?_
  refine zz_astore cx dn_XL_repeat_23 (by decide) rfl ?_
  refine zz_iconst cx dn_XL_repeat_25 (v := (3 : Int32)) (by decide) ?_
  exact zz_iret cx cq (by decide) (by decide) dn_XL_repeat_26
set_option maxRecDepth 100000 in
theorem zw_ending : Cond.codeWith yn_XL_ending cn_XL_ending 7 (some .int) [(0, 14, 17, 19), (0, 14, 21, 21), (0, 14, 25, 13)] ∈ zt_ws := zt_m 486 rfl rfl
theorem zs_XL_ending : Cond.static yn_XL_ending ∈ zt_ws := zt_m 485 (by decide +kernel) (by decide +kernel)
set_option maxHeartbeats 4000000 in
set_option maxRecDepth 100000 in
theorem zh_ending_r (E : ze_T) (o : Nat) (f : Nat → Int64) (n : Nat) (G : gs_T) (x1 x2 x3 x4 : Int32) (rv : Int32) (G1 : gs_T) (h : cR_ending n G x1 x2 x3 x4 = some (.inl rv, G1)) : zc_w (zF E) (wo_e E o f :: wc_c E G) (wo_e E o (vp_updL f 0 rv.toInt64) :: wc_c E G1) yn_XL_ending cn_XL_ending 7 [(0, 14, 17, 19), (0, 14, 21, 21), (0, 14, 25, 13)] { frames := 5, cells := 0, slots := 0, locals := 116 } [.ref (ad_p E 0), .int x1, .int x2, .int x3, .int x4, .ref o] (0 : Int32) := by
  refine zc_w_of (by decide) rfl (Nat.le_of_ble_eq_true rfl) (fun X cx wx cq => ?_)
  refine zz_aload cx dn_XL_ending_0 rfl ?_
  refine zz_iconst cx dn_XL_ending_2 (v := (0 : Int32)) (by decide) ?_
  refine zz_aload_n cx dn_XL_ending_3 rfl rfl ?_
  refine zz_iload_n cx dn_XL_ending_4 rfl rfl ?_
  refine zz_iload_n cx dn_XL_ending_5 rfl rfl ?_
  refine zz_iload_n cx dn_XL_ending_6 rfl rfl ?_
  refine zz_iload cx dn_XL_ending_7 rfl ?_
  refine zy_callVi cx (wl := [wo_e E o f]) (wr := []) (As := [.int x1, .int x2, .int x3, .int x4]) (rest := [.int (0 : Int32), .ref o]) (z_cR_ending_r E n G x1 x2 x3 x4 rv G1 h) (zy_ap0 _ _) zm_X0_ending zk_XL_23 zv_X0_ending 0 (ci := 0) rfl rfl (by decide) rfl (Nat.le_of_ble_eq_true rfl) (c2 := 0) (s2 := 0) rfl rfl (by decide) (wc_c_addr E _ _) dn_XL_ending_9 ?_
  refine zy_eq (zy_ap1 _ _) ?_
  refine zz_i2l cx dn_XL_ending_12 ?_
  refine zz_last cx 0 2 rfl rfl zi_01 (ws2 := wo_e E o (vp_updL f 0 rv.toInt64) :: wc_c E G1) rfl dn_XL_ending_13 ?_
  refine zz_goto cx dn_XL_ending_14 (tgt := 29) (by decide) ?_
  refine zz_iconst cx dn_XL_ending_29 (v := (0 : Int32)) (by decide) ?_
  exact zz_iret cx cq (by decide) (by decide) dn_XL_ending_30
set_option maxHeartbeats 4000000 in
set_option maxRecDepth 100000 in
theorem zh_ending_t1 (E : ze_T) (o : Nat) (f : Nat → Int64) (n : Nat) (G : gs_T) (x1 x2 x3 x4 : Int32) (G1 : gs_T) (hl : (zF E).1.stackTraces = false) (h : cR_ending n G x1 x2 x3 x4 = some (.inr 1, G1)) : zc_w (zF E) (wo_e E o f :: wc_c E G) (wo_e E o f :: wc_c E G1) yn_XL_ending cn_XL_ending 7 [(0, 14, 17, 19), (0, 14, 21, 21), (0, 14, 25, 13)] { frames := 7, cells := 1, slots := 6, locals := 116 } [.ref (ad_p E 0), .int x1, .int x2, .int x3, .int x4, .ref o] (1 : Int32) := by
  refine zc_w_of (by decide) rfl (Nat.le_of_ble_eq_true rfl) (fun X cx wx cq => ?_)
  refine zz_aload cx dn_XL_ending_0 rfl ?_
  refine zz_iconst cx dn_XL_ending_2 (v := (0 : Int32)) (by decide) ?_
  refine zz_aload_n cx dn_XL_ending_3 rfl rfl ?_
  refine zz_iload_n cx dn_XL_ending_4 rfl rfl ?_
  refine zz_iload_n cx dn_XL_ending_5 rfl rfl ?_
  refine zz_iload_n cx dn_XL_ending_6 rfl rfl ?_
  refine zz_iload cx dn_XL_ending_7 rfl ?_
  refine zy_callT cx (wl := [wo_e E o f]) (wr := []) (As := [.int x1, .int x2, .int x3, .int x4]) (rest := [.int (0 : Int32), .ref o]) wx (z_cR_ending_t E n G x1 x2 x3 x4 _ G1 hl h) (zy_ap0 _ _) zm_X0_ending zk_XL_23 zv_X0_ending 0 (ci := 0) rfl rfl (by decide) rfl (Nat.le_of_ble_eq_true rfl) (c2 := 1) (s2 := 6) rfl rfl (by decide) (wc_c_addr E _ _) dn_XL_ending_9 [] ⟨0, 14, 17, 19⟩ [⟨0, 14, 21, 21⟩, ⟨0, 14, 25, 13⟩] rfl (fun z hz => nomatch hz) (by decide) (by decide) (by decide) zk_XL_19 xq_1 (fun q9 => ?_)
  refine zy_eq (zy_ap1 _ _) ?_
  refine zz_astore cx dn_XL_ending_17 (by decide) rfl ?_
  refine zz_iconst cx dn_XL_ending_19 (v := (1 : Int32)) (by decide) ?_
  exact zz_iret cx cq (by decide) (by decide) dn_XL_ending_20
set_option maxHeartbeats 4000000 in
set_option maxRecDepth 100000 in
theorem zh_ending_t2 (E : ze_T) (o : Nat) (f : Nat → Int64) (n : Nat) (G : gs_T) (x1 x2 x3 x4 : Int32) (G1 : gs_T) (hl : (zF E).1.stackTraces = false) (h : cR_ending n G x1 x2 x3 x4 = some (.inr 2, G1)) : zc_w (zF E) (wo_e E o f :: wc_c E G) (wo_e E o f :: wc_c E G1) yn_XL_ending cn_XL_ending 7 [(0, 14, 17, 19), (0, 14, 21, 21), (0, 14, 25, 13)] { frames := 7, cells := 1, slots := 6, locals := 116 } [.ref (ad_p E 0), .int x1, .int x2, .int x3, .int x4, .ref o] (2 : Int32) := by
  refine zc_w_of (by decide) rfl (Nat.le_of_ble_eq_true rfl) (fun X cx wx cq => ?_)
  refine zz_aload cx dn_XL_ending_0 rfl ?_
  refine zz_iconst cx dn_XL_ending_2 (v := (0 : Int32)) (by decide) ?_
  refine zz_aload_n cx dn_XL_ending_3 rfl rfl ?_
  refine zz_iload_n cx dn_XL_ending_4 rfl rfl ?_
  refine zz_iload_n cx dn_XL_ending_5 rfl rfl ?_
  refine zz_iload_n cx dn_XL_ending_6 rfl rfl ?_
  refine zz_iload cx dn_XL_ending_7 rfl ?_
  refine zy_callT cx (wl := [wo_e E o f]) (wr := []) (As := [.int x1, .int x2, .int x3, .int x4]) (rest := [.int (0 : Int32), .ref o]) wx (z_cR_ending_t E n G x1 x2 x3 x4 _ G1 hl h) (zy_ap0 _ _) zm_X0_ending zk_XL_23 zv_X0_ending 0 (ci := 0) rfl rfl (by decide) rfl (Nat.le_of_ble_eq_true rfl) (c2 := 1) (s2 := 6) rfl rfl (by decide) (wc_c_addr E _ _) dn_XL_ending_9 [⟨0, 14, 17, 19⟩] ⟨0, 14, 21, 21⟩ [⟨0, 14, 25, 13⟩] rfl (fun z hz => by obtain rfl := List.mem_singleton.mp hz; exact ⟨by decide, by decide, 1, by decide, by decide, zk_XL_19⟩) (by decide) (by decide) (by decide) zk_XL_21 xq_2 (fun q9 => ?_)
  refine zy_eq (zy_ap1 _ _) ?_
  refine zz_astore cx dn_XL_ending_21 (by decide) rfl ?_
  refine zz_iconst cx dn_XL_ending_23 (v := (2 : Int32)) (by decide) ?_
  exact zz_iret cx cq (by decide) (by decide) dn_XL_ending_24
set_option maxHeartbeats 4000000 in
set_option maxRecDepth 100000 in
theorem zh_ending_t0 (E : ze_T) (o : Nat) (f : Nat → Int64) (n : Nat) (G : gs_T) (x1 x2 x3 x4 : Int32) (G1 : gs_T) (hl : (zF E).1.stackTraces = false) (h : cR_ending n G x1 x2 x3 x4 = some (.inr 0, G1)) : zc_w (zF E) (wo_e E o f :: wc_c E G) (wo_e E o f :: wc_c E G1) yn_XL_ending cn_XL_ending 7 [(0, 14, 17, 19), (0, 14, 21, 21), (0, 14, 25, 13)] { frames := 7, cells := 1, slots := 6, locals := 116 } [.ref (ad_p E 0), .int x1, .int x2, .int x3, .int x4, .ref o] (3 : Int32) := by
  refine zc_w_of (by decide) rfl (Nat.le_of_ble_eq_true rfl) (fun X cx wx cq => ?_)
  refine zz_aload cx dn_XL_ending_0 rfl ?_
  refine zz_iconst cx dn_XL_ending_2 (v := (0 : Int32)) (by decide) ?_
  refine zz_aload_n cx dn_XL_ending_3 rfl rfl ?_
  refine zz_iload_n cx dn_XL_ending_4 rfl rfl ?_
  refine zz_iload_n cx dn_XL_ending_5 rfl rfl ?_
  refine zz_iload_n cx dn_XL_ending_6 rfl rfl ?_
  refine zz_iload cx dn_XL_ending_7 rfl ?_
  refine zy_callT cx (wl := [wo_e E o f]) (wr := []) (As := [.int x1, .int x2, .int x3, .int x4]) (rest := [.int (0 : Int32), .ref o]) wx (z_cR_ending_t E n G x1 x2 x3 x4 _ G1 hl h) (zy_ap0 _ _) zm_X0_ending zk_XL_23 zv_X0_ending 0 (ci := 0) rfl rfl (by decide) rfl (Nat.le_of_ble_eq_true rfl) (c2 := 1) (s2 := 6) rfl rfl (by decide) (wc_c_addr E _ _) dn_XL_ending_9 [⟨0, 14, 17, 19⟩, ⟨0, 14, 21, 21⟩] ⟨0, 14, 25, 13⟩ [] rfl (fun z hz => (List.mem_cons.mp hz).elim (fun e9 => by subst e9; exact ⟨by decide, by decide, 1, by decide, by decide, zk_XL_19⟩) (fun hz => by obtain rfl := List.mem_singleton.mp hz; exact ⟨by decide, by decide, 2, by decide, by decide, zk_XL_21⟩)) (by decide) (by decide) (by decide) zk_XL_13 xq_0 (fun q9 => ?_)
  refine zy_eq (zy_ap1 _ _) ?_
  refine zz_astore cx dn_XL_ending_25 (by decide) rfl ?_
  refine zz_iconst cx dn_XL_ending_27 (v := (3 : Int32)) (by decide) ?_
  exact zz_iret cx cq (by decide) (by decide) dn_XL_ending_28
set_option maxRecDepth 100000 in
theorem zw_sign : Cond.codeWith yn_XL_sign cn_XL_sign 5 (some .int) [(0, 10, 13, 21), (0, 10, 17, 19)] ∈ zt_ws := zt_m 516 rfl rfl
theorem zs_XL_sign : Cond.static yn_XL_sign ∈ zt_ws := zt_m 515 (by decide +kernel) (by decide +kernel)
set_option maxHeartbeats 4000000 in
set_option maxRecDepth 100000 in
theorem zh_sign_r (E : ze_T) (o : Nat) (f : Nat → Int64) (G : gs_T) (x1 x2 : Int32) (rv : Int32) (G1 : gs_T) (h : cR_sign G x1 x2 = some (.inl rv, G1)) : zc_w (zF E) (wo_e E o f :: wc_c E G) (wo_e E o (vp_updL f 0 rv.toInt64) :: wc_c E G1) yn_XL_sign cn_XL_sign 5 [(0, 10, 13, 21), (0, 10, 17, 19)] { frames := 2, cells := 0, slots := 0, locals := 45 } [.ref (ad_p E 0), .int x1, .int x2, .ref o] (0 : Int32) := by
  refine zc_w_of (by decide) rfl (Nat.le_of_ble_eq_true rfl) (fun X cx wx cq => ?_)
  refine zz_aload_n cx dn_XL_sign_0 rfl rfl ?_
  refine zz_iconst cx dn_XL_sign_1 (v := (0 : Int32)) (by decide) ?_
  refine zz_aload_n cx dn_XL_sign_2 rfl rfl ?_
  refine zz_iload_n cx dn_XL_sign_3 rfl rfl ?_
  refine zz_iload_n cx dn_XL_sign_4 rfl rfl ?_
  refine zy_callVi cx (wl := [wo_e E o f]) (wr := []) (As := [.int x1, .int x2]) (rest := [.int (0 : Int32), .ref o]) (z_cR_sign_r E G x1 x2 rv G1 h) (zy_ap0 _ _) zm_X0_sign zk_XL_27 zv_X0_sign 0 (ci := 0) rfl rfl (by decide) rfl (Nat.le_of_ble_eq_true rfl) (c2 := 0) (s2 := 0) rfl rfl (by decide) (wc_c_addr E _ _) dn_XL_sign_5 ?_
  refine zy_eq (zy_ap1 _ _) ?_
  refine zz_i2l cx dn_XL_sign_8 ?_
  refine zz_last cx 0 2 rfl rfl zi_01 (ws2 := wo_e E o (vp_updL f 0 rv.toInt64) :: wc_c E G1) rfl dn_XL_sign_9 ?_
  refine zz_goto cx dn_XL_sign_10 (tgt := 21) (by decide) ?_
  refine zz_iconst cx dn_XL_sign_21 (v := (0 : Int32)) (by decide) ?_
  exact zz_iret cx cq (by decide) (by decide) dn_XL_sign_22
set_option maxHeartbeats 4000000 in
set_option maxRecDepth 100000 in
theorem zh_sign_t2 (E : ze_T) (o : Nat) (f : Nat → Int64) (G : gs_T) (x1 x2 : Int32) (G1 : gs_T) (hl : (zF E).1.stackTraces = false) (h : cR_sign G x1 x2 = some (.inr 2, G1)) : zc_w (zF E) (wo_e E o f :: wc_c E G) (wo_e E o f :: wc_c E G1) yn_XL_sign cn_XL_sign 5 [(0, 10, 13, 21), (0, 10, 17, 19)] { frames := 7, cells := 1, slots := 6, locals := 112 } [.ref (ad_p E 0), .int x1, .int x2, .ref o] (1 : Int32) := by
  refine zc_w_of (by decide) rfl (Nat.le_of_ble_eq_true rfl) (fun X cx wx cq => ?_)
  refine zz_aload_n cx dn_XL_sign_0 rfl rfl ?_
  refine zz_iconst cx dn_XL_sign_1 (v := (0 : Int32)) (by decide) ?_
  refine zz_aload_n cx dn_XL_sign_2 rfl rfl ?_
  refine zz_iload_n cx dn_XL_sign_3 rfl rfl ?_
  refine zz_iload_n cx dn_XL_sign_4 rfl rfl ?_
  refine zy_callT cx (wl := [wo_e E o f]) (wr := []) (As := [.int x1, .int x2]) (rest := [.int (0 : Int32), .ref o]) wx (z_cR_sign_t E G x1 x2 _ G1 hl h) (zy_ap0 _ _) zm_X0_sign zk_XL_27 zv_X0_sign 0 (ci := 0) rfl rfl (by decide) rfl (Nat.le_of_ble_eq_true rfl) (c2 := 1) (s2 := 6) rfl rfl (by decide) (wc_c_addr E _ _) dn_XL_sign_5 [] ⟨0, 10, 13, 21⟩ [⟨0, 10, 17, 19⟩] rfl (fun z hz => nomatch hz) (by decide) (by decide) (by decide) zk_XL_21 xq_2 (fun q9 => ?_)
  refine zy_eq (zy_ap1 _ _) ?_
  refine zz_astore cx dn_XL_sign_13 (by decide) rfl ?_
  refine zz_iconst cx dn_XL_sign_15 (v := (1 : Int32)) (by decide) ?_
  exact zz_iret cx cq (by decide) (by decide) dn_XL_sign_16
set_option maxHeartbeats 4000000 in
set_option maxRecDepth 100000 in
theorem zh_sign_t1 (E : ze_T) (o : Nat) (f : Nat → Int64) (G : gs_T) (x1 x2 : Int32) (G1 : gs_T) (hl : (zF E).1.stackTraces = false) (h : cR_sign G x1 x2 = some (.inr 1, G1)) : zc_w (zF E) (wo_e E o f :: wc_c E G) (wo_e E o f :: wc_c E G1) yn_XL_sign cn_XL_sign 5 [(0, 10, 13, 21), (0, 10, 17, 19)] { frames := 7, cells := 1, slots := 6, locals := 112 } [.ref (ad_p E 0), .int x1, .int x2, .ref o] (2 : Int32) := by
  refine zc_w_of (by decide) rfl (Nat.le_of_ble_eq_true rfl) (fun X cx wx cq => ?_)
  refine zz_aload_n cx dn_XL_sign_0 rfl rfl ?_
  refine zz_iconst cx dn_XL_sign_1 (v := (0 : Int32)) (by decide) ?_
  refine zz_aload_n cx dn_XL_sign_2 rfl rfl ?_
  refine zz_iload_n cx dn_XL_sign_3 rfl rfl ?_
  refine zz_iload_n cx dn_XL_sign_4 rfl rfl ?_
  refine zy_callT cx (wl := [wo_e E o f]) (wr := []) (As := [.int x1, .int x2]) (rest := [.int (0 : Int32), .ref o]) wx (z_cR_sign_t E G x1 x2 _ G1 hl h) (zy_ap0 _ _) zm_X0_sign zk_XL_27 zv_X0_sign 0 (ci := 0) rfl rfl (by decide) rfl (Nat.le_of_ble_eq_true rfl) (c2 := 1) (s2 := 6) rfl rfl (by decide) (wc_c_addr E _ _) dn_XL_sign_5 [⟨0, 10, 13, 21⟩] ⟨0, 10, 17, 19⟩ [] rfl (fun z hz => by obtain rfl := List.mem_singleton.mp hz; exact ⟨by decide, by decide, 2, by decide, by decide, zk_XL_21⟩) (by decide) (by decide) (by decide) zk_XL_19 xq_1 (fun q9 => ?_)
  refine zy_eq (zy_ap1 _ _) ?_
  refine zz_astore cx dn_XL_sign_17 (by decide) rfl ?_
  refine zz_iconst cx dn_XL_sign_19 (v := (2 : Int32)) (by decide) ?_
  exact zz_iret cx cq (by decide) (by decide) dn_XL_sign_20
set_option maxRecDepth 100000 in
theorem zw_jump : Cond.codeWith yn_XL_jump cn_XL_jump 6 (some .int) [(0, 9, 12, 19), (0, 9, 16, 21)] ∈ zt_ws := zt_m 528 rfl rfl
theorem zs_XL_jump : Cond.static yn_XL_jump ∈ zt_ws := zt_m 527 (by decide +kernel) (by decide +kernel)
set_option maxHeartbeats 4000000 in
set_option maxRecDepth 100000 in
theorem zh_jump_r (E : ze_T) (G : gs_T) (x1 x2 x3 x4 : Int32) (G1 : gs_T) (h : cR_jump G x1 x2 x3 x4 = some (.inl (), G1)) : zc_w (zF E) (wc_c E G) (wc_c E G1) yn_XL_jump cn_XL_jump 6 [(0, 9, 12, 19), (0, 9, 16, 21)] { frames := 3, cells := 0, slots := 0, locals := 69 } [.ref (ad_p E 0), .int x1, .int x2, .int x3, .int x4] (0 : Int32) := by
  refine zc_w_of (by decide) rfl (Nat.le_of_ble_eq_true rfl) (fun X cx wx cq => ?_)
  refine zz_aload_n cx dn_XL_jump_0 rfl rfl ?_
  refine zz_iload_n cx dn_XL_jump_1 rfl rfl ?_
  refine zz_iload_n cx dn_XL_jump_2 rfl rfl ?_
  refine zz_iload_n cx dn_XL_jump_3 rfl rfl ?_
  refine zz_iload cx dn_XL_jump_4 rfl ?_
  refine zy_callVv cx (wl := []) (wr := []) (As := [.int x1, .int x2, .int x3, .int x4]) (rest := []) (z_cR_jump_r E G x1 x2 x3 x4 G1 h) (zy_ap2 _) zm_X0_jump zk_XL_31 zv_X0_jump 0 (ci := 0) rfl rfl (by decide) rfl (Nat.le_of_ble_eq_true rfl) (c2 := 0) (s2 := 0) rfl rfl (by decide) (wc_c_addr E _ _) dn_XL_jump_6 ?_
  refine zy_eq (zy_ap3 _) ?_
  refine zz_goto cx dn_XL_jump_9 (tgt := 20) (by decide) ?_
  refine zz_iconst cx dn_XL_jump_20 (v := (0 : Int32)) (by decide) ?_
  exact zz_iret cx cq (by decide) (by decide) dn_XL_jump_21
set_option maxHeartbeats 4000000 in
set_option maxRecDepth 100000 in
theorem zh_jump_t1 (E : ze_T) (G : gs_T) (x1 x2 x3 x4 : Int32) (G1 : gs_T) (hl : (zF E).1.stackTraces = false) (h : cR_jump G x1 x2 x3 x4 = some (.inr 1, G1)) : zc_w (zF E) (wc_c E G) (wc_c E G1) yn_XL_jump cn_XL_jump 6 [(0, 9, 12, 19), (0, 9, 16, 21)] { frames := 7, cells := 1, slots := 6, locals := 114 } [.ref (ad_p E 0), .int x1, .int x2, .int x3, .int x4] (1 : Int32) := by
  refine zc_w_of (by decide) rfl (Nat.le_of_ble_eq_true rfl) (fun X cx wx cq => ?_)
  refine zz_aload_n cx dn_XL_jump_0 rfl rfl ?_
  refine zz_iload_n cx dn_XL_jump_1 rfl rfl ?_
  refine zz_iload_n cx dn_XL_jump_2 rfl rfl ?_
  refine zz_iload_n cx dn_XL_jump_3 rfl rfl ?_
  refine zz_iload cx dn_XL_jump_4 rfl ?_
  refine zy_callT cx (wl := []) (wr := []) (As := [.int x1, .int x2, .int x3, .int x4]) (rest := []) wx (z_cR_jump_t E G x1 x2 x3 x4 _ G1 hl h) (zy_ap2 _) zm_X0_jump zk_XL_31 zv_X0_jump 0 (ci := 0) rfl rfl (by decide) rfl (Nat.le_of_ble_eq_true rfl) (c2 := 1) (s2 := 6) rfl rfl (by decide) (wc_c_addr E _ _) dn_XL_jump_6 [] ⟨0, 9, 12, 19⟩ [⟨0, 9, 16, 21⟩] rfl (fun z hz => nomatch hz) (by decide) (by decide) (by decide) zk_XL_19 xq_1 (fun q9 => ?_)
  refine zy_eq (zy_ap3 _) ?_
  refine zz_astore cx dn_XL_jump_12 (by decide) rfl ?_
  refine zz_iconst cx dn_XL_jump_14 (v := (1 : Int32)) (by decide) ?_
  exact zz_iret cx cq (by decide) (by decide) dn_XL_jump_15
set_option maxHeartbeats 4000000 in
set_option maxRecDepth 100000 in
theorem zh_jump_t2 (E : ze_T) (G : gs_T) (x1 x2 x3 x4 : Int32) (G1 : gs_T) (hl : (zF E).1.stackTraces = false) (h : cR_jump G x1 x2 x3 x4 = some (.inr 2, G1)) : zc_w (zF E) (wc_c E G) (wc_c E G1) yn_XL_jump cn_XL_jump 6 [(0, 9, 12, 19), (0, 9, 16, 21)] { frames := 7, cells := 1, slots := 6, locals := 114 } [.ref (ad_p E 0), .int x1, .int x2, .int x3, .int x4] (2 : Int32) := by
  refine zc_w_of (by decide) rfl (Nat.le_of_ble_eq_true rfl) (fun X cx wx cq => ?_)
  refine zz_aload_n cx dn_XL_jump_0 rfl rfl ?_
  refine zz_iload_n cx dn_XL_jump_1 rfl rfl ?_
  refine zz_iload_n cx dn_XL_jump_2 rfl rfl ?_
  refine zz_iload_n cx dn_XL_jump_3 rfl rfl ?_
  refine zz_iload cx dn_XL_jump_4 rfl ?_
  refine zy_callT cx (wl := []) (wr := []) (As := [.int x1, .int x2, .int x3, .int x4]) (rest := []) wx (z_cR_jump_t E G x1 x2 x3 x4 _ G1 hl h) (zy_ap2 _) zm_X0_jump zk_XL_31 zv_X0_jump 0 (ci := 0) rfl rfl (by decide) rfl (Nat.le_of_ble_eq_true rfl) (c2 := 1) (s2 := 6) rfl rfl (by decide) (wc_c_addr E _ _) dn_XL_jump_6 [⟨0, 9, 12, 19⟩] ⟨0, 9, 16, 21⟩ [] rfl (fun z hz => by obtain rfl := List.mem_singleton.mp hz; exact ⟨by decide, by decide, 1, by decide, by decide, zk_XL_19⟩) (by decide) (by decide) (by decide) zk_XL_21 xq_2 (fun q9 => ?_)
  refine zy_eq (zy_ap3 _) ?_
  refine zz_astore cx dn_XL_jump_16 (by decide) rfl ?_
  refine zz_iconst cx dn_XL_jump_18 (v := (2 : Int32)) (by decide) ?_
  exact zz_iret cx cq (by decide) (by decide) dn_XL_jump_19
set_option maxRecDepth 100000 in
theorem zw_plain : Cond.codeWith yn_XL_plain cn_XL_plain 3 (some .int) [(0, 5, 8, 19), (0, 5, 11, 13)] ∈ zt_ws := zt_m 541 rfl rfl
theorem zs_XL_plain : Cond.static yn_XL_plain ∈ zt_ws := zt_m 540 (by decide +kernel) (by decide +kernel)
set_option maxHeartbeats 4000000 in
set_option maxRecDepth 100000 in
theorem zh_plain_r (E : ze_T) (G : gs_T) (x1 : Int32) (G1 : gs_T) (h : cR_plain G x1 = some (.inl (), G1)) : zc_w (zF E) (wc_c E G) (wc_c E G1) yn_XL_plain cn_XL_plain 3 [(0, 5, 8, 19), (0, 5, 11, 13)] { frames := 2, cells := 0, slots := 0, locals := 42 } [.ref (ad_p E 0), .int x1] (0 : Int32) := by
  refine zc_w_of (by decide) rfl (Nat.le_of_ble_eq_true rfl) (fun X cx wx cq => ?_)
  refine zz_aload_n cx dn_XL_plain_0 rfl rfl ?_
  refine zz_iload_n cx dn_XL_plain_1 rfl rfl ?_
  refine zy_callVv cx (wl := []) (wr := []) (As := [.int x1]) (rest := []) (z_cR_plain_r E G x1 G1 h) (zy_ap2 _) zm_X0_plain zk_XL_35 zv_X0_plain 0 (ci := 0) rfl rfl (by decide) rfl (Nat.le_of_ble_eq_true rfl) (c2 := 0) (s2 := 0) rfl rfl (by decide) (wc_c_addr E _ _) dn_XL_plain_2 ?_
  refine zy_eq (zy_ap3 _) ?_
  refine zz_goto cx dn_XL_plain_5 (tgt := 14) (by decide) ?_
  refine zz_iconst cx dn_XL_plain_14 (v := (0 : Int32)) (by decide) ?_
  exact zz_iret cx cq (by decide) (by decide) dn_XL_plain_15
set_option maxHeartbeats 4000000 in
set_option maxRecDepth 100000 in
theorem zh_plain_t1 (E : ze_T) (G : gs_T) (x1 : Int32) (G1 : gs_T) (hl : (zF E).1.stackTraces = false) (h : cR_plain G x1 = some (.inr 1, G1)) : zc_w (zF E) (wc_c E G) (wc_c E G1) yn_XL_plain cn_XL_plain 3 [(0, 5, 8, 19), (0, 5, 11, 13)] { frames := 7, cells := 1, slots := 6, locals := 111 } [.ref (ad_p E 0), .int x1] (1 : Int32) := by
  refine zc_w_of (by decide) rfl (Nat.le_of_ble_eq_true rfl) (fun X cx wx cq => ?_)
  refine zz_aload_n cx dn_XL_plain_0 rfl rfl ?_
  refine zz_iload_n cx dn_XL_plain_1 rfl rfl ?_
  refine zy_callT cx (wl := []) (wr := []) (As := [.int x1]) (rest := []) wx (z_cR_plain_t E G x1 _ G1 hl h) (zy_ap2 _) zm_X0_plain zk_XL_35 zv_X0_plain 0 (ci := 0) rfl rfl (by decide) rfl (Nat.le_of_ble_eq_true rfl) (c2 := 1) (s2 := 6) rfl rfl (by decide) (wc_c_addr E _ _) dn_XL_plain_2 [] ⟨0, 5, 8, 19⟩ [⟨0, 5, 11, 13⟩] rfl (fun z hz => nomatch hz) (by decide) (by decide) (by decide) zk_XL_19 xq_1 (fun q9 => ?_)
  refine zy_eq (zy_ap3 _) ?_
  refine zz_astore_n cx dn_XL_plain_8 rfl (by decide) rfl ?_
  refine zz_iconst cx dn_XL_plain_9 (v := (1 : Int32)) (by decide) ?_
  exact zz_iret cx cq (by decide) (by decide) dn_XL_plain_10
set_option maxHeartbeats 4000000 in
set_option maxRecDepth 100000 in
theorem zh_plain_t0 (E : ze_T) (G : gs_T) (x1 : Int32) (G1 : gs_T) (hl : (zF E).1.stackTraces = false) (h : cR_plain G x1 = some (.inr 0, G1)) : zc_w (zF E) (wc_c E G) (wc_c E G1) yn_XL_plain cn_XL_plain 3 [(0, 5, 8, 19), (0, 5, 11, 13)] { frames := 7, cells := 1, slots := 6, locals := 111 } [.ref (ad_p E 0), .int x1] (2 : Int32) := by
  refine zc_w_of (by decide) rfl (Nat.le_of_ble_eq_true rfl) (fun X cx wx cq => ?_)
  refine zz_aload_n cx dn_XL_plain_0 rfl rfl ?_
  refine zz_iload_n cx dn_XL_plain_1 rfl rfl ?_
  refine zy_callT cx (wl := []) (wr := []) (As := [.int x1]) (rest := []) wx (z_cR_plain_t E G x1 _ G1 hl h) (zy_ap2 _) zm_X0_plain zk_XL_35 zv_X0_plain 0 (ci := 0) rfl rfl (by decide) rfl (Nat.le_of_ble_eq_true rfl) (c2 := 1) (s2 := 6) rfl rfl (by decide) (wc_c_addr E _ _) dn_XL_plain_2 [⟨0, 5, 8, 19⟩] ⟨0, 5, 11, 13⟩ [] rfl (fun z hz => by obtain rfl := List.mem_singleton.mp hz; exact ⟨by decide, by decide, 1, by decide, by decide, zk_XL_19⟩) (by decide) (by decide) (by decide) zk_XL_13 xq_0 (fun q9 => ?_)
  refine zy_eq (zy_ap3 _) ?_
  refine zz_astore_n cx dn_XL_plain_11 rfl (by decide) rfl ?_
  refine zz_iconst cx dn_XL_plain_12 (v := (2 : Int32)) (by decide) ?_
  exact zz_iret cx cq (by decide) (by decide) dn_XL_plain_13
set_option maxRecDepth 100000 in
theorem zw_played : Cond.codeWith yn_XL_played cn_XL_played 5 (some .int) [(0, 10, 13, 19), (0, 10, 17, 21)] ∈ zt_ws := zt_m 554 rfl rfl
theorem zs_XL_played : Cond.static yn_XL_played ∈ zt_ws := zt_m 553 (by decide +kernel) (by decide +kernel)
set_option maxHeartbeats 4000000 in
set_option maxRecDepth 100000 in
theorem zh_played_r (E : ze_T) (o : Nat) (f : Nat → Int64) (G : gs_T) (x1 x2 : Int32) (rv : Int32) (G1 : gs_T) (h : cR_played G x1 x2 = some (.inl rv, G1)) : zc_w (zF E) (wo_e E o f :: wc_c E G) (wo_e E o (vp_updL f 0 rv.toInt64) :: wc_c E G1) yn_XL_played cn_XL_played 5 [(0, 10, 13, 19), (0, 10, 17, 21)] { frames := 1, cells := 0, slots := 0, locals := 22 } [.ref (ad_p E 0), .int x1, .int x2, .ref o] (0 : Int32) := by
  refine zc_w_of (by decide) rfl (Nat.le_of_ble_eq_true rfl) (fun X cx wx cq => ?_)
  refine zz_aload_n cx dn_XL_played_0 rfl rfl ?_
  refine zz_iconst cx dn_XL_played_1 (v := (0 : Int32)) (by decide) ?_
  refine zz_aload_n cx dn_XL_played_2 rfl rfl ?_
  refine zz_iload_n cx dn_XL_played_3 rfl rfl ?_
  refine zz_iload_n cx dn_XL_played_4 rfl rfl ?_
  refine zy_callVi cx (wl := [wo_e E o f]) (wr := []) (As := [.int x1, .int x2]) (rest := [.int (0 : Int32), .ref o]) (z_cR_played_r E G x1 x2 rv G1 h) (zy_ap0 _ _) zm_X0_played zk_XL_39 zv_X0_played 0 (ci := 0) rfl rfl (by decide) rfl (Nat.le_of_ble_eq_true rfl) (c2 := 0) (s2 := 0) rfl rfl (by decide) (wc_c_addr E _ _) dn_XL_played_5 ?_
  refine zy_eq (zy_ap1 _ _) ?_
  refine zz_i2l cx dn_XL_played_8 ?_
  refine zz_last cx 0 2 rfl rfl zi_01 (ws2 := wo_e E o (vp_updL f 0 rv.toInt64) :: wc_c E G1) rfl dn_XL_played_9 ?_
  refine zz_goto cx dn_XL_played_10 (tgt := 21) (by decide) ?_
  refine zz_iconst cx dn_XL_played_21 (v := (0 : Int32)) (by decide) ?_
  exact zz_iret cx cq (by decide) (by decide) dn_XL_played_22
set_option maxHeartbeats 4000000 in
set_option maxRecDepth 100000 in
theorem zh_played_t1 (E : ze_T) (o : Nat) (f : Nat → Int64) (G : gs_T) (x1 x2 : Int32) (G1 : gs_T) (hl : (zF E).1.stackTraces = false) (h : cR_played G x1 x2 = some (.inr 1, G1)) : zc_w (zF E) (wo_e E o f :: wc_c E G) (wo_e E o f :: wc_c E G1) yn_XL_played cn_XL_played 5 [(0, 10, 13, 19), (0, 10, 17, 21)] { frames := 7, cells := 1, slots := 6, locals := 112 } [.ref (ad_p E 0), .int x1, .int x2, .ref o] (1 : Int32) := by
  refine zc_w_of (by decide) rfl (Nat.le_of_ble_eq_true rfl) (fun X cx wx cq => ?_)
  refine zz_aload_n cx dn_XL_played_0 rfl rfl ?_
  refine zz_iconst cx dn_XL_played_1 (v := (0 : Int32)) (by decide) ?_
  refine zz_aload_n cx dn_XL_played_2 rfl rfl ?_
  refine zz_iload_n cx dn_XL_played_3 rfl rfl ?_
  refine zz_iload_n cx dn_XL_played_4 rfl rfl ?_
  refine zy_callT cx (wl := [wo_e E o f]) (wr := []) (As := [.int x1, .int x2]) (rest := [.int (0 : Int32), .ref o]) wx (z_cR_played_t E G x1 x2 _ G1 hl h) (zy_ap0 _ _) zm_X0_played zk_XL_39 zv_X0_played 0 (ci := 0) rfl rfl (by decide) rfl (Nat.le_of_ble_eq_true rfl) (c2 := 1) (s2 := 6) rfl rfl (by decide) (wc_c_addr E _ _) dn_XL_played_5 [] ⟨0, 10, 13, 19⟩ [⟨0, 10, 17, 21⟩] rfl (fun z hz => nomatch hz) (by decide) (by decide) (by decide) zk_XL_19 xq_1 (fun q9 => ?_)
  refine zy_eq (zy_ap1 _ _) ?_
  refine zz_astore cx dn_XL_played_13 (by decide) rfl ?_
  refine zz_iconst cx dn_XL_played_15 (v := (1 : Int32)) (by decide) ?_
  exact zz_iret cx cq (by decide) (by decide) dn_XL_played_16
set_option maxHeartbeats 4000000 in
set_option maxRecDepth 100000 in
theorem zh_played_t2 (E : ze_T) (o : Nat) (f : Nat → Int64) (G : gs_T) (x1 x2 : Int32) (G1 : gs_T) (hl : (zF E).1.stackTraces = false) (h : cR_played G x1 x2 = some (.inr 2, G1)) : zc_w (zF E) (wo_e E o f :: wc_c E G) (wo_e E o f :: wc_c E G1) yn_XL_played cn_XL_played 5 [(0, 10, 13, 19), (0, 10, 17, 21)] { frames := 7, cells := 1, slots := 6, locals := 112 } [.ref (ad_p E 0), .int x1, .int x2, .ref o] (2 : Int32) := by
  refine zc_w_of (by decide) rfl (Nat.le_of_ble_eq_true rfl) (fun X cx wx cq => ?_)
  refine zz_aload_n cx dn_XL_played_0 rfl rfl ?_
  refine zz_iconst cx dn_XL_played_1 (v := (0 : Int32)) (by decide) ?_
  refine zz_aload_n cx dn_XL_played_2 rfl rfl ?_
  refine zz_iload_n cx dn_XL_played_3 rfl rfl ?_
  refine zz_iload_n cx dn_XL_played_4 rfl rfl ?_
  refine zy_callT cx (wl := [wo_e E o f]) (wr := []) (As := [.int x1, .int x2]) (rest := [.int (0 : Int32), .ref o]) wx (z_cR_played_t E G x1 x2 _ G1 hl h) (zy_ap0 _ _) zm_X0_played zk_XL_39 zv_X0_played 0 (ci := 0) rfl rfl (by decide) rfl (Nat.le_of_ble_eq_true rfl) (c2 := 1) (s2 := 6) rfl rfl (by decide) (wc_c_addr E _ _) dn_XL_played_5 [⟨0, 10, 13, 19⟩] ⟨0, 10, 17, 21⟩ [] rfl (fun z hz => by obtain rfl := List.mem_singleton.mp hz; exact ⟨by decide, by decide, 1, by decide, by decide, zk_XL_19⟩) (by decide) (by decide) (by decide) zk_XL_21 xq_2 (fun q9 => ?_)
  refine zy_eq (zy_ap1 _ _) ?_
  refine zz_astore cx dn_XL_played_17 (by decide) rfl ?_
  refine zz_iconst cx dn_XL_played_19 (v := (2 : Int32)) (by decide) ?_
  exact zz_iret cx cq (by decide) (by decide) dn_XL_played_20
set_option maxRecDepth 100000 in
theorem zw_times : Cond.codeWith yn_XL_times cn_XL_times 4 (some .int) [(0, 9, 12, 19)] ∈ zt_ws := zt_m 563 rfl rfl
theorem zs_XL_times : Cond.static yn_XL_times ∈ zt_ws := zt_m 562 (by decide +kernel) (by decide +kernel)
set_option maxHeartbeats 4000000 in
set_option maxRecDepth 100000 in
theorem zh_times_r (E : ze_T) (o : Nat) (f : Nat → Int64) (G : gs_T) (x1 : Int32) (rv : Int32) (G1 : gs_T) (h : cR_times G x1 = some (.inl rv, G1)) : zc_w (zF E) (wo_e E o f :: wc_c E G) (wo_e E o (vp_updL f 0 rv.toInt64) :: wc_c E G1) yn_XL_times cn_XL_times 4 [(0, 9, 12, 19)] { frames := 2, cells := 0, slots := 0, locals := 42 } [.ref (ad_p E 0), .int x1, .ref o] (0 : Int32) := by
  refine zc_w_of (by decide) rfl (Nat.le_of_ble_eq_true rfl) (fun X cx wx cq => ?_)
  refine zz_aload_n cx dn_XL_times_0 rfl rfl ?_
  refine zz_iconst cx dn_XL_times_1 (v := (0 : Int32)) (by decide) ?_
  refine zz_aload_n cx dn_XL_times_2 rfl rfl ?_
  refine zz_iload_n cx dn_XL_times_3 rfl rfl ?_
  refine zy_callVi cx (wl := [wo_e E o f]) (wr := []) (As := [.int x1]) (rest := [.int (0 : Int32), .ref o]) (z_cR_times_r E G x1 rv G1 h) (zy_ap0 _ _) zm_X0_times zk_XL_42 zv_X0_times 0 (ci := 0) rfl rfl (by decide) rfl (Nat.le_of_ble_eq_true rfl) (c2 := 0) (s2 := 0) rfl rfl (by decide) (wc_c_addr E _ _) dn_XL_times_4 ?_
  refine zy_eq (zy_ap1 _ _) ?_
  refine zz_i2l cx dn_XL_times_7 ?_
  refine zz_last cx 0 2 rfl rfl zi_01 (ws2 := wo_e E o (vp_updL f 0 rv.toInt64) :: wc_c E G1) rfl dn_XL_times_8 ?_
  refine zz_goto cx dn_XL_times_9 (tgt := 15) (by decide) ?_
  refine zz_iconst cx dn_XL_times_15 (v := (0 : Int32)) (by decide) ?_
  exact zz_iret cx cq (by decide) (by decide) dn_XL_times_16
set_option maxHeartbeats 4000000 in
set_option maxRecDepth 100000 in
theorem zh_times_t1 (E : ze_T) (o : Nat) (f : Nat → Int64) (G : gs_T) (x1 : Int32) (G1 : gs_T) (hl : (zF E).1.stackTraces = false) (h : cR_times G x1 = some (.inr 1, G1)) : zc_w (zF E) (wo_e E o f :: wc_c E G) (wo_e E o f :: wc_c E G1) yn_XL_times cn_XL_times 4 [(0, 9, 12, 19)] { frames := 7, cells := 1, slots := 6, locals := 111 } [.ref (ad_p E 0), .int x1, .ref o] (1 : Int32) := by
  refine zc_w_of (by decide) rfl (Nat.le_of_ble_eq_true rfl) (fun X cx wx cq => ?_)
  refine zz_aload_n cx dn_XL_times_0 rfl rfl ?_
  refine zz_iconst cx dn_XL_times_1 (v := (0 : Int32)) (by decide) ?_
  refine zz_aload_n cx dn_XL_times_2 rfl rfl ?_
  refine zz_iload_n cx dn_XL_times_3 rfl rfl ?_
  refine zy_callT cx (wl := [wo_e E o f]) (wr := []) (As := [.int x1]) (rest := [.int (0 : Int32), .ref o]) wx (z_cR_times_t E G x1 _ G1 hl h) (zy_ap0 _ _) zm_X0_times zk_XL_42 zv_X0_times 0 (ci := 0) rfl rfl (by decide) rfl (Nat.le_of_ble_eq_true rfl) (c2 := 1) (s2 := 6) rfl rfl (by decide) (wc_c_addr E _ _) dn_XL_times_4 [] ⟨0, 9, 12, 19⟩ [] rfl (fun z hz => nomatch hz) (by decide) (by decide) (by decide) zk_XL_19 xq_1 (fun q9 => ?_)
  refine zy_eq (zy_ap1 _ _) ?_
  refine zz_astore_n cx dn_XL_times_12 rfl (by decide) rfl ?_
  refine zz_iconst cx dn_XL_times_13 (v := (1 : Int32)) (by decide) ?_
  exact zz_iret cx cq (by decide) (by decide) dn_XL_times_14
set_option maxRecDepth 100000 in
theorem zw_comes : Cond.codeWith yn_XL_comes cn_XL_comes 4 (some .int) [(0, 9, 12, 19)] ∈ zt_ws := zt_m 570 rfl rfl
theorem zs_XL_comes : Cond.static yn_XL_comes ∈ zt_ws := zt_m 569 (by decide +kernel) (by decide +kernel)
set_option maxHeartbeats 4000000 in
set_option maxRecDepth 100000 in
theorem zh_comes_r (E : ze_T) (o : Nat) (f : Nat → Int64) (G : gs_T) (x1 : Int32) (rv : Int32) (G1 : gs_T) (h : cR_comes G x1 = some (.inl rv, G1)) : zc_w (zF E) (wo_e E o f :: wc_c E G) (wo_e E o (vp_updL f 0 rv.toInt64) :: wc_c E G1) yn_XL_comes cn_XL_comes 4 [(0, 9, 12, 19)] { frames := 2, cells := 0, slots := 0, locals := 42 } [.ref (ad_p E 0), .int x1, .ref o] (0 : Int32) := by
  refine zc_w_of (by decide) rfl (Nat.le_of_ble_eq_true rfl) (fun X cx wx cq => ?_)
  refine zz_aload_n cx dn_XL_comes_0 rfl rfl ?_
  refine zz_iconst cx dn_XL_comes_1 (v := (0 : Int32)) (by decide) ?_
  refine zz_aload_n cx dn_XL_comes_2 rfl rfl ?_
  refine zz_iload_n cx dn_XL_comes_3 rfl rfl ?_
  refine zy_callVi cx (wl := [wo_e E o f]) (wr := []) (As := [.int x1]) (rest := [.int (0 : Int32), .ref o]) (z_cR_comes_r E G x1 rv G1 h) (zy_ap0 _ _) zm_X0_comes zk_XL_45 zv_X0_comes 0 (ci := 0) rfl rfl (by decide) rfl (Nat.le_of_ble_eq_true rfl) (c2 := 0) (s2 := 0) rfl rfl (by decide) (wc_c_addr E _ _) dn_XL_comes_4 ?_
  refine zy_eq (zy_ap1 _ _) ?_
  refine zz_i2l cx dn_XL_comes_7 ?_
  refine zz_last cx 0 2 rfl rfl zi_01 (ws2 := wo_e E o (vp_updL f 0 rv.toInt64) :: wc_c E G1) rfl dn_XL_comes_8 ?_
  refine zz_goto cx dn_XL_comes_9 (tgt := 15) (by decide) ?_
  refine zz_iconst cx dn_XL_comes_15 (v := (0 : Int32)) (by decide) ?_
  exact zz_iret cx cq (by decide) (by decide) dn_XL_comes_16
set_option maxHeartbeats 4000000 in
set_option maxRecDepth 100000 in
theorem zh_comes_t1 (E : ze_T) (o : Nat) (f : Nat → Int64) (G : gs_T) (x1 : Int32) (G1 : gs_T) (hl : (zF E).1.stackTraces = false) (h : cR_comes G x1 = some (.inr 1, G1)) : zc_w (zF E) (wo_e E o f :: wc_c E G) (wo_e E o f :: wc_c E G1) yn_XL_comes cn_XL_comes 4 [(0, 9, 12, 19)] { frames := 7, cells := 1, slots := 6, locals := 111 } [.ref (ad_p E 0), .int x1, .ref o] (1 : Int32) := by
  refine zc_w_of (by decide) rfl (Nat.le_of_ble_eq_true rfl) (fun X cx wx cq => ?_)
  refine zz_aload_n cx dn_XL_comes_0 rfl rfl ?_
  refine zz_iconst cx dn_XL_comes_1 (v := (0 : Int32)) (by decide) ?_
  refine zz_aload_n cx dn_XL_comes_2 rfl rfl ?_
  refine zz_iload_n cx dn_XL_comes_3 rfl rfl ?_
  refine zy_callT cx (wl := [wo_e E o f]) (wr := []) (As := [.int x1]) (rest := [.int (0 : Int32), .ref o]) wx (z_cR_comes_t E G x1 _ G1 hl h) (zy_ap0 _ _) zm_X0_comes zk_XL_45 zv_X0_comes 0 (ci := 0) rfl rfl (by decide) rfl (Nat.le_of_ble_eq_true rfl) (c2 := 1) (s2 := 6) rfl rfl (by decide) (wc_c_addr E _ _) dn_XL_comes_4 [] ⟨0, 9, 12, 19⟩ [] rfl (fun z hz => nomatch hz) (by decide) (by decide) (by decide) zk_XL_19 xq_1 (fun q9 => ?_)
  refine zy_eq (zy_ap1 _ _) ?_
  refine zz_astore_n cx dn_XL_comes_12 rfl (by decide) rfl ?_
  refine zz_iconst cx dn_XL_comes_13 (v := (1 : Int32)) (by decide) ?_
  exact zz_iret cx cq (by decide) (by decide) dn_XL_comes_14
set_option maxRecDepth 100000 in
theorem zw_fold : Cond.codeWith yn_XL_fold cn_XL_fold 5 (some .int) [(0, 10, 13, 21), (0, 10, 17, 19)] ∈ zt_ws := zt_m 577 rfl rfl
theorem zs_XL_fold : Cond.static yn_XL_fold ∈ zt_ws := zt_m 576 (by decide +kernel) (by decide +kernel)
set_option maxHeartbeats 4000000 in
set_option maxRecDepth 100000 in
theorem zh_fold_r (E : ze_T) (o : Nat) (f : Nat → Int64) (n : Nat) (G : gs_T) (x1 x2 : Int32) (rv : Int32) (G1 : gs_T) (h : cR_fold n G x1 x2 = some (.inl rv, G1)) : zc_w (zF E) (wo_e E o f :: wc_c E G) (wo_e E o (vp_updL f 0 rv.toInt64) :: wc_c E G1) yn_XL_fold cn_XL_fold 5 [(0, 10, 13, 21), (0, 10, 17, 19)] { frames := 5, cells := 0, slots := 0, locals := 116 } [.ref (ad_p E 0), .int x1, .int x2, .ref o] (0 : Int32) := by
  refine zc_w_of (by decide) rfl (Nat.le_of_ble_eq_true rfl) (fun X cx wx cq => ?_)
  refine zz_aload_n cx dn_XL_fold_0 rfl rfl ?_
  refine zz_iconst cx dn_XL_fold_1 (v := (0 : Int32)) (by decide) ?_
  refine zz_aload_n cx dn_XL_fold_2 rfl rfl ?_
  refine zz_iload_n cx dn_XL_fold_3 rfl rfl ?_
  refine zz_iload_n cx dn_XL_fold_4 rfl rfl ?_
  refine zy_callVi cx (wl := [wo_e E o f]) (wr := []) (As := [.int x1, .int x2]) (rest := [.int (0 : Int32), .ref o]) (z_cR_fold_r E n G x1 x2 rv G1 h) (zy_ap0 _ _) zm_X0_fold zk_XL_48 zv_X0_fold 0 (ci := 0) rfl rfl (by decide) rfl (Nat.le_of_ble_eq_true rfl) (c2 := 0) (s2 := 0) rfl rfl (by decide) (wc_c_addr E _ _) dn_XL_fold_5 ?_
  refine zy_eq (zy_ap1 _ _) ?_
  refine zz_i2l cx dn_XL_fold_8 ?_
  refine zz_last cx 0 2 rfl rfl zi_01 (ws2 := wo_e E o (vp_updL f 0 rv.toInt64) :: wc_c E G1) rfl dn_XL_fold_9 ?_
  refine zz_goto cx dn_XL_fold_10 (tgt := 21) (by decide) ?_
  refine zz_iconst cx dn_XL_fold_21 (v := (0 : Int32)) (by decide) ?_
  exact zz_iret cx cq (by decide) (by decide) dn_XL_fold_22
set_option maxHeartbeats 4000000 in
set_option maxRecDepth 100000 in
theorem zh_fold_t2 (E : ze_T) (o : Nat) (f : Nat → Int64) (n : Nat) (G : gs_T) (x1 x2 : Int32) (G1 : gs_T) (hl : (zF E).1.stackTraces = false) (h : cR_fold n G x1 x2 = some (.inr 2, G1)) : zc_w (zF E) (wo_e E o f :: wc_c E G) (wo_e E o f :: wc_c E G1) yn_XL_fold cn_XL_fold 5 [(0, 10, 13, 21), (0, 10, 17, 19)] { frames := 7, cells := 1, slots := 6, locals := 116 } [.ref (ad_p E 0), .int x1, .int x2, .ref o] (1 : Int32) := by
  refine zc_w_of (by decide) rfl (Nat.le_of_ble_eq_true rfl) (fun X cx wx cq => ?_)
  refine zz_aload_n cx dn_XL_fold_0 rfl rfl ?_
  refine zz_iconst cx dn_XL_fold_1 (v := (0 : Int32)) (by decide) ?_
  refine zz_aload_n cx dn_XL_fold_2 rfl rfl ?_
  refine zz_iload_n cx dn_XL_fold_3 rfl rfl ?_
  refine zz_iload_n cx dn_XL_fold_4 rfl rfl ?_
  refine zy_callT cx (wl := [wo_e E o f]) (wr := []) (As := [.int x1, .int x2]) (rest := [.int (0 : Int32), .ref o]) wx (z_cR_fold_t E n G x1 x2 _ G1 hl h) (zy_ap0 _ _) zm_X0_fold zk_XL_48 zv_X0_fold 0 (ci := 0) rfl rfl (by decide) rfl (Nat.le_of_ble_eq_true rfl) (c2 := 1) (s2 := 6) rfl rfl (by decide) (wc_c_addr E _ _) dn_XL_fold_5 [] ⟨0, 10, 13, 21⟩ [⟨0, 10, 17, 19⟩] rfl (fun z hz => nomatch hz) (by decide) (by decide) (by decide) zk_XL_21 xq_2 (fun q9 => ?_)
  refine zy_eq (zy_ap1 _ _) ?_
  refine zz_astore cx dn_XL_fold_13 (by decide) rfl ?_
  refine zz_iconst cx dn_XL_fold_15 (v := (1 : Int32)) (by decide) ?_
  exact zz_iret cx cq (by decide) (by decide) dn_XL_fold_16
set_option maxHeartbeats 4000000 in
set_option maxRecDepth 100000 in
theorem zh_fold_t1 (E : ze_T) (o : Nat) (f : Nat → Int64) (n : Nat) (G : gs_T) (x1 x2 : Int32) (G1 : gs_T) (hl : (zF E).1.stackTraces = false) (h : cR_fold n G x1 x2 = some (.inr 1, G1)) : zc_w (zF E) (wo_e E o f :: wc_c E G) (wo_e E o f :: wc_c E G1) yn_XL_fold cn_XL_fold 5 [(0, 10, 13, 21), (0, 10, 17, 19)] { frames := 7, cells := 1, slots := 6, locals := 116 } [.ref (ad_p E 0), .int x1, .int x2, .ref o] (2 : Int32) := by
  refine zc_w_of (by decide) rfl (Nat.le_of_ble_eq_true rfl) (fun X cx wx cq => ?_)
  refine zz_aload_n cx dn_XL_fold_0 rfl rfl ?_
  refine zz_iconst cx dn_XL_fold_1 (v := (0 : Int32)) (by decide) ?_
  refine zz_aload_n cx dn_XL_fold_2 rfl rfl ?_
  refine zz_iload_n cx dn_XL_fold_3 rfl rfl ?_
  refine zz_iload_n cx dn_XL_fold_4 rfl rfl ?_
  refine zy_callT cx (wl := [wo_e E o f]) (wr := []) (As := [.int x1, .int x2]) (rest := [.int (0 : Int32), .ref o]) wx (z_cR_fold_t E n G x1 x2 _ G1 hl h) (zy_ap0 _ _) zm_X0_fold zk_XL_48 zv_X0_fold 0 (ci := 0) rfl rfl (by decide) rfl (Nat.le_of_ble_eq_true rfl) (c2 := 1) (s2 := 6) rfl rfl (by decide) (wc_c_addr E _ _) dn_XL_fold_5 [⟨0, 10, 13, 21⟩] ⟨0, 10, 17, 19⟩ [] rfl (fun z hz => by obtain rfl := List.mem_singleton.mp hz; exact ⟨by decide, by decide, 2, by decide, by decide, zk_XL_21⟩) (by decide) (by decide) (by decide) zk_XL_19 xq_1 (fun q9 => ?_)
  refine zy_eq (zy_ap1 _ _) ?_
  refine zz_astore cx dn_XL_fold_17 (by decide) rfl ?_
  refine zz_iconst cx dn_XL_fold_19 (v := (2 : Int32)) (by decide) ?_
  exact zz_iret cx cq (by decide) (by decide) dn_XL_fold_20
set_option maxRecDepth 100000 in
theorem zw_folded : Cond.codeWith yn_XL_folded cn_XL_folded 5 (some .int) [(0, 10, 13, 19), (0, 10, 17, 21)] ∈ zt_ws := zt_m 625 rfl rfl
theorem zs_XL_folded : Cond.static yn_XL_folded ∈ zt_ws := zt_m 624 (by decide +kernel) (by decide +kernel)
set_option maxHeartbeats 4000000 in
set_option maxRecDepth 100000 in
theorem zh_folded_r (E : ze_T) (o : Nat) (f : Nat → Int64) (G : gs_T) (x1 x2 : Int32) (rv : Int32) (G1 : gs_T) (h : cR_folded G x1 x2 = some (.inl rv, G1)) : zc_w (zF E) (wo_e E o f :: wc_c E G) (wo_e E o (vp_updL f 0 rv.toInt64) :: wc_c E G1) yn_XL_folded cn_XL_folded 5 [(0, 10, 13, 19), (0, 10, 17, 21)] { frames := 1, cells := 0, slots := 0, locals := 22 } [.ref (ad_p E 0), .int x1, .int x2, .ref o] (0 : Int32) := by
  refine zc_w_of (by decide) rfl (Nat.le_of_ble_eq_true rfl) (fun X cx wx cq => ?_)
  refine zz_aload_n cx dn_XL_folded_0 rfl rfl ?_
  refine zz_iconst cx dn_XL_folded_1 (v := (0 : Int32)) (by decide) ?_
  refine zz_aload_n cx dn_XL_folded_2 rfl rfl ?_
  refine zz_iload_n cx dn_XL_folded_3 rfl rfl ?_
  refine zz_iload_n cx dn_XL_folded_4 rfl rfl ?_
  refine zy_callVi cx (wl := [wo_e E o f]) (wr := []) (As := [.int x1, .int x2]) (rest := [.int (0 : Int32), .ref o]) (z_cR_folded_r E G x1 x2 rv G1 h) (zy_ap0 _ _) zm_X0_folded zk_XL_51 zv_X0_folded 0 (ci := 0) rfl rfl (by decide) rfl (Nat.le_of_ble_eq_true rfl) (c2 := 0) (s2 := 0) rfl rfl (by decide) (wc_c_addr E _ _) dn_XL_folded_5 ?_
  refine zy_eq (zy_ap1 _ _) ?_
  refine zz_i2l cx dn_XL_folded_8 ?_
  refine zz_last cx 0 2 rfl rfl zi_01 (ws2 := wo_e E o (vp_updL f 0 rv.toInt64) :: wc_c E G1) rfl dn_XL_folded_9 ?_
  refine zz_goto cx dn_XL_folded_10 (tgt := 21) (by decide) ?_
  refine zz_iconst cx dn_XL_folded_21 (v := (0 : Int32)) (by decide) ?_
  exact zz_iret cx cq (by decide) (by decide) dn_XL_folded_22
set_option maxHeartbeats 4000000 in
set_option maxRecDepth 100000 in
theorem zh_folded_t1 (E : ze_T) (o : Nat) (f : Nat → Int64) (G : gs_T) (x1 x2 : Int32) (G1 : gs_T) (hl : (zF E).1.stackTraces = false) (h : cR_folded G x1 x2 = some (.inr 1, G1)) : zc_w (zF E) (wo_e E o f :: wc_c E G) (wo_e E o f :: wc_c E G1) yn_XL_folded cn_XL_folded 5 [(0, 10, 13, 19), (0, 10, 17, 21)] { frames := 7, cells := 1, slots := 6, locals := 112 } [.ref (ad_p E 0), .int x1, .int x2, .ref o] (1 : Int32) := by
  refine zc_w_of (by decide) rfl (Nat.le_of_ble_eq_true rfl) (fun X cx wx cq => ?_)
  refine zz_aload_n cx dn_XL_folded_0 rfl rfl ?_
  refine zz_iconst cx dn_XL_folded_1 (v := (0 : Int32)) (by decide) ?_
  refine zz_aload_n cx dn_XL_folded_2 rfl rfl ?_
  refine zz_iload_n cx dn_XL_folded_3 rfl rfl ?_
  refine zz_iload_n cx dn_XL_folded_4 rfl rfl ?_
  refine zy_callT cx (wl := [wo_e E o f]) (wr := []) (As := [.int x1, .int x2]) (rest := [.int (0 : Int32), .ref o]) wx (z_cR_folded_t E G x1 x2 _ G1 hl h) (zy_ap0 _ _) zm_X0_folded zk_XL_51 zv_X0_folded 0 (ci := 0) rfl rfl (by decide) rfl (Nat.le_of_ble_eq_true rfl) (c2 := 1) (s2 := 6) rfl rfl (by decide) (wc_c_addr E _ _) dn_XL_folded_5 [] ⟨0, 10, 13, 19⟩ [⟨0, 10, 17, 21⟩] rfl (fun z hz => nomatch hz) (by decide) (by decide) (by decide) zk_XL_19 xq_1 (fun q9 => ?_)
  refine zy_eq (zy_ap1 _ _) ?_
  refine zz_astore cx dn_XL_folded_13 (by decide) rfl ?_
  refine zz_iconst cx dn_XL_folded_15 (v := (1 : Int32)) (by decide) ?_
  exact zz_iret cx cq (by decide) (by decide) dn_XL_folded_16
set_option maxHeartbeats 4000000 in
set_option maxRecDepth 100000 in
theorem zh_folded_t2 (E : ze_T) (o : Nat) (f : Nat → Int64) (G : gs_T) (x1 x2 : Int32) (G1 : gs_T) (hl : (zF E).1.stackTraces = false) (h : cR_folded G x1 x2 = some (.inr 2, G1)) : zc_w (zF E) (wo_e E o f :: wc_c E G) (wo_e E o f :: wc_c E G1) yn_XL_folded cn_XL_folded 5 [(0, 10, 13, 19), (0, 10, 17, 21)] { frames := 7, cells := 1, slots := 6, locals := 112 } [.ref (ad_p E 0), .int x1, .int x2, .ref o] (2 : Int32) := by
  refine zc_w_of (by decide) rfl (Nat.le_of_ble_eq_true rfl) (fun X cx wx cq => ?_)
  refine zz_aload_n cx dn_XL_folded_0 rfl rfl ?_
  refine zz_iconst cx dn_XL_folded_1 (v := (0 : Int32)) (by decide) ?_
  refine zz_aload_n cx dn_XL_folded_2 rfl rfl ?_
  refine zz_iload_n cx dn_XL_folded_3 rfl rfl ?_
  refine zz_iload_n cx dn_XL_folded_4 rfl rfl ?_
  refine zy_callT cx (wl := [wo_e E o f]) (wr := []) (As := [.int x1, .int x2]) (rest := [.int (0 : Int32), .ref o]) wx (z_cR_folded_t E G x1 x2 _ G1 hl h) (zy_ap0 _ _) zm_X0_folded zk_XL_51 zv_X0_folded 0 (ci := 0) rfl rfl (by decide) rfl (Nat.le_of_ble_eq_true rfl) (c2 := 1) (s2 := 6) rfl rfl (by decide) (wc_c_addr E _ _) dn_XL_folded_5 [⟨0, 10, 13, 19⟩] ⟨0, 10, 17, 21⟩ [] rfl (fun z hz => by obtain rfl := List.mem_singleton.mp hz; exact ⟨by decide, by decide, 1, by decide, by decide, zk_XL_19⟩) (by decide) (by decide) (by decide) zk_XL_21 xq_2 (fun q9 => ?_)
  refine zy_eq (zy_ap1 _ _) ?_
  refine zz_astore cx dn_XL_folded_17 (by decide) rfl ?_
  refine zz_iconst cx dn_XL_folded_19 (v := (2 : Int32)) (by decide) ?_
  exact zz_iret cx cq (by decide) (by decide) dn_XL_folded_20
set_option maxRecDepth 100000 in
theorem zw_told : Cond.codeWith yn_XL_told cn_XL_told 4 (some .int) [(0, 9, 12, 21)] ∈ zt_ws := zt_m 634 rfl rfl
theorem zs_XL_told : Cond.static yn_XL_told ∈ zt_ws := zt_m 633 (by decide +kernel) (by decide +kernel)
set_option maxHeartbeats 4000000 in
set_option maxRecDepth 100000 in
theorem zh_told_r (E : ze_T) (o : Nat) (f : Nat → Int64) (G : gs_T) (x1 : Int32) (rv : Int32) (G1 : gs_T) (h : cR_told G x1 = some (.inl rv, G1)) : zc_w (zF E) (wo_e E o f :: wc_c E G) (wo_e E o (vp_updL f 0 rv.toInt64) :: wc_c E G1) yn_XL_told cn_XL_told 4 [(0, 9, 12, 21)] { frames := 1, cells := 0, slots := 0, locals := 21 } [.ref (ad_p E 0), .int x1, .ref o] (0 : Int32) := by
  refine zc_w_of (by decide) rfl (Nat.le_of_ble_eq_true rfl) (fun X cx wx cq => ?_)
  refine zz_aload_n cx dn_XL_told_0 rfl rfl ?_
  refine zz_iconst cx dn_XL_told_1 (v := (0 : Int32)) (by decide) ?_
  refine zz_aload_n cx dn_XL_told_2 rfl rfl ?_
  refine zz_iload_n cx dn_XL_told_3 rfl rfl ?_
  refine zy_callVi cx (wl := [wo_e E o f]) (wr := []) (As := [.int x1]) (rest := [.int (0 : Int32), .ref o]) (z_cR_told_r E G x1 rv G1 h) (zy_ap0 _ _) zm_X0_told zk_XL_54 zv_X0_told 0 (ci := 0) rfl rfl (by decide) rfl (Nat.le_of_ble_eq_true rfl) (c2 := 0) (s2 := 0) rfl rfl (by decide) (wc_c_addr E _ _) dn_XL_told_4 ?_
  refine zy_eq (zy_ap1 _ _) ?_
  refine zz_i2l cx dn_XL_told_7 ?_
  refine zz_last cx 0 2 rfl rfl zi_01 (ws2 := wo_e E o (vp_updL f 0 rv.toInt64) :: wc_c E G1) rfl dn_XL_told_8 ?_
  refine zz_goto cx dn_XL_told_9 (tgt := 15) (by decide) ?_
  refine zz_iconst cx dn_XL_told_15 (v := (0 : Int32)) (by decide) ?_
  exact zz_iret cx cq (by decide) (by decide) dn_XL_told_16
set_option maxHeartbeats 4000000 in
set_option maxRecDepth 100000 in
theorem zh_told_t2 (E : ze_T) (o : Nat) (f : Nat → Int64) (G : gs_T) (x1 : Int32) (G1 : gs_T) (hl : (zF E).1.stackTraces = false) (h : cR_told G x1 = some (.inr 2, G1)) : zc_w (zF E) (wo_e E o f :: wc_c E G) (wo_e E o f :: wc_c E G1) yn_XL_told cn_XL_told 4 [(0, 9, 12, 21)] { frames := 7, cells := 1, slots := 6, locals := 111 } [.ref (ad_p E 0), .int x1, .ref o] (1 : Int32) := by
  refine zc_w_of (by decide) rfl (Nat.le_of_ble_eq_true rfl) (fun X cx wx cq => ?_)
  refine zz_aload_n cx dn_XL_told_0 rfl rfl ?_
  refine zz_iconst cx dn_XL_told_1 (v := (0 : Int32)) (by decide) ?_
  refine zz_aload_n cx dn_XL_told_2 rfl rfl ?_
  refine zz_iload_n cx dn_XL_told_3 rfl rfl ?_
  refine zy_callT cx (wl := [wo_e E o f]) (wr := []) (As := [.int x1]) (rest := [.int (0 : Int32), .ref o]) wx (z_cR_told_t E G x1 _ G1 hl h) (zy_ap0 _ _) zm_X0_told zk_XL_54 zv_X0_told 0 (ci := 0) rfl rfl (by decide) rfl (Nat.le_of_ble_eq_true rfl) (c2 := 1) (s2 := 6) rfl rfl (by decide) (wc_c_addr E _ _) dn_XL_told_4 [] ⟨0, 9, 12, 21⟩ [] rfl (fun z hz => nomatch hz) (by decide) (by decide) (by decide) zk_XL_21 xq_2 (fun q9 => ?_)
  refine zy_eq (zy_ap1 _ _) ?_
  refine zz_astore_n cx dn_XL_told_12 rfl (by decide) rfl ?_
  refine zz_iconst cx dn_XL_told_13 (v := (1 : Int32)) (by decide) ?_
  exact zz_iret cx cq (by decide) (by decide) dn_XL_told_14
