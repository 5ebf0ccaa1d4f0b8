set_option maxHeartbeats 4000000 in
set_option maxRecDepth 100000 in
theorem z_mM_thrown (E : ze_T) (G : gs_T) (r : Int32) (h : mM_thrown G = some r) : zc_i (zF E) (wc_m E G) (wc_m E G) yn_X4_thrown cn_X4_thrown 1 .int { frames := 0, cells := 0, slots := 0, locals := 0 } [.ref (ad_p E 0)] r := by
  unfold mM_thrown at h
  refine zc_i_of (by decide) rfl (Nat.le_of_ble_eq_true rfl) (fun X cx cq => ?_)
  refine zz_aload_n cx dn_X4_thrown_0 rfl rfl ?_
  refine zz_get cx zi_X4 (v := .int (G.1 0)) (ci := 4) rfl 0 0 rfl (by decide) zk_X4_99 rfl dn_X4_thrown_1 ?_
  obtain rfl := Option.some.inj h
  exact zz_iret cx cq (by decide) (by decide) dn_X4_thrown_4
set_option maxHeartbeats 4000000 in
set_option maxRecDepth 100000 in
theorem z_mM_refuses (E : ze_T) (G : gs_T) (x1 x2 x3 : Int32) (r : (Int32 × gs_T)) (h : mM_refuses G x1 x2 x3 = some r) : zc_i (zF E) (wc_m E G) (wc_m E r.2) yn_X4_refuses cn_X4_refuses 4 .boolean { frames := 0, cells := 0, slots := 0, locals := 0 } [.ref (ad_p E 0), .int x1, .int x2, .int x3] r.1 := by
  unfold mM_refuses at h
  refine zc_i_of (by decide) rfl (Nat.le_of_ble_eq_true rfl) (fun X cx cq => ?_)
  refine zz_aload_n cx dn_X4_refuses_0 rfl rfl ?_
  refine zz_iload_n cx dn_X4_refuses_1 rfl rfl ?_
  refine zz_if_eq cx (tgt := 9) dn_X4_refuses_2 (by decide) h (fun h => ?_) (fun h => ?_)
  · refine zz_iload_n cx dn_X4_refuses_9 rfl rfl ?_
    refine zz_if_eq cx (tgt := 17) dn_X4_refuses_10 (by decide) h (fun h => ?_) (fun h => ?_)
    · refine zz_iload_n cx dn_X4_refuses_17 rfl rfl ?_
      refine zz_if_eq cx (tgt := 25) dn_X4_refuses_18 (by decide) h (fun h => ?_) (fun h => ?_)
      · refine zz_iconst cx dn_X4_refuses_25 (v := (0 : Int32)) (by decide) ?_
        refine zz_put cx (ws2 := (wc_m E (gs_sv G 0 (0 : Int32)))) (ty := .int) (ci := 4) zi_X4 fk_X4 nm_X4 rfl 0 0 rfl (by decide) zk_X4_99 rfl (by decide +kernel) rfl rfl (Nat.le_of_ble_eq_true rfl) (wc_m_s0 E _ _) dn_X4_refuses_26 ?_
        refine zz_aload_n cx dn_X4_refuses_29 rfl rfl ?_
        refine zz_get cx zi_X4 (v := .int (0 : Int32)) (ci := 4) rfl 0 0 rfl (by decide) zk_X4_99 rfl dn_X4_refuses_30 ?_
        refine zz_if_le_t cx (tgt := 40) dn_X4_refuses_33 (by decide) (by decide) ?_
        refine zz_iconst cx dn_X4_refuses_40 (v := (0 : Int32)) (by decide) ?_
        obtain rfl := Option.some.inj h
        exact zz_zret cx cq rfl (by decide) (by decide) dn_X4_refuses_41
      · refine zz_iconst cx dn_X4_refuses_21 (v := (3 : Int32)) (by decide) ?_
        refine zz_goto cx dn_X4_refuses_22 (tgt := 26) (by decide) ?_
        refine zz_put cx (ws2 := (wc_m E (gs_sv G 0 (3 : Int32)))) (ty := .int) (ci := 4) zi_X4 fk_X4 nm_X4 rfl 0 0 rfl (by decide) zk_X4_99 rfl (by decide +kernel) rfl rfl (Nat.le_of_ble_eq_true rfl) (wc_m_s0 E _ _) dn_X4_refuses_26 ?_
        refine zz_aload_n cx dn_X4_refuses_29 rfl rfl ?_
        refine zz_get cx zi_X4 (v := .int (3 : Int32)) (ci := 4) rfl 0 0 rfl (by decide) zk_X4_99 rfl dn_X4_refuses_30 ?_
        refine zz_if_le_f cx (tgt := 40) dn_X4_refuses_33 (by decide) (by decide) ?_
        refine zz_iconst cx dn_X4_refuses_36 (v := (1 : Int32)) (by decide) ?_
        refine zz_goto cx dn_X4_refuses_37 (tgt := 41) (by decide) ?_
        obtain rfl := Option.some.inj h
        exact zz_zret cx cq rfl (by decide) (by decide) dn_X4_refuses_41
    · refine zz_iconst cx dn_X4_refuses_13 (v := (2 : Int32)) (by decide) ?_
      refine zz_goto cx dn_X4_refuses_14 (tgt := 26) (by decide) ?_
      refine zz_put cx (ws2 := (wc_m E (gs_sv G 0 (2 : Int32)))) (ty := .int) (ci := 4) zi_X4 fk_X4 nm_X4 rfl 0 0 rfl (by decide) zk_X4_99 rfl (by decide +kernel) rfl rfl (Nat.le_of_ble_eq_true rfl) (wc_m_s0 E _ _) dn_X4_refuses_26 ?_
      refine zz_aload_n cx dn_X4_refuses_29 rfl rfl ?_
      refine zz_get cx zi_X4 (v := .int (2 : Int32)) (ci := 4) rfl 0 0 rfl (by decide) zk_X4_99 rfl dn_X4_refuses_30 ?_
      refine zz_if_le_f cx (tgt := 40) dn_X4_refuses_33 (by decide) (by decide) ?_
      refine zz_iconst cx dn_X4_refuses_36 (v := (1 : Int32)) (by decide) ?_
      refine zz_goto cx dn_X4_refuses_37 (tgt := 41) (by decide) ?_
      obtain rfl := Option.some.inj h
      exact zz_zret cx cq rfl (by decide) (by decide) dn_X4_refuses_41
  · refine zz_iconst cx dn_X4_refuses_5 (v := (1 : Int32)) (by decide) ?_
    refine zz_goto cx dn_X4_refuses_6 (tgt := 26) (by decide) ?_
    refine zz_put cx (ws2 := (wc_m E (gs_sv G 0 (1 : Int32)))) (ty := .int) (ci := 4) zi_X4 fk_X4 nm_X4 rfl 0 0 rfl (by decide) zk_X4_99 rfl (by decide +kernel) rfl rfl (Nat.le_of_ble_eq_true rfl) (wc_m_s0 E _ _) dn_X4_refuses_26 ?_
    refine zz_aload_n cx dn_X4_refuses_29 rfl rfl ?_
    refine zz_get cx zi_X4 (v := .int (1 : Int32)) (ci := 4) rfl 0 0 rfl (by decide) zk_X4_99 rfl dn_X4_refuses_30 ?_
    refine zz_if_le_f cx (tgt := 40) dn_X4_refuses_33 (by decide) (by decide) ?_
    refine zz_iconst cx dn_X4_refuses_36 (v := (1 : Int32)) (by decide) ?_
    refine zz_goto cx dn_X4_refuses_37 (tgt := 41) (by decide) ?_
    obtain rfl := Option.some.inj h
    exact zz_zret cx cq rfl (by decide) (by decide) dn_X4_refuses_41
set_option maxHeartbeats 4000000 in
set_option maxRecDepth 100000 in
theorem z_mM_isBar (E : ze_T) (G : gs_T) (x1 : Int32) (r : Int32) (h : mM_isBar G x1 = some r) : zc_i (zF E) (wc_m E G) (wc_m E G) yn_X4_isBar cn_X4_isBar 2 .boolean { frames := 0, cells := 0, slots := 0, locals := 0 } [.ref (ad_p E 0), .int x1] r := by
  unfold mM_isBar at h
  refine zc_i_of (by decide) rfl (Nat.le_of_ble_eq_true rfl) (fun X cx cq => ?_)
  refine zz_iload_n cx dn_X4_isBar_0 rfl rfl ?_
  refine zz_if_lt cx (tgt := 16) dn_X4_isBar_1 (by decide) h (fun h => ?_) (fun h => ?_)
  · refine zz_iconst cx dn_X4_isBar_16 (v := (0 : Int32)) (by decide) ?_
    obtain rfl := Option.some.inj h
    exact zz_zret cx cq rfl (by decide) (by decide) dn_X4_isBar_17
  · refine zz_iload_n cx dn_X4_isBar_4 rfl rfl ?_
    refine zz_aload_n cx dn_X4_isBar_5 rfl rfl ?_
    refine zz_get cx zi_X4 (v := .int (G.1 1)) (ci := 4) rfl 0 1 rfl (by decide) zk_X4_102 rfl dn_X4_isBar_6 ?_
    refine zz_icmp_ge cx (tgt := 16) dn_X4_isBar_9 (by decide) h (fun h => ?_) (fun h => ?_)
    · refine zz_iconst cx dn_X4_isBar_16 (v := (0 : Int32)) (by decide) ?_
      obtain rfl := Option.some.inj h
      exact zz_zret cx cq rfl (by decide) (by decide) dn_X4_isBar_17
    · refine zz_iconst cx dn_X4_isBar_12 (v := (1 : Int32)) (by decide) ?_
      refine zz_goto cx dn_X4_isBar_13 (tgt := 17) (by decide) ?_
      obtain rfl := Option.some.inj h
      exact zz_zret cx cq rfl (by decide) (by decide) dn_X4_isBar_17
set_option maxHeartbeats 4000000 in
set_option maxRecDepth 100000 in
theorem z_mM_bar_j15 (E : ze_T) (G : gs_T) (x1 s0 : Int32) (r : (Int32 × gs_T)) (X : zx_T) (cx : zx (zF E) X cn_X4_bar yn_X4_bar.cls { frames := 1, cells := 0, slots := 0, locals := 23 } 2) (cq : zq_i (zF E) X (wc_m E r.2) .int r.1) (h : mM_bar_j15 G x1 s0 = some r) : zj (zF E) X 0 0 (wc_m E G) 15 [some (.ref (ad_p E 0)), some (.int x1)] [.int s0, .ref (ad_p E 0)] := by
  unfold mM_bar_j15 at h
  refine zz_iconst cx dn_X4_bar_15 (v := (0 : Int32)) (by decide) ?_
  refine zz_iconst cx dn_X4_bar_16 (v := (0 : Int32)) (by decide) ?_
  refine gs_bind h (fun q1 e_q1 h => ?_)
  refine zz_callVi cx (As := [.int s0, .int (0 : Int32), .int (0 : Int32)]) (rest := []) (c2 := 0) (s2 := 0) (z_mM_refuses E G s0 (0 : Int32) (0 : Int32) _ e_q1) zm_X4_refuses zk_X4_105 zv_X4_refuses 0 rfl rfl (by decide) rfl (Nat.le_of_ble_eq_true rfl) rfl rfl (by decide) (wc_m_addr E _ _) dn_X4_bar_17 ?_
  refine zz_if_eq cx (tgt := 25) dn_X4_bar_20 (by decide) h (fun h => ?_) (fun h => ?_)
  · refine zz_aload_n cx dn_X4_bar_25 rfl rfl ?_
    refine zz_get cx zi_X4 (v := .ref (ad_p E 1)) (ci := 4) rfl 0 2 rfl (by decide) zk_X4_7 rfl dn_X4_bar_26 ?_
    refine zz_aload_n cx dn_X4_bar_29 rfl rfl ?_
    refine zz_get cx zi_X4 (v := .int (q1.2.1 1)) (ci := 4) rfl 0 1 rfl (by decide) zk_X4_102 rfl dn_X4_bar_30 ?_
    refine zz_iload_n cx dn_X4_bar_33 rfl rfl ?_
    refine zz_iast cx 1 0 rfl rfl h (ws2 := (wc_m E (gs_sa q1.2 0 (q1.2.1 1) x1))) (wc_m_a0 E _ _ _) dn_X4_bar_34 (fun h => ?_)
    refine zz_aload_n cx dn_X4_bar_35 rfl rfl ?_
    refine zz_dup cx dn_X4_bar_36 rfl ?_
    refine zz_get cx zi_X4 (v := .int (q1.2.1 1)) (ci := 4) rfl 0 1 rfl (by decide) zk_X4_102 rfl dn_X4_bar_37 ?_
    refine zz_iconst cx dn_X4_bar_40 (v := (1 : Int32)) (by decide) ?_
    refine zz_iadd cx dn_X4_bar_41 ?_
    refine zz_put cx (ws2 := (wc_m E (gs_sv (gs_sa q1.2 0 (q1.2.1 1) x1) 1 ((q1.2.1 1) + (1 : Int32))))) (ty := .int) (ci := 4) zi_X4 fk_X4 nm_X4 rfl 0 1 rfl (by decide) zk_X4_102 rfl (by decide +kernel) rfl rfl (Nat.le_of_ble_eq_true rfl) (wc_m_s1 E _ _) dn_X4_bar_42 ?_
    refine zz_aload_n cx dn_X4_bar_45 rfl rfl ?_
    refine zz_get cx zi_X4 (v := .int ((q1.2.1 1) + (1 : Int32))) (ci := 4) rfl 0 1 rfl (by decide) zk_X4_102 rfl dn_X4_bar_46 ?_
    refine zz_iconst cx dn_X4_bar_49 (v := (1 : Int32)) (by decide) ?_
    refine zz_isub cx dn_X4_bar_50 ?_
    obtain rfl := Option.some.inj h
    exact zz_iret cx cq (by decide) (by decide) dn_X4_bar_51
  · refine zz_iconst cx dn_X4_bar_23 (v := (0 : Int32)) (by decide) ?_
    obtain rfl := Option.some.inj h
    exact zz_iret cx cq (by decide) (by decide) dn_X4_bar_24
set_option maxHeartbeats 4000000 in
set_option maxRecDepth 100000 in
theorem z_mM_bar (E : ze_T) (G : gs_T) (x1 : Int32) (r : (Int32 × gs_T)) (h : mM_bar G x1 = some r) : zc_i (zF E) (wc_m E G) (wc_m E r.2) yn_X4_bar cn_X4_bar 2 .int { frames := 1, cells := 0, slots := 0, locals := 23 } [.ref (ad_p E 0), .int x1] r.1 := by
  unfold mM_bar at h
  refine zc_i_of (by decide) rfl (Nat.le_of_ble_eq_true rfl) (fun X cx cq => ?_)
  refine zz_aload_n cx dn_X4_bar_0 rfl rfl ?_
  refine zz_aload_n cx dn_X4_bar_1 rfl rfl ?_
  refine zz_get cx zi_X4 (v := .int (G.1 1)) (ci := 4) rfl 0 1 rfl (by decide) zk_X4_102 rfl dn_X4_bar_2 ?_
  refine zz_bipush cx dn_X4_bar_5 (v := (60 : Int32)) (by decide) ?_
  refine zz_icmp_ne cx (tgt := 14) dn_X4_bar_7 (by decide) h (fun h => ?_) (fun h => ?_)
  · refine zz_iconst cx dn_X4_bar_10 (v := (1 : Int32)) (by decide) ?_
    refine zz_goto cx dn_X4_bar_11 (tgt := 15) (by decide) ?_
    exact z_mM_bar_j15 E G x1 (1 : Int32) _ X cx cq h
  · refine zz_iconst cx dn_X4_bar_14 (v := (0 : Int32)) (by decide) ?_
    exact z_mM_bar_j15 E G x1 (0 : Int32) _ X cx cq h
set_option maxHeartbeats 4000000 in
set_option maxRecDepth 100000 in
theorem z_mM_isApart (E : ze_T) (G : gs_T) (x0 x1 x2 x3 : Int32) (r : Int32) (h : mM_isApart G x0 x1 x2 x3 = some r) : zc_i (zF E) (wc_m E G) (wc_m E G) yn_X4_isApart cn_X4_isApart 4 .boolean { frames := 0, cells := 0, slots := 0, locals := 0 } [.int x0, .int x1, .int x2, .int x3] r := by
  unfold mM_isApart at h
  refine zc_i_of (by decide) rfl (Nat.le_of_ble_eq_true rfl) (fun X cx cq => ?_)
  refine zz_iload_n cx dn_X4_isApart_0 rfl rfl ?_
  refine zz_iload_n cx dn_X4_isApart_1 rfl rfl ?_
  refine zz_icmp_lt cx (tgt := 10) dn_X4_isApart_2 (by decide) h (fun h => ?_) (fun h => ?_)
  · refine zz_iconst cx dn_X4_isApart_10 (v := (1 : Int32)) (by decide) ?_
    refine zz_goto cx dn_X4_isApart_11 (tgt := 15) (by decide) ?_
    obtain rfl := Option.some.inj h
    exact zz_zret cx cq rfl (by decide) (by decide) dn_X4_isApart_15
  · refine zz_iload_n cx dn_X4_isApart_5 rfl rfl ?_
    refine zz_iload_n cx dn_X4_isApart_6 rfl rfl ?_
    refine zz_icmp_ge cx (tgt := 14) dn_X4_isApart_7 (by decide) h (fun h => ?_) (fun h => ?_)
    · refine zz_iconst cx dn_X4_isApart_14 (v := (0 : Int32)) (by decide) ?_
      obtain rfl := Option.some.inj h
      exact zz_zret cx cq rfl (by decide) (by decide) dn_X4_isApart_15
    · refine zz_iconst cx dn_X4_isApart_10 (v := (1 : Int32)) (by decide) ?_
      refine zz_goto cx dn_X4_isApart_11 (tgt := 15) (by decide) ?_
      obtain rfl := Option.some.inj h
      exact zz_zret cx cq rfl (by decide) (by decide) dn_X4_isApart_15
set_option maxHeartbeats 4000000 in
set_option maxRecDepth 100000 in
theorem z_mM_isWithin (E : ze_T) (G : gs_T) (x0 x1 x2 x3 : Int32) (r : Int32) (h : mM_isWithin G x0 x1 x2 x3 = some r) : zc_i (zF E) (wc_m E G) (wc_m E G) yn_X4_isWithin cn_X4_isWithin 4 .boolean { frames := 0, cells := 0, slots := 0, locals := 0 } [.int x0, .int x1, .int x2, .int x3] r := by
  unfold mM_isWithin at h
  refine zc_i_of (by decide) rfl (Nat.le_of_ble_eq_true rfl) (fun X cx cq => ?_)
  refine zz_iload_n cx dn_X4_isWithin_0 rfl rfl ?_
  refine zz_iload_n cx dn_X4_isWithin_1 rfl rfl ?_
  refine zz_icmp_lt cx (tgt := 14) dn_X4_isWithin_2 (by decide) h (fun h => ?_) (fun h => ?_)
  · refine zz_iconst cx dn_X4_isWithin_14 (v := (0 : Int32)) (by decide) ?_
    obtain rfl := Option.some.inj h
    exact zz_zret cx cq rfl (by decide) (by decide) dn_X4_isWithin_15
  · refine zz_iload_n cx dn_X4_isWithin_5 rfl rfl ?_
    refine zz_iload_n cx dn_X4_isWithin_6 rfl rfl ?_
    refine zz_icmp_gt cx (tgt := 14) dn_X4_isWithin_7 (by decide) h (fun h => ?_) (fun h => ?_)
    · refine zz_iconst cx dn_X4_isWithin_14 (v := (0 : Int32)) (by decide) ?_
      obtain rfl := Option.some.inj h
      exact zz_zret cx cq rfl (by decide) (by decide) dn_X4_isWithin_15
    · refine zz_iconst cx dn_X4_isWithin_10 (v := (1 : Int32)) (by decide) ?_
      refine zz_goto cx dn_X4_isWithin_11 (tgt := 15) (by decide) ?_
      obtain rfl := Option.some.inj h
      exact zz_zret cx cq rfl (by decide) (by decide) dn_X4_isWithin_15
set_option maxHeartbeats 4000000 in
set_option maxRecDepth 100000 in
theorem z_mM_liesWell (E : ze_T) (G : gs_T) (x0 x1 x2 x3 : Int32) (r : Int32) (h : mM_liesWell G x0 x1 x2 x3 = some r) : zc_i (zF E) (wc_m E G) (wc_m E G) yn_X4_liesWell cn_X4_liesWell 4 .boolean { frames := 1, cells := 0, slots := 0, locals := 23 } [.int x0, .int x1, .int x2, .int x3] r := by
  unfold mM_liesWell at h
  refine zc_i_of (by decide) rfl (Nat.le_of_ble_eq_true rfl) (fun X cx cq => ?_)
  refine zz_iload_n cx dn_X4_liesWell_0 rfl rfl ?_
  refine zz_iload_n cx dn_X4_liesWell_1 rfl rfl ?_
  refine zz_iload_n cx dn_X4_liesWell_2 rfl rfl ?_
  refine zz_iload_n cx dn_X4_liesWell_3 rfl rfl ?_
  refine gs_bind h (fun q1 e_q1 h => ?_)
  refine zz_callSi cx (As := [.int x0, .int x1, .int x2, .int x3]) (rest := []) (c2 := 0) (s2 := 0) (z_mM_isApart E G x0 x1 x2 x3 _ e_q1) zm_X4_isApart zk_X4_109 zs_X4_isApart (by decide) rfl (Nat.le_of_ble_eq_true rfl) rfl rfl (by decide) (wc_m_addr E _ _) dn_X4_liesWell_4 ?_
  refine zz_if_ne cx (tgt := 30) dn_X4_liesWell_7 (by decide) h (fun h => ?_) (fun h => ?_)
  · refine zz_iload_n cx dn_X4_liesWell_10 rfl rfl ?_
    refine zz_iload_n cx dn_X4_liesWell_11 rfl rfl ?_
    refine zz_iload_n cx dn_X4_liesWell_12 rfl rfl ?_
    refine zz_iload_n cx dn_X4_liesWell_13 rfl rfl ?_
    refine gs_bind h (fun q2 e_q2 h => ?_)
    refine zz_callSi cx (As := [.int x0, .int x1, .int x2, .int x3]) (rest := []) (c2 := 0) (s2 := 0) (z_mM_isWithin E G x0 x1 x2 x3 _ e_q2) zm_X4_isWithin zk_X4_113 zs_X4_isWithin (by decide) rfl (Nat.le_of_ble_eq_true rfl) rfl rfl (by decide) (wc_m_addr E _ _) dn_X4_liesWell_14 ?_
    refine zz_if_ne cx (tgt := 30) dn_X4_liesWell_17 (by decide) h (fun h => ?_) (fun h => ?_)
    · refine zz_iload_n cx dn_X4_liesWell_20 rfl rfl ?_
      refine zz_iload_n cx dn_X4_liesWell_21 rfl rfl ?_
      refine zz_iload_n cx dn_X4_liesWell_22 rfl rfl ?_
      refine zz_iload_n cx dn_X4_liesWell_23 rfl rfl ?_
      refine gs_bind h (fun q3 e_q3 h => ?_)
      refine zz_callSi cx (As := [.int x2, .int x3, .int x0, .int x1]) (rest := []) (c2 := 0) (s2 := 0) (z_mM_isWithin E G x2 x3 x0 x1 _ e_q3) zm_X4_isWithin zk_X4_113 zs_X4_isWithin (by decide) rfl (Nat.le_of_ble_eq_true rfl) rfl rfl (by decide) (wc_m_addr E _ _) dn_X4_liesWell_24 ?_
      refine zz_if_eq cx (tgt := 34) dn_X4_liesWell_27 (by decide) h (fun h => ?_) (fun h => ?_)
      · refine zz_iconst cx dn_X4_liesWell_34 (v := (0 : Int32)) (by decide) ?_
        obtain rfl := Option.some.inj h
        exact zz_zret cx cq rfl (by decide) (by decide) dn_X4_liesWell_35
      · refine zz_iconst cx dn_X4_liesWell_30 (v := (1 : Int32)) (by decide) ?_
        refine zz_goto cx dn_X4_liesWell_31 (tgt := 35) (by decide) ?_
        obtain rfl := Option.some.inj h
        exact zz_zret cx cq rfl (by decide) (by decide) dn_X4_liesWell_35
    · refine zz_iconst cx dn_X4_liesWell_30 (v := (1 : Int32)) (by decide) ?_
      refine zz_goto cx dn_X4_liesWell_31 (tgt := 35) (by decide) ?_
      obtain rfl := Option.some.inj h
      exact zz_zret cx cq rfl (by decide) (by decide) dn_X4_liesWell_35
  · refine zz_iconst cx dn_X4_liesWell_30 (v := (1 : Int32)) (by decide) ?_
    refine zz_goto cx dn_X4_liesWell_31 (tgt := 35) (by decide) ?_
    obtain rfl := Option.some.inj h
    exact zz_zret cx cq rfl (by decide) (by decide) dn_X4_liesWell_35
set_option maxHeartbeats 4000000 in
set_option maxRecDepth 100000 in
theorem z_mM_isAround (E : ze_T) (G : gs_T) (x1 x2 : Int32) (r : Int32) (h : mM_isAround G x1 x2 = some r) : zc_i (zF E) (wc_m E G) (wc_m E G) yn_X4_isAround cn_X4_isAround 3 .boolean { frames := 0, cells := 0, slots := 0, locals := 0 } [.ref (ad_p E 0), .int x1, .int x2] r := by
  unfold mM_isAround at h
  refine zc_i_of (by decide) rfl (Nat.le_of_ble_eq_true rfl) (fun X cx cq => ?_)
  refine zz_aload_n cx dn_X4_isAround_0 rfl rfl ?_
  refine zz_get cx zi_X4 (v := .ref (ad_p E 2)) (ci := 4) rfl 0 4 rfl (by decide) zk_X4_13 rfl dn_X4_isAround_1 ?_
  refine zz_iload_n cx dn_X4_isAround_4 rfl rfl ?_
  refine zz_iald cx 2 0 rfl rfl h (v := (gs_a G 1 x1)) rfl dn_X4_isAround_5 (fun h => ?_)
  refine zz_iload_n cx dn_X4_isAround_6 rfl rfl ?_
  refine zz_icmp_gt cx (tgt := 24) dn_X4_isAround_7 (by decide) h (fun h => ?_) (fun h => ?_)
  · refine zz_iconst cx dn_X4_isAround_24 (v := (0 : Int32)) (by decide) ?_
    obtain rfl := Option.some.inj h
    exact zz_zret cx cq rfl (by decide) (by decide) dn_X4_isAround_25
  · refine zz_iload_n cx dn_X4_isAround_10 rfl rfl ?_
    refine zz_aload_n cx dn_X4_isAround_11 rfl rfl ?_
    refine zz_get cx zi_X4 (v := .ref (ad_p E 3)) (ci := 4) rfl 0 5 rfl (by decide) zk_X4_16 rfl dn_X4_isAround_12 ?_
    refine zz_iload_n cx dn_X4_isAround_15 rfl rfl ?_
    refine zz_iald cx 3 0 rfl rfl h (v := (gs_a G 2 x1)) rfl dn_X4_isAround_16 (fun h => ?_)
    refine zz_icmp_gt cx (tgt := 24) dn_X4_isAround_17 (by decide) h (fun h => ?_) (fun h => ?_)
    · refine zz_iconst cx dn_X4_isAround_24 (v := (0 : Int32)) (by decide) ?_
      obtain rfl := Option.some.inj h
      exact zz_zret cx cq rfl (by decide) (by decide) dn_X4_isAround_25
    · refine zz_iconst cx dn_X4_isAround_20 (v := (1 : Int32)) (by decide) ?_
      refine zz_goto cx dn_X4_isAround_21 (tgt := 25) (by decide) ?_
      obtain rfl := Option.some.inj h
      exact zz_zret cx cq rfl (by decide) (by decide) dn_X4_isAround_25
set_option maxHeartbeats 4000000 in
set_option maxRecDepth 100000 in
theorem z_mM_mayRepeat_121 (E : ze_T) (n : Nat) (G : gs_T) (x2 x3 : Int32) (K : Int32 → Option Int32) (r : Int32) (X : zx_T) (cx : zx (zF E) X cn_X4_mayRepeat yn_X4_mayRepeat.cls { frames := 2, cells := 0, slots := 0, locals := 46 } 6) (cq : zq_i (zF E) X (wc_m E G) .boolean r) (hK : ∀ (y4 : Int32), K y4 = some r → zj (zF E) X 0 0 (wc_m E G) 156 [some (.ref (ad_p E 0)), none, some (.int x2), some (.int x3), some (.int y4), none] []) : ∀ (k : Nat) (x4 : Int32) (x5 : Int32), mM_mayRepeat_121 n G x2 x3 K k x4 x5 = some r → zj (zF E) X 0 0 (wc_m E G) 121 [some (.ref (ad_p E 0)), none, some (.int x2), some (.int x3), some (.int x4), some (.int x5)] [] := by
  intro k
  induction k with
  | zero => intro x4 x5 h; cases h
  | succ k ih =>
    intro x4 x5 h
    rw [mM_mayRepeat_121] at h
    refine zz_iload cx dn_X4_mayRepeat_121 rfl ?_
    refine zz_aload_n cx dn_X4_mayRepeat_123 rfl rfl ?_
    refine zz_get cx zi_X4 (v := .int (G.1 2)) (ci := 4) rfl 0 3 rfl (by decide) zk_X4_116 rfl dn_X4_mayRepeat_124 ?_
    refine zz_icmp_ge cx (tgt := 156) dn_X4_mayRepeat_127 (by decide) h (fun h => ?_) (fun h => ?_)
    · refine zz_less (L2 := [some (.ref (ad_p E 0)), none, some (.int x2), some (.int x3), some (.int x4), none]) (⟨rfl, rfl, rfl, rfl, trivial⟩) ?_
      exact hK x4 h
    · refine zz_iload cx dn_X4_mayRepeat_130 rfl ?_
      refine zz_aload_n cx dn_X4_mayRepeat_132 rfl rfl ?_
      refine zz_iload cx dn_X4_mayRepeat_133 rfl ?_
      refine zz_iload_n cx dn_X4_mayRepeat_135 rfl rfl ?_
      refine gs_bind h (fun q1 e_q1 h => ?_)
      refine zz_callVi cx (As := [.int x5, .int x3]) (rest := [.int x4]) (c2 := 0) (s2 := 0) (z_mM_isAround E G x5 x3 _ e_q1) zm_X4_isAround zk_X4_125 zv_X4_isAround 0 rfl rfl (by decide) rfl (Nat.le_of_ble_eq_true rfl) rfl rfl (by decide) (wc_m_addr E _ _) dn_X4_mayRepeat_136 ?_
      refine zz_if_eq cx (tgt := 146) dn_X4_mayRepeat_139 (by decide) h (fun h => ?_) (fun h => ?_)
      · refine zz_iconst cx dn_X4_mayRepeat_146 (v := (0 : Int32)) (by decide) ?_
        refine zz_iadd cx dn_X4_mayRepeat_147 ?_
        refine zz_istore cx dn_X4_mayRepeat_148 (by decide) rfl ?_
        refine zz_iinc cx dn_X4_mayRepeat_150 (d := (1 : Int32)) rfl (by decide) (by decide) rfl ?_
        refine zz_goto cx dn_X4_mayRepeat_153 (tgt := 121) (by decide) ?_
        exact ih (x4 + (0 : Int32)) (x5 + (1 : Int32)) h
      · refine zz_iconst cx dn_X4_mayRepeat_142 (v := (1 : Int32)) (by decide) ?_
        refine zz_goto cx dn_X4_mayRepeat_143 (tgt := 147) (by decide) ?_
        refine zz_iadd cx dn_X4_mayRepeat_147 ?_
        refine zz_istore cx dn_X4_mayRepeat_148 (by decide) rfl ?_
        refine zz_iinc cx dn_X4_mayRepeat_150 (d := (1 : Int32)) rfl (by decide) (by decide) rfl ?_
        refine zz_goto cx dn_X4_mayRepeat_153 (tgt := 121) (by decide) ?_
        exact ih (x4 + (1 : Int32)) (x5 + (1 : Int32)) h
set_option maxHeartbeats 4000000 in
set_option maxRecDepth 100000 in
theorem z_mM_mayRepeat_72 (E : ze_T) (n : Nat) (G : gs_T) (x1 x2 : Int32) (K : Unit → Option Int32) (r : Int32) (X : zx_T) (cx : zx (zF E) X cn_X4_mayRepeat yn_X4_mayRepeat.cls { frames := 2, cells := 0, slots := 0, locals := 46 } 6) (cq : zq_i (zF E) X (wc_m E G) .boolean r) (hK : ∀ (_ : Unit), K () = some r → zj (zF E) X 0 0 (wc_m E G) 108 [some (.ref (ad_p E 0)), some (.int x1), some (.int x2), none, none, none] []) : ∀ (k : Nat) (x3 : Int32), mM_mayRepeat_72 n G x1 x2 K k x3 = some r → zj (zF E) X 0 0 (wc_m E G) 72 [some (.ref (ad_p E 0)), some (.int x1), some (.int x2), some (.int x3), none, none] [] := by
  intro k
  induction k with
  | zero => intro x3 h; cases h
  | succ k ih =>
    intro x3 h
    rw [mM_mayRepeat_72] at h
    refine zz_iload_n cx dn_X4_mayRepeat_72 rfl rfl ?_
    refine zz_aload_n cx dn_X4_mayRepeat_73 rfl rfl ?_
    refine zz_get cx zi_X4 (v := .int (G.1 3)) (ci := 4) rfl 0 7 rfl (by decide) zk_X4_122 rfl dn_X4_mayRepeat_74 ?_
    refine zz_icmp_ge cx (tgt := 108) dn_X4_mayRepeat_77 (by decide) h (fun h => ?_) (fun h => ?_)
    · refine zz_less (L2 := [some (.ref (ad_p E 0)), some (.int x1), some (.int x2), none, none, none]) (⟨rfl, rfl, rfl, trivial⟩) ?_
      exact hK () h
    · refine zz_iload_n cx dn_X4_mayRepeat_80 rfl rfl ?_
      refine zz_iload_n cx dn_X4_mayRepeat_81 rfl rfl ?_
      refine zz_aload_n cx dn_X4_mayRepeat_82 rfl rfl ?_
      refine zz_get cx zi_X4 (v := .ref (ad_p E 6)) (ci := 4) rfl 0 9 rfl (by decide) zk_X4_25 rfl dn_X4_mayRepeat_83 ?_
      refine zz_iload_n cx dn_X4_mayRepeat_86 rfl rfl ?_
      refine zz_iald cx 6 0 rfl rfl h (v := (gs_a G 5 x3)) rfl dn_X4_mayRepeat_87 (fun h => ?_)
      refine zz_aload_n cx dn_X4_mayRepeat_88 rfl rfl ?_
      refine zz_get cx zi_X4 (v := .ref (ad_p E 7)) (ci := 4) rfl 0 10 rfl (by decide) zk_X4_28 rfl dn_X4_mayRepeat_89 ?_
      refine zz_iload_n cx dn_X4_mayRepeat_92 rfl rfl ?_
      refine zz_iald cx 7 0 rfl rfl h (v := (gs_a G 6 x3)) rfl dn_X4_mayRepeat_93 (fun h => ?_)
      refine gs_bind h (fun q1 e_q1 h => ?_)
      refine zz_callSi cx (As := [.int x1, .int x2, .int (gs_a G 5 x3), .int (gs_a G 6 x3)]) (rest := []) (c2 := 0) (s2 := 0) (z_mM_liesWell E G x1 x2 (gs_a G 5 x3) (gs_a G 6 x3) _ e_q1) zm_X4_liesWell zk_X4_119 zs_X4_liesWell (by decide) rfl (Nat.le_of_ble_eq_true rfl) rfl rfl (by decide) (wc_m_addr E _ _) dn_X4_mayRepeat_94 ?_
      refine zz_if_ne cx (tgt := 102) dn_X4_mayRepeat_97 (by decide) h (fun h => ?_) (fun h => ?_)
      · refine zz_iconst cx dn_X4_mayRepeat_100 (v := (0 : Int32)) (by decide) ?_
        obtain rfl := Option.some.inj h
        exact zz_zret cx cq rfl (by decide) (by decide) dn_X4_mayRepeat_101
      · refine zz_iinc cx dn_X4_mayRepeat_102 (d := (1 : Int32)) rfl (by decide) (by decide) rfl ?_
        refine zz_goto cx dn_X4_mayRepeat_105 (tgt := 72) (by decide) ?_
        exact ih (x3 + (1 : Int32)) h
set_option maxHeartbeats 4000000 in
set_option maxRecDepth 100000 in
theorem z_mM_mayRepeat_110 (E : ze_T) (n : Nat) (G : gs_T) (x2 : Int32) (r : Int32) (X : zx_T) (cx : zx (zF E) X cn_X4_mayRepeat yn_X4_mayRepeat.cls { frames := 2, cells := 0, slots := 0, locals := 46 } 6) (cq : zq_i (zF E) X (wc_m E G) .boolean r) : ∀ (k : Nat) (x3 : Int32), mM_mayRepeat_110 n G x2 k x3 = some r → zj (zF E) X 0 0 (wc_m E G) 110 [some (.ref (ad_p E 0)), none, some (.int x2), some (.int x3), none, none] [] := by
  intro k
  induction k with
  | zero => intro x3 h; cases h
  | succ k ih =>
    intro x3 h
    rw [mM_mayRepeat_110] at h
    refine zz_iload_n cx dn_X4_mayRepeat_110 rfl rfl ?_
    refine zz_iload_n cx dn_X4_mayRepeat_111 rfl rfl ?_
    refine zz_icmp_gt cx (tgt := 170) dn_X4_mayRepeat_112 (by decide) h (fun h => ?_) (fun h => ?_)
    · refine zz_aload_n cx dn_X4_mayRepeat_170 rfl rfl ?_
      refine zz_get cx zi_X4 (v := .int (G.1 2)) (ci := 4) rfl 0 3 rfl (by decide) zk_X4_116 rfl dn_X4_mayRepeat_171 ?_
      refine zz_bipush cx dn_X4_mayRepeat_174 (v := (20 : Int32)) (by decide) ?_
      refine zz_icmp_ge cx (tgt := 183) dn_X4_mayRepeat_176 (by decide) h (fun h => ?_) (fun h => ?_)
      · refine zz_iconst cx dn_X4_mayRepeat_183 (v := (0 : Int32)) (by decide) ?_
        obtain rfl := Option.some.inj h
        exact zz_zret cx cq rfl (by decide) (by decide) dn_X4_mayRepeat_184
      · refine zz_iconst cx dn_X4_mayRepeat_179 (v := (1 : Int32)) (by decide) ?_
        refine zz_goto cx dn_X4_mayRepeat_180 (tgt := 184) (by decide) ?_
        obtain rfl := Option.some.inj h
        exact zz_zret cx cq rfl (by decide) (by decide) dn_X4_mayRepeat_184
    · refine zz_iconst cx dn_X4_mayRepeat_115 (v := (1 : Int32)) (by decide) ?_
      refine zz_istore cx dn_X4_mayRepeat_116 (by decide) rfl ?_
      refine zz_iconst cx dn_X4_mayRepeat_118 (v := (0 : Int32)) (by decide) ?_
      refine zz_istore cx dn_X4_mayRepeat_119 (by decide) rfl ?_
      refine z_mM_mayRepeat_121 E n G x2 x3 _ _ X cx cq ?_ n (1 : Int32) (0 : Int32) h
      intro y4_0 h
      refine zz_iload cx dn_X4_mayRepeat_156 rfl ?_
      refine zz_iconst cx dn_X4_mayRepeat_158 (v := (3 : Int32)) (by decide) ?_
      refine zz_icmp_le cx (tgt := 164) dn_X4_mayRepeat_159 (by decide) h (fun h => ?_) (fun h => ?_)
      · refine zz_iinc cx dn_X4_mayRepeat_164 (d := (1 : Int32)) rfl (by decide) (by decide) rfl ?_
        refine zz_goto cx dn_X4_mayRepeat_167 (tgt := 110) (by decide) ?_
        refine zz_less (L2 := [some (.ref (ad_p E 0)), none, some (.int x2), some (.int (x3 + (1 : Int32))), none, none]) (⟨rfl, rfl, rfl, trivial⟩) ?_
        exact ih (x3 + (1 : Int32)) h
      · refine zz_iconst cx dn_X4_mayRepeat_162 (v := (0 : Int32)) (by decide) ?_
        obtain rfl := Option.some.inj h
        exact zz_zret cx cq rfl (by decide) (by decide) dn_X4_mayRepeat_163
set_option maxHeartbeats 4000000 in
set_option maxRecDepth 100000 in
theorem z_mM_mayRepeat_2 (E : ze_T) (n : Nat) (G : gs_T) (x1 x2 : Int32) (K : Unit → Option Int32) (r : Int32) (X : zx_T) (cx : zx (zF E) X cn_X4_mayRepeat yn_X4_mayRepeat.cls { frames := 2, cells := 0, slots := 0, locals := 46 } 6) (cq : zq_i (zF E) X (wc_m E G) .boolean r) (hK : ∀ (_ : Unit), K () = some r → zj (zF E) X 0 0 (wc_m E G) 70 [some (.ref (ad_p E 0)), some (.int x1), some (.int x2), none, none, none] []) : ∀ (k : Nat) (x3 : Int32), mM_mayRepeat_2 n G x1 x2 K k x3 = some r → zj (zF E) X 0 0 (wc_m E G) 2 [some (.ref (ad_p E 0)), some (.int x1), some (.int x2), some (.int x3), none, none] [] := by
  intro k
  induction k with
  | zero => intro x3 h; cases h
  | succ k ih =>
    intro x3 h
    rw [mM_mayRepeat_2] at h
    refine zz_iload_n cx dn_X4_mayRepeat_2 rfl rfl ?_
    refine zz_aload_n cx dn_X4_mayRepeat_3 rfl rfl ?_
    refine zz_get cx zi_X4 (v := .int (G.1 2)) (ci := 4) rfl 0 3 rfl (by decide) zk_X4_116 rfl dn_X4_mayRepeat_4 ?_
    refine zz_icmp_ge cx (tgt := 70) dn_X4_mayRepeat_7 (by decide) h (fun h => ?_) (fun h => ?_)
    · refine zz_less (L2 := [some (.ref (ad_p E 0)), some (.int x1), some (.int x2), none, none, none]) (⟨rfl, rfl, rfl, trivial⟩) ?_
      exact hK () h
    · refine zz_aload_n cx dn_X4_mayRepeat_10 rfl rfl ?_
      refine zz_get cx zi_X4 (v := .ref (ad_p E 2)) (ci := 4) rfl 0 4 rfl (by decide) zk_X4_13 rfl dn_X4_mayRepeat_11 ?_
      refine zz_iload_n cx dn_X4_mayRepeat_14 rfl rfl ?_
      refine zz_iald cx 2 0 rfl rfl h (v := (gs_a G 1 x3)) rfl dn_X4_mayRepeat_15 (fun h => ?_)
      refine zz_iload_n cx dn_X4_mayRepeat_16 rfl rfl ?_
      refine zz_icmp_ne cx (tgt := 34) dn_X4_mayRepeat_17 (by decide) h (fun h => ?_) (fun h => ?_)
      · refine zz_aload_n cx dn_X4_mayRepeat_20 rfl rfl ?_
        refine zz_get cx zi_X4 (v := .ref (ad_p E 3)) (ci := 4) rfl 0 5 rfl (by decide) zk_X4_16 rfl dn_X4_mayRepeat_21 ?_
        refine zz_iload_n cx dn_X4_mayRepeat_24 rfl rfl ?_
        refine zz_iald cx 3 0 rfl rfl h (v := (gs_a G 2 x3)) rfl dn_X4_mayRepeat_25 (fun h => ?_)
        refine zz_iload_n cx dn_X4_mayRepeat_26 rfl rfl ?_
        refine zz_icmp_ne cx (tgt := 34) dn_X4_mayRepeat_27 (by decide) h (fun h => ?_) (fun h => ?_)
        · refine zz_iconst cx dn_X4_mayRepeat_30 (v := (1 : Int32)) (by decide) ?_
          refine zz_goto cx dn_X4_mayRepeat_31 (tgt := 35) (by decide) ?_
          refine zz_istore cx dn_X4_mayRepeat_35 (by decide) rfl ?_
          refine zz_iload cx dn_X4_mayRepeat_37 rfl ?_
          refine zz_if_ne_t cx (tgt := 62) dn_X4_mayRepeat_39 (by decide) (by decide) ?_
          refine zz_iconst cx dn_X4_mayRepeat_62 (v := (0 : Int32)) (by decide) ?_
          obtain rfl := Option.some.inj h
          exact zz_zret cx cq rfl (by decide) (by decide) dn_X4_mayRepeat_63
        · refine zz_iconst cx dn_X4_mayRepeat_34 (v := (0 : Int32)) (by decide) ?_
          refine zz_istore cx dn_X4_mayRepeat_35 (by decide) rfl ?_
          refine zz_iload cx dn_X4_mayRepeat_37 rfl ?_
          refine zz_if_ne_f cx (tgt := 62) dn_X4_mayRepeat_39 (by decide) (by decide) ?_
          refine zz_iload_n cx dn_X4_mayRepeat_42 rfl rfl ?_
          refine zz_iload_n cx dn_X4_mayRepeat_43 rfl rfl ?_
          refine zz_aload_n cx dn_X4_mayRepeat_44 rfl rfl ?_
          refine zz_get cx zi_X4 (v := .ref (ad_p E 2)) (ci := 4) rfl 0 4 rfl (by decide) zk_X4_13 rfl dn_X4_mayRepeat_45 ?_
          refine zz_iload_n cx dn_X4_mayRepeat_48 rfl rfl ?_
          refine zz_iald cx 2 0 rfl rfl h (v := (gs_a G 1 x3)) rfl dn_X4_mayRepeat_49 (fun h => ?_)
          refine zz_aload_n cx dn_X4_mayRepeat_50 rfl rfl ?_
          refine zz_get cx zi_X4 (v := .ref (ad_p E 3)) (ci := 4) rfl 0 5 rfl (by decide) zk_X4_16 rfl dn_X4_mayRepeat_51 ?_
          refine zz_iload_n cx dn_X4_mayRepeat_54 rfl rfl ?_
          refine zz_iald cx 3 0 rfl rfl h (v := (gs_a G 2 x3)) rfl dn_X4_mayRepeat_55 (fun h => ?_)
          refine gs_bind h (fun q2 e_q2 h => ?_)
          refine zz_callSi cx (As := [.int x1, .int x2, .int (gs_a G 1 x3), .int (gs_a G 2 x3)]) (rest := []) (c2 := 0) (s2 := 0) (z_mM_liesWell E G x1 x2 (gs_a G 1 x3) (gs_a G 2 x3) _ e_q2) zm_X4_liesWell zk_X4_119 zs_X4_liesWell (by decide) rfl (Nat.le_of_ble_eq_true rfl) rfl rfl (by decide) (wc_m_addr E _ _) dn_X4_mayRepeat_56 ?_
          refine zz_if_ne cx (tgt := 64) dn_X4_mayRepeat_59 (by decide) h (fun h => ?_) (fun h => ?_)
          · refine zz_iconst cx dn_X4_mayRepeat_62 (v := (0 : Int32)) (by decide) ?_
            obtain rfl := Option.some.inj h
            exact zz_zret cx cq rfl (by decide) (by decide) dn_X4_mayRepeat_63
          · refine zz_iinc cx dn_X4_mayRepeat_64 (d := (1 : Int32)) rfl (by decide) (by decide) rfl ?_
            refine zz_goto cx dn_X4_mayRepeat_67 (tgt := 2) (by decide) ?_
            refine zz_less (L2 := [some (.ref (ad_p E 0)), some (.int x1), some (.int x2), some (.int (x3 + (1 : Int32))), none, none]) (⟨rfl, rfl, rfl, rfl, trivial⟩) ?_
            exact ih (x3 + (1 : Int32)) h
      · refine zz_iconst cx dn_X4_mayRepeat_34 (v := (0 : Int32)) (by decide) ?_
        refine zz_istore cx dn_X4_mayRepeat_35 (by decide) rfl ?_
        refine zz_iload cx dn_X4_mayRepeat_37 rfl ?_
        refine zz_if_ne_f cx (tgt := 62) dn_X4_mayRepeat_39 (by decide) (by decide) ?_
        refine zz_iload_n cx dn_X4_mayRepeat_42 rfl rfl ?_
        refine zz_iload_n cx dn_X4_mayRepeat_43 rfl rfl ?_
        refine zz_aload_n cx dn_X4_mayRepeat_44 rfl rfl ?_
        refine zz_get cx zi_X4 (v := .ref (ad_p E 2)) (ci := 4) rfl 0 4 rfl (by decide) zk_X4_13 rfl dn_X4_mayRepeat_45 ?_
        refine zz_iload_n cx dn_X4_mayRepeat_48 rfl rfl ?_
        refine zz_iald cx 2 0 rfl rfl h (v := (gs_a G 1 x3)) rfl dn_X4_mayRepeat_49 (fun h => ?_)
        refine zz_aload_n cx dn_X4_mayRepeat_50 rfl rfl ?_
        refine zz_get cx zi_X4 (v := .ref (ad_p E 3)) (ci := 4) rfl 0 5 rfl (by decide) zk_X4_16 rfl dn_X4_mayRepeat_51 ?_
        refine zz_iload_n cx dn_X4_mayRepeat_54 rfl rfl ?_
        refine zz_iald cx 3 0 rfl rfl h (v := (gs_a G 2 x3)) rfl dn_X4_mayRepeat_55 (fun h => ?_)
        refine gs_bind h (fun q1 e_q1 h => ?_)
        refine zz_callSi cx (As := [.int x1, .int x2, .int (gs_a G 1 x3), .int (gs_a G 2 x3)]) (rest := []) (c2 := 0) (s2 := 0) (z_mM_liesWell E G x1 x2 (gs_a G 1 x3) (gs_a G 2 x3) _ e_q1) zm_X4_liesWell zk_X4_119 zs_X4_liesWell (by decide) rfl (Nat.le_of_ble_eq_true rfl) rfl rfl (by decide) (wc_m_addr E _ _) dn_X4_mayRepeat_56 ?_
        refine zz_if_ne cx (tgt := 64) dn_X4_mayRepeat_59 (by decide) h (fun h => ?_) (fun h => ?_)
        · refine zz_iconst cx dn_X4_mayRepeat_62 (v := (0 : Int32)) (by decide) ?_
          obtain rfl := Option.some.inj h
          exact zz_zret cx cq rfl (by decide) (by decide) dn_X4_mayRepeat_63
        · refine zz_iinc cx dn_X4_mayRepeat_64 (d := (1 : Int32)) rfl (by decide) (by decide) rfl ?_
          refine zz_goto cx dn_X4_mayRepeat_67 (tgt := 2) (by decide) ?_
          refine zz_less (L2 := [some (.ref (ad_p E 0)), some (.int x1), some (.int x2), some (.int (x3 + (1 : Int32))), none, none]) (⟨rfl, rfl, rfl, rfl, trivial⟩) ?_
          exact ih (x3 + (1 : Int32)) h
set_option maxHeartbeats 4000000 in
set_option maxRecDepth 100000 in
theorem z_mM_mayRepeat (E : ze_T) (n : Nat) (G : gs_T) (x1 x2 : Int32) (r : Int32) (h : mM_mayRepeat n G x1 x2 = some r) : zc_i (zF E) (wc_m E G) (wc_m E G) yn_X4_mayRepeat cn_X4_mayRepeat 6 .boolean { frames := 2, cells := 0, slots := 0, locals := 46 } [.ref (ad_p E 0), .int x1, .int x2] r := by
  unfold mM_mayRepeat at h
  refine zc_i_of (by decide) rfl (Nat.le_of_ble_eq_true rfl) (fun X cx cq => ?_)
  refine zz_iconst cx dn_X4_mayRepeat_0 (v := (0 : Int32)) (by decide) ?_
  refine zz_istore_n cx dn_X4_mayRepeat_1 rfl (by decide) rfl ?_
  refine z_mM_mayRepeat_2 E n G x1 x2 _ _ X cx cq ?_ n (0 : Int32) h
  intro _ h
  refine zz_iconst cx dn_X4_mayRepeat_70 (v := (0 : Int32)) (by decide) ?_
  refine zz_istore_n cx dn_X4_mayRepeat_71 rfl (by decide) rfl ?_
  refine z_mM_mayRepeat_72 E n G x1 x2 _ _ X cx cq ?_ n (0 : Int32) h
  intro _ h
  refine zz_iload_n cx dn_X4_mayRepeat_108 rfl rfl ?_
  refine zz_istore_n cx dn_X4_mayRepeat_109 rfl (by decide) rfl ?_
  refine zz_less (L2 := [some (.ref (ad_p E 0)), none, some (.int x2), some (.int x1), none, none]) (⟨rfl, rfl, rfl, trivial⟩) ?_
  exact z_mM_mayRepeat_110 E n G x2 _ X cx cq n x1 h
set_option maxHeartbeats 4000000 in
set_option maxRecDepth 100000 in
theorem z_mM_repeat_j90 (E : ze_T) (n : Nat) (G : gs_T) (x1 x2 x3 s0 s1 s2 : Int32) (r : (Int32 × gs_T)) (X : zx_T) (cx : zx (zF E) X cn_X4_repeat yn_X4_repeat.cls { frames := 3, cells := 0, slots := 0, locals := 71 } 6) (cq : zq_i (zF E) X (wc_m E r.2) .int r.1) (h : mM_repeat_j90 n G x1 x2 x3 s0 s1 s2 = some r) : zj (zF E) X 0 0 (wc_m E G) 90 [some (.ref (ad_p E 0)), some (.int x1), some (.int x2), some (.int x3), none, none] [.int s2, .int s1, .int s0, .ref (ad_p E 0)] := by
  unfold mM_repeat_j90 at h
  refine gs_bind h (fun q1 e_q1 h => ?_)
  refine zz_callVi cx (As := [.int s0, .int s1, .int s2]) (rest := []) (c2 := 0) (s2 := 0) (z_mM_refuses E G s0 s1 s2 _ e_q1) zm_X4_refuses zk_X4_105 zv_X4_refuses 0 rfl rfl (by decide) rfl (Nat.le_of_ble_eq_true rfl) rfl rfl (by decide) (wc_m_addr E _ _) dn_X4_repeat_90 ?_
  refine zz_if_eq cx (tgt := 98) dn_X4_repeat_93 (by decide) h (fun h => ?_) (fun h => ?_)
  · refine zz_aload_n cx dn_X4_repeat_98 rfl rfl ?_
    refine zz_get cx zi_X4 (v := .ref (ad_p E 2)) (ci := 4) rfl 0 4 rfl (by decide) zk_X4_13 rfl dn_X4_repeat_99 ?_
    refine zz_aload_n cx dn_X4_repeat_102 rfl rfl ?_
    refine zz_get cx zi_X4 (v := .int (q1.2.1 2)) (ci := 4) rfl 0 3 rfl (by decide) zk_X4_116 rfl dn_X4_repeat_103 ?_
    refine zz_iload_n cx dn_X4_repeat_106 rfl rfl ?_
    refine zz_iast cx 2 0 rfl rfl h (ws2 := (wc_m E (gs_sa q1.2 1 (q1.2.1 2) x1))) (wc_m_a1 E _ _ _) dn_X4_repeat_107 (fun h => ?_)
    refine zz_aload_n cx dn_X4_repeat_108 rfl rfl ?_
    refine zz_get cx zi_X4 (v := .ref (ad_p E 3)) (ci := 4) rfl 0 5 rfl (by decide) zk_X4_16 rfl dn_X4_repeat_109 ?_
    refine zz_aload_n cx dn_X4_repeat_112 rfl rfl ?_
    refine zz_get cx zi_X4 (v := .int (q1.2.1 2)) (ci := 4) rfl 0 3 rfl (by decide) zk_X4_116 rfl dn_X4_repeat_113 ?_
    refine zz_iload_n cx dn_X4_repeat_116 rfl rfl ?_
    refine zz_iast cx 3 0 rfl rfl h (ws2 := (wc_m E (gs_sa (gs_sa q1.2 1 (q1.2.1 2) x1) 2 (q1.2.1 2) x2))) (wc_m_a2 E _ _ _) dn_X4_repeat_117 (fun h => ?_)
    refine zz_aload_n cx dn_X4_repeat_118 rfl rfl ?_
    refine zz_get cx zi_X4 (v := .ref (ad_p E 4)) (ci := 4) rfl 0 6 rfl (by decide) zk_X4_19 rfl dn_X4_repeat_119 ?_
    refine zz_aload_n cx dn_X4_repeat_122 rfl rfl ?_
    refine zz_get cx zi_X4 (v := .int (q1.2.1 2)) (ci := 4) rfl 0 3 rfl (by decide) zk_X4_116 rfl dn_X4_repeat_123 ?_
    refine zz_iload_n cx dn_X4_repeat_126 rfl rfl ?_
    refine zz_iast cx 4 0 rfl rfl h (ws2 := (wc_m E (gs_sa (gs_sa (gs_sa q1.2 1 (q1.2.1 2) x1) 2 (q1.2.1 2) x2) 3 (q1.2.1 2) x3))) (wc_m_a3 E _ _ _) dn_X4_repeat_127 (fun h => ?_)
    refine zz_aload_n cx dn_X4_repeat_128 rfl rfl ?_
    refine zz_dup cx dn_X4_repeat_129 rfl ?_
    refine zz_get cx zi_X4 (v := .int (q1.2.1 2)) (ci := 4) rfl 0 3 rfl (by decide) zk_X4_116 rfl dn_X4_repeat_130 ?_
    refine zz_iconst cx dn_X4_repeat_133 (v := (1 : Int32)) (by decide) ?_
    refine zz_iadd cx dn_X4_repeat_134 ?_
    refine zz_put cx (ws2 := (wc_m E (gs_sv (gs_sa (gs_sa (gs_sa q1.2 1 (q1.2.1 2) x1) 2 (q1.2.1 2) x2) 3 (q1.2.1 2) x3) 2 ((q1.2.1 2) + (1 : Int32))))) (ty := .int) (ci := 4) zi_X4 fk_X4 nm_X4 rfl 0 3 rfl (by decide) zk_X4_116 rfl (by decide +kernel) rfl rfl (Nat.le_of_ble_eq_true rfl) (wc_m_s2 E _ _) dn_X4_repeat_135 ?_
    refine zz_aload_n cx dn_X4_repeat_138 rfl rfl ?_
    refine zz_get cx zi_X4 (v := .int ((q1.2.1 2) + (1 : Int32))) (ci := 4) rfl 0 3 rfl (by decide) zk_X4_116 rfl dn_X4_repeat_139 ?_
    refine zz_iconst cx dn_X4_repeat_142 (v := (1 : Int32)) (by decide) ?_
    refine zz_isub cx dn_X4_repeat_143 ?_
    obtain rfl := Option.some.inj h
    exact zz_iret cx cq (by decide) (by decide) dn_X4_repeat_144
  · refine zz_iconst cx dn_X4_repeat_96 (v := (0 : Int32)) (by decide) ?_
    obtain rfl := Option.some.inj h
    exact zz_iret cx cq (by decide) (by decide) dn_X4_repeat_97
set_option maxHeartbeats 4000000 in
set_option maxRecDepth 100000 in
theorem z_mM_repeat_j89 (E : ze_T) (n : Nat) (G : gs_T) (x1 x2 x3 s0 s1 : Int32) (r : (Int32 × gs_T)) (X : zx_T) (cx : zx (zF E) X cn_X4_repeat yn_X4_repeat.cls { frames := 3, cells := 0, slots := 0, locals := 71 } 6) (cq : zq_i (zF E) X (wc_m E r.2) .int r.1) (h : mM_repeat_j89 n G x1 x2 x3 s0 s1 = some r) : zj (zF E) X 0 0 (wc_m E G) 89 [some (.ref (ad_p E 0)), some (.int x1), some (.int x2), some (.int x3), none, none] [.int s1, .int s0, .ref (ad_p E 0)] := by
  unfold mM_repeat_j89 at h
  refine zz_iconst cx dn_X4_repeat_89 (v := (0 : Int32)) (by decide) ?_
  exact z_mM_repeat_j90 E n G x1 x2 x3 s0 s1 (0 : Int32) _ X cx cq h
set_option maxHeartbeats 4000000 in
set_option maxRecDepth 100000 in
theorem z_mM_repeat_j66 (E : ze_T) (n : Nat) (G : gs_T) (x1 x2 x3 x4 x5 s0 s1 : Int32) (r : (Int32 × gs_T)) (X : zx_T) (cx : zx (zF E) X cn_X4_repeat yn_X4_repeat.cls { frames := 3, cells := 0, slots := 0, locals := 71 } 6) (cq : zq_i (zF E) X (wc_m E r.2) .int r.1) (h : mM_repeat_j66 n G x1 x2 x3 x4 x5 s0 s1 = some r) : zj (zF E) X 0 0 (wc_m E G) 66 [some (.ref (ad_p E 0)), some (.int x1), some (.int x2), some (.int x3), some (.int x4), some (.int x5)] [.int s1, .int s0, .ref (ad_p E 0)] := by
  unfold mM_repeat_j66 at h
  refine zz_iload cx dn_X4_repeat_66 rfl ?_
  refine zz_if_eq cx (tgt := 89) dn_X4_repeat_68 (by decide) h (fun h => ?_) (fun h => ?_)
  · refine zz_less (L2 := [some (.ref (ad_p E 0)), some (.int x1), some (.int x2), some (.int x3), none, none]) (⟨rfl, rfl, rfl, rfl, trivial⟩) ?_
    exact z_mM_repeat_j89 E n G x1 x2 x3 s0 s1 _ X cx cq h
  · refine zz_iload cx dn_X4_repeat_71 rfl ?_
    refine zz_if_eq cx (tgt := 89) dn_X4_repeat_73 (by decide) h (fun h => ?_) (fun h => ?_)
    · refine zz_less (L2 := [some (.ref (ad_p E 0)), some (.int x1), some (.int x2), some (.int x3), none, none]) (⟨rfl, rfl, rfl, rfl, trivial⟩) ?_
      exact z_mM_repeat_j89 E n G x1 x2 x3 s0 s1 _ X cx cq h
    · refine zz_aload_n cx dn_X4_repeat_76 rfl rfl ?_
      refine zz_iload_n cx dn_X4_repeat_77 rfl rfl ?_
      refine zz_iload_n cx dn_X4_repeat_78 rfl rfl ?_
      refine gs_bind h (fun q1 e_q1 h => ?_)
      refine zz_callVi cx (As := [.int x1, .int x2]) (rest := [.int s1, .int s0, .ref (ad_p E 0)]) (c2 := 0) (s2 := 0) (z_mM_mayRepeat E n G x1 x2 _ e_q1) zm_X4_mayRepeat zk_X4_133 zv_X4_mayRepeat 0 rfl rfl (by decide) rfl (Nat.le_of_ble_eq_true rfl) rfl rfl (by decide) (wc_m_addr E _ _) dn_X4_repeat_79 ?_
      refine zz_if_ne cx (tgt := 89) dn_X4_repeat_82 (by decide) h (fun h => ?_) (fun h => ?_)
      · refine zz_iconst cx dn_X4_repeat_85 (v := (1 : Int32)) (by decide) ?_
        refine zz_goto cx dn_X4_repeat_86 (tgt := 90) (by decide) ?_
        refine zz_less (L2 := [some (.ref (ad_p E 0)), some (.int x1), some (.int x2), some (.int x3), none, none]) (⟨rfl, rfl, rfl, rfl, trivial⟩) ?_
        exact z_mM_repeat_j90 E n G x1 x2 x3 s0 s1 (1 : Int32) _ X cx cq h
      · refine zz_less (L2 := [some (.ref (ad_p E 0)), some (.int x1), some (.int x2), some (.int x3), none, none]) (⟨rfl, rfl, rfl, rfl, trivial⟩) ?_
        exact z_mM_repeat_j89 E n G x1 x2 x3 s0 s1 _ X cx cq h
set_option maxHeartbeats 4000000 in
set_option maxRecDepth 100000 in
theorem z_mM_repeat_j56 (E : ze_T) (n : Nat) (G : gs_T) (x1 x2 x3 x4 x5 s0 : Int32) (r : (Int32 × gs_T)) (X : zx_T) (cx : zx (zF E) X cn_X4_repeat yn_X4_repeat.cls { frames := 3, cells := 0, slots := 0, locals := 71 } 6) (cq : zq_i (zF E) X (wc_m E r.2) .int r.1) (h : mM_repeat_j56 n G x1 x2 x3 x4 x5 s0 = some r) : zj (zF E) X 0 0 (wc_m E G) 56 [some (.ref (ad_p E 0)), some (.int x1), some (.int x2), some (.int x3), some (.int x4), some (.int x5)] [.int s0, .ref (ad_p E 0)] := by
  unfold mM_repeat_j56 at h
  refine zz_iload cx dn_X4_repeat_56 rfl ?_
  refine zz_if_ne cx (tgt := 65) dn_X4_repeat_58 (by decide) h (fun h => ?_) (fun h => ?_)
  · refine zz_iconst cx dn_X4_repeat_61 (v := (1 : Int32)) (by decide) ?_
    refine zz_goto cx dn_X4_repeat_62 (tgt := 66) (by decide) ?_
    exact z_mM_repeat_j66 E n G x1 x2 x3 x4 x5 s0 (1 : Int32) _ X cx cq h
  · refine zz_iconst cx dn_X4_repeat_65 (v := (0 : Int32)) (by decide) ?_
    exact z_mM_repeat_j66 E n G x1 x2 x3 x4 x5 s0 (0 : Int32) _ X cx cq h
set_option maxHeartbeats 4000000 in
set_option maxRecDepth 100000 in
theorem z_mM_repeat_j43 (E : ze_T) (n : Nat) (G : gs_T) (x1 x2 x3 x4 s0 : Int32) (r : (Int32 × gs_T)) (X : zx_T) (cx : zx (zF E) X cn_X4_repeat yn_X4_repeat.cls { frames := 3, cells := 0, slots := 0, locals := 71 } 6) (cq : zq_i (zF E) X (wc_m E r.2) .int r.1) (h : mM_repeat_j43 n G x1 x2 x3 x4 s0 = some r) : zj (zF E) X 0 0 (wc_m E G) 43 [some (.ref (ad_p E 0)), some (.int x1), some (.int x2), some (.int x3), some (.int x4), none] [.int s0] := by
  unfold mM_repeat_j43 at h
  refine zz_istore cx dn_X4_repeat_43 (by decide) rfl ?_
  refine zz_aload_n cx dn_X4_repeat_45 rfl rfl ?_
  refine zz_iload cx dn_X4_repeat_46 rfl ?_
  refine zz_if_ne cx (tgt := 55) dn_X4_repeat_48 (by decide) h (fun h => ?_) (fun h => ?_)
  · refine zz_iconst cx dn_X4_repeat_51 (v := (1 : Int32)) (by decide) ?_
    refine zz_goto cx dn_X4_repeat_52 (tgt := 56) (by decide) ?_
    exact z_mM_repeat_j56 E n G x1 x2 x3 x4 s0 (1 : Int32) _ X cx cq h
  · refine zz_iconst cx dn_X4_repeat_55 (v := (0 : Int32)) (by decide) ?_
    exact z_mM_repeat_j56 E n G x1 x2 x3 x4 s0 (0 : Int32) _ X cx cq h
set_option maxHeartbeats 4000000 in
set_option maxRecDepth 100000 in
theorem z_mM_repeat_j42 (E : ze_T) (n : Nat) (G : gs_T) (x1 x2 x3 x4 : Int32) (r : (Int32 × gs_T)) (X : zx_T) (cx : zx (zF E) X cn_X4_repeat yn_X4_repeat.cls { frames := 3, cells := 0, slots := 0, locals := 71 } 6) (cq : zq_i (zF E) X (wc_m E r.2) .int r.1) (h : mM_repeat_j42 n G x1 x2 x3 x4 = some r) : zj (zF E) X 0 0 (wc_m E G) 42 [some (.ref (ad_p E 0)), some (.int x1), some (.int x2), some (.int x3), some (.int x4), none] [] := by
  unfold mM_repeat_j42 at h
  refine zz_iconst cx dn_X4_repeat_42 (v := (0 : Int32)) (by decide) ?_
  exact z_mM_repeat_j43 E n G x1 x2 x3 x4 (0 : Int32) _ X cx cq h
set_option maxHeartbeats 4000000 in
set_option maxRecDepth 100000 in
theorem z_mM_repeat_j21 (E : ze_T) (n : Nat) (G : gs_T) (x1 x2 x3 s0 : Int32) (r : (Int32 × gs_T)) (X : zx_T) (cx : zx (zF E) X cn_X4_repeat yn_X4_repeat.cls { frames := 3, cells := 0, slots := 0, locals := 71 } 6) (cq : zq_i (zF E) X (wc_m E r.2) .int r.1) (h : mM_repeat_j21 n G x1 x2 x3 s0 = some r) : zj (zF E) X 0 0 (wc_m E G) 21 [some (.ref (ad_p E 0)), some (.int x1), some (.int x2), some (.int x3), none, none] [.int s0] := by
  unfold mM_repeat_j21 at h
  refine zz_istore cx dn_X4_repeat_21 (by decide) rfl ?_
  refine zz_iload_n cx dn_X4_repeat_23 rfl rfl ?_
  refine zz_iconst cx dn_X4_repeat_24 (v := (2 : Int32)) (by decide) ?_
  refine zz_icmp_lt cx (tgt := 42) dn_X4_repeat_25 (by decide) h (fun h => ?_) (fun h => ?_)
  · exact z_mM_repeat_j42 E n G x1 x2 x3 s0 _ X cx cq h
  · refine zz_iload_n cx dn_X4_repeat_28 rfl rfl ?_
    refine zz_iconst cx dn_X4_repeat_29 (v := (4 : Int32)) (by decide) ?_
    refine zz_icmp_gt cx (tgt := 42) dn_X4_repeat_30 (by decide) h (fun h => ?_) (fun h => ?_)
    · exact z_mM_repeat_j42 E n G x1 x2 x3 s0 _ X cx cq h
    · refine zz_iload_n cx dn_X4_repeat_33 rfl rfl ?_
      refine zz_iload_n cx dn_X4_repeat_34 rfl rfl ?_
      refine zz_icmp_lt cx (tgt := 42) dn_X4_repeat_35 (by decide) h (fun h => ?_) (fun h => ?_)
      · exact z_mM_repeat_j42 E n G x1 x2 x3 s0 _ X cx cq h
      · refine zz_iconst cx dn_X4_repeat_38 (v := (1 : Int32)) (by decide) ?_
        refine zz_goto cx dn_X4_repeat_39 (tgt := 43) (by decide) ?_
        exact z_mM_repeat_j43 E n G x1 x2 x3 s0 (1 : Int32) _ X cx cq h
set_option maxHeartbeats 4000000 in
set_option maxRecDepth 100000 in
theorem z_mM_repeat_j20 (E : ze_T) (n : Nat) (G : gs_T) (x1 x2 x3 : Int32) (r : (Int32 × gs_T)) (X : zx_T) (cx : zx (zF E) X cn_X4_repeat yn_X4_repeat.cls { frames := 3, cells := 0, slots := 0, locals := 71 } 6) (cq : zq_i (zF E) X (wc_m E r.2) .int r.1) (h : mM_repeat_j20 n G x1 x2 x3 = some r) : zj (zF E) X 0 0 (wc_m E G) 20 [some (.ref (ad_p E 0)), some (.int x1), some (.int x2), some (.int x3), none, none] [] := by
  unfold mM_repeat_j20 at h
  refine zz_iconst cx dn_X4_repeat_20 (v := (0 : Int32)) (by decide) ?_
  exact z_mM_repeat_j21 E n G x1 x2 x3 (0 : Int32) _ X cx cq h
set_option maxHeartbeats 4000000 in
set_option maxRecDepth 100000 in
theorem z_mM_repeat (E : ze_T) (n : Nat) (G : gs_T) (x1 x2 x3 : Int32) (r : (Int32 × gs_T)) (h : mM_repeat n G x1 x2 x3 = some r) : zc_i (zF E) (wc_m E G) (wc_m E r.2) yn_X4_repeat cn_X4_repeat 6 .int { frames := 3, cells := 0, slots := 0, locals := 71 } [.ref (ad_p E 0), .int x1, .int x2, .int x3] r.1 := by
  unfold mM_repeat at h
  refine zc_i_of (by decide) rfl (Nat.le_of_ble_eq_true rfl) (fun X cx cq => ?_)
  refine zz_aload_n cx dn_X4_repeat_0 rfl rfl ?_
  refine zz_iload_n cx dn_X4_repeat_1 rfl rfl ?_
  refine gs_bind h (fun q1 e_q1 h => ?_)
  refine zz_callVi cx (As := [.int x1]) (rest := []) (c2 := 0) (s2 := 0) (z_mM_isBar E G x1 _ e_q1) zm_X4_isBar zk_X4_129 zv_X4_isBar 0 rfl rfl (by decide) rfl (Nat.le_of_ble_eq_true rfl) rfl rfl (by decide) (wc_m_addr E _ _) dn_X4_repeat_2 ?_
  refine zz_if_eq cx (tgt := 20) dn_X4_repeat_5 (by decide) h (fun h => ?_) (fun h => ?_)
  · exact z_mM_repeat_j20 E n G x1 x2 x3 _ X cx cq h
  · refine zz_aload_n cx dn_X4_repeat_8 rfl rfl ?_
    refine zz_iload_n cx dn_X4_repeat_9 rfl rfl ?_
    refine gs_bind h (fun q2 e_q2 h => ?_)
    refine zz_callVi cx (As := [.int x2]) (rest := []) (c2 := 0) (s2 := 0) (z_mM_isBar E G x2 _ e_q2) zm_X4_isBar zk_X4_129 zv_X4_isBar 0 rfl rfl (by decide) rfl (Nat.le_of_ble_eq_true rfl) rfl rfl (by decide) (wc_m_addr E _ _) dn_X4_repeat_10 ?_
    refine zz_if_eq cx (tgt := 20) dn_X4_repeat_13 (by decide) h (fun h => ?_) (fun h => ?_)
    · exact z_mM_repeat_j20 E n G x1 x2 x3 _ X cx cq h
    · refine zz_iconst cx dn_X4_repeat_16 (v := (1 : Int32)) (by decide) ?_
      refine zz_goto cx dn_X4_repeat_17 (tgt := 21) (by decide) ?_
      exact z_mM_repeat_j21 E n G x1 x2 x3 (1 : Int32) _ X cx cq h
set_option maxHeartbeats 4000000 in
set_option maxRecDepth 100000 in
theorem z_mM_mayEnd_25 (E : ze_T) (n : Nat) (G : gs_T) (x2 x3 : Int32) (K : Unit → Option Int32) (r : Int32) (X : zx_T) (cx : zx (zF E) X cn_X4_mayEnd yn_X4_mayEnd.cls { frames := 2, cells := 0, slots := 0, locals := 46 } 5) (cq : zq_i (zF E) X (wc_m E G) .boolean r) (hK : ∀ (_ : Unit), K () = some r → zj (zF E) X 0 0 (wc_m E G) 64 [some (.ref (ad_p E 0)), none, some (.int x2), some (.int x3), none] []) : ∀ (k : Nat) (x4 : Int32), mM_mayEnd_25 n G x2 x3 K k x4 = some r → zj (zF E) X 0 0 (wc_m E G) 25 [some (.ref (ad_p E 0)), none, some (.int x2), some (.int x3), some (.int x4)] [] := by
  intro k
  induction k with
  | zero => intro x4 h; cases h
  | succ k ih =>
    intro x4 h
    rw [mM_mayEnd_25] at h
    refine zz_iload cx dn_X4_mayEnd_25 rfl ?_
    refine zz_aload_n cx dn_X4_mayEnd_27 rfl rfl ?_
    refine zz_get cx zi_X4 (v := .int (G.1 3)) (ci := 4) rfl 0 7 rfl (by decide) zk_X4_122 rfl dn_X4_mayEnd_28 ?_
    refine zz_icmp_ge cx (tgt := 64) dn_X4_mayEnd_31 (by decide) h (fun h => ?_) (fun h => ?_)
    · refine zz_less (L2 := [some (.ref (ad_p E 0)), none, some (.int x2), some (.int x3), none]) (⟨rfl, rfl, rfl, trivial⟩) ?_
      exact hK () h
    · refine zz_iload_n cx dn_X4_mayEnd_34 rfl rfl ?_
      refine zz_iload_n cx dn_X4_mayEnd_35 rfl rfl ?_
      refine zz_aload_n cx dn_X4_mayEnd_36 rfl rfl ?_
      refine zz_get cx zi_X4 (v := .ref (ad_p E 6)) (ci := 4) rfl 0 9 rfl (by decide) zk_X4_25 rfl dn_X4_mayEnd_37 ?_
      refine zz_iload cx dn_X4_mayEnd_40 rfl ?_
      refine zz_iald cx 6 0 rfl rfl h (v := (gs_a G 5 x4)) rfl dn_X4_mayEnd_42 (fun h => ?_)
      refine zz_aload_n cx dn_X4_mayEnd_43 rfl rfl ?_
      refine zz_get cx zi_X4 (v := .ref (ad_p E 7)) (ci := 4) rfl 0 10 rfl (by decide) zk_X4_28 rfl dn_X4_mayEnd_44 ?_
      refine zz_iload cx dn_X4_mayEnd_47 rfl ?_
      refine zz_iald cx 7 0 rfl rfl h (v := (gs_a G 6 x4)) rfl dn_X4_mayEnd_49 (fun h => ?_)
      refine gs_bind h (fun q1 e_q1 h => ?_)
      refine zz_callSi cx (As := [.int x2, .int x3, .int (gs_a G 5 x4), .int (gs_a G 6 x4)]) (rest := []) (c2 := 0) (s2 := 0) (z_mM_isApart E G x2 x3 (gs_a G 5 x4) (gs_a G 6 x4) _ e_q1) zm_X4_isApart zk_X4_109 zs_X4_isApart (by decide) rfl (Nat.le_of_ble_eq_true rfl) rfl rfl (by decide) (wc_m_addr E _ _) dn_X4_mayEnd_50 ?_
      refine zz_if_ne cx (tgt := 58) dn_X4_mayEnd_53 (by decide) h (fun h => ?_) (fun h => ?_)
      · refine zz_iconst cx dn_X4_mayEnd_56 (v := (0 : Int32)) (by decide) ?_
        obtain rfl := Option.some.inj h
        exact zz_zret cx cq rfl (by decide) (by decide) dn_X4_mayEnd_57
      · refine zz_iinc cx dn_X4_mayEnd_58 (d := (1 : Int32)) rfl (by decide) (by decide) rfl ?_
        refine zz_goto cx dn_X4_mayEnd_61 (tgt := 25) (by decide) ?_
        exact ih (x4 + (1 : Int32)) h
set_option maxHeartbeats 4000000 in
set_option maxRecDepth 100000 in
theorem z_mM_mayEnd_67 (E : ze_T) (n : Nat) (G : gs_T) (x2 x3 : Int32) (r : Int32) (X : zx_T) (cx : zx (zF E) X cn_X4_mayEnd yn_X4_mayEnd.cls { frames := 2, cells := 0, slots := 0, locals := 46 } 5) (cq : zq_i (zF E) X (wc_m E G) .boolean r) : ∀ (k : Nat) (x4 : Int32), mM_mayEnd_67 n G x2 x3 k x4 = some r → zj (zF E) X 0 0 (wc_m E G) 67 [some (.ref (ad_p E 0)), none, some (.int x2), some (.int x3), some (.int x4)] [] := by
  intro k
  induction k with
  | zero => intro x4 h; cases h
  | succ k ih =>
    intro x4 h
    rw [mM_mayEnd_67] at h
    refine zz_iload cx dn_X4_mayEnd_67 rfl ?_
    refine zz_aload_n cx dn_X4_mayEnd_69 rfl rfl ?_
    refine zz_get cx zi_X4 (v := .int (G.1 2)) (ci := 4) rfl 0 3 rfl (by decide) zk_X4_116 rfl dn_X4_mayEnd_70 ?_
    refine zz_icmp_ge cx (tgt := 106) dn_X4_mayEnd_73 (by decide) h (fun h => ?_) (fun h => ?_)
    · refine zz_aload_n cx dn_X4_mayEnd_106 rfl rfl ?_
      refine zz_get cx zi_X4 (v := .int (G.1 3)) (ci := 4) rfl 0 7 rfl (by decide) zk_X4_122 rfl dn_X4_mayEnd_107 ?_
      refine zz_bipush cx dn_X4_mayEnd_110 (v := (20 : Int32)) (by decide) ?_
      refine zz_icmp_ge cx (tgt := 119) dn_X4_mayEnd_112 (by decide) h (fun h => ?_) (fun h => ?_)
      · refine zz_iconst cx dn_X4_mayEnd_119 (v := (0 : Int32)) (by decide) ?_
        obtain rfl := Option.some.inj h
        exact zz_zret cx cq rfl (by decide) (by decide) dn_X4_mayEnd_120
      · refine zz_iconst cx dn_X4_mayEnd_115 (v := (1 : Int32)) (by decide) ?_
        refine zz_goto cx dn_X4_mayEnd_116 (tgt := 120) (by decide) ?_
        obtain rfl := Option.some.inj h
        exact zz_zret cx cq rfl (by decide) (by decide) dn_X4_mayEnd_120
    · refine zz_iload_n cx dn_X4_mayEnd_76 rfl rfl ?_
      refine zz_iload_n cx dn_X4_mayEnd_77 rfl rfl ?_
      refine zz_aload_n cx dn_X4_mayEnd_78 rfl rfl ?_
      refine zz_get cx zi_X4 (v := .ref (ad_p E 2)) (ci := 4) rfl 0 4 rfl (by decide) zk_X4_13 rfl dn_X4_mayEnd_79 ?_
      refine zz_iload cx dn_X4_mayEnd_82 rfl ?_
      refine zz_iald cx 2 0 rfl rfl h (v := (gs_a G 1 x4)) rfl dn_X4_mayEnd_84 (fun h => ?_)
      refine zz_aload_n cx dn_X4_mayEnd_85 rfl rfl ?_
      refine zz_get cx zi_X4 (v := .ref (ad_p E 3)) (ci := 4) rfl 0 5 rfl (by decide) zk_X4_16 rfl dn_X4_mayEnd_86 ?_
      refine zz_iload cx dn_X4_mayEnd_89 rfl ?_
      refine zz_iald cx 3 0 rfl rfl h (v := (gs_a G 2 x4)) rfl dn_X4_mayEnd_91 (fun h => ?_)
      refine gs_bind h (fun q1 e_q1 h => ?_)
      refine zz_callSi cx (As := [.int x2, .int x3, .int (gs_a G 1 x4), .int (gs_a G 2 x4)]) (rest := []) (c2 := 0) (s2 := 0) (z_mM_liesWell E G x2 x3 (gs_a G 1 x4) (gs_a G 2 x4) _ e_q1) zm_X4_liesWell zk_X4_119 zs_X4_liesWell (by decide) rfl (Nat.le_of_ble_eq_true rfl) rfl rfl (by decide) (wc_m_addr E _ _) dn_X4_mayEnd_92 ?_
      refine zz_if_ne cx (tgt := 100) dn_X4_mayEnd_95 (by decide) h (fun h => ?_) (fun h => ?_)
      · refine zz_iconst cx dn_X4_mayEnd_98 (v := (0 : Int32)) (by decide) ?_
        obtain rfl := Option.some.inj h
        exact zz_zret cx cq rfl (by decide) (by decide) dn_X4_mayEnd_99
      · refine zz_iinc cx dn_X4_mayEnd_100 (d := (1 : Int32)) rfl (by decide) (by decide) rfl ?_
        refine zz_goto cx dn_X4_mayEnd_103 (tgt := 67) (by decide) ?_
        exact ih (x4 + (1 : Int32)) h
set_option maxHeartbeats 4000000 in
set_option maxRecDepth 100000 in
theorem z_mM_mayEnd (E : ze_T) (n : Nat) (G : gs_T) (x1 x2 x3 : Int32) (r : Int32) (h : mM_mayEnd n G x1 x2 x3 = some r) : zc_i (zF E) (wc_m E G) (wc_m E G) yn_X4_mayEnd cn_X4_mayEnd 5 .boolean { frames := 2, cells := 0, slots := 0, locals := 46 } [.ref (ad_p E 0), .int x1, .int x2, .int x3] r := by
  unfold mM_mayEnd at h
  refine zc_i_of (by decide) rfl (Nat.le_of_ble_eq_true rfl) (fun X cx cq => ?_)
  refine zz_iload_n cx dn_X4_mayEnd_0 rfl rfl ?_
  refine zz_iload_n cx dn_X4_mayEnd_1 rfl rfl ?_
  refine zz_aload_n cx dn_X4_mayEnd_2 rfl rfl ?_
  refine zz_get cx zi_X4 (v := .ref (ad_p E 2)) (ci := 4) rfl 0 4 rfl (by decide) zk_X4_13 rfl dn_X4_mayEnd_3 ?_
  refine zz_iload_n cx dn_X4_mayEnd_6 rfl rfl ?_
  refine zz_iald cx 2 0 rfl rfl h (v := (gs_a G 1 x1)) rfl dn_X4_mayEnd_7 (fun h => ?_)
  refine zz_aload_n cx dn_X4_mayEnd_8 rfl rfl ?_
  refine zz_get cx zi_X4 (v := .ref (ad_p E 3)) (ci := 4) rfl 0 5 rfl (by decide) zk_X4_16 rfl dn_X4_mayEnd_9 ?_
  refine zz_iload_n cx dn_X4_mayEnd_12 rfl rfl ?_
  refine zz_iald cx 3 0 rfl rfl h (v := (gs_a G 2 x1)) rfl dn_X4_mayEnd_13 (fun h => ?_)
  refine gs_bind h (fun q1 e_q1 h => ?_)
  refine zz_callSi cx (As := [.int x2, .int x3, .int (gs_a G 1 x1), .int (gs_a G 2 x1)]) (rest := []) (c2 := 0) (s2 := 0) (z_mM_isWithin E G x2 x3 (gs_a G 1 x1) (gs_a G 2 x1) _ e_q1) zm_X4_isWithin zk_X4_113 zs_X4_isWithin (by decide) rfl (Nat.le_of_ble_eq_true rfl) rfl rfl (by decide) (wc_m_addr E _ _) dn_X4_mayEnd_14 ?_
  refine zz_if_ne cx (tgt := 22) dn_X4_mayEnd_17 (by decide) h (fun h => ?_) (fun h => ?_)
  · refine zz_iconst cx dn_X4_mayEnd_20 (v := (0 : Int32)) (by decide) ?_
    obtain rfl := Option.some.inj h
    exact zz_zret cx cq rfl (by decide) (by decide) dn_X4_mayEnd_21
  · refine zz_iconst cx dn_X4_mayEnd_22 (v := (0 : Int32)) (by decide) ?_
    refine zz_istore cx dn_X4_mayEnd_23 (by decide) rfl ?_
    refine zz_less (L2 := [some (.ref (ad_p E 0)), none, some (.int x2), some (.int x3), some (.int (0 : Int32))]) (⟨rfl, rfl, rfl, rfl, trivial⟩) ?_
    refine z_mM_mayEnd_25 E n G x2 x3 _ _ X cx cq ?_ n (0 : Int32) h
    intro _ h
    refine zz_iconst cx dn_X4_mayEnd_64 (v := (0 : Int32)) (by decide) ?_
    refine zz_istore cx dn_X4_mayEnd_65 (by decide) rfl ?_
    exact z_mM_mayEnd_67 E n G x2 x3 _ X cx cq n (0 : Int32) h
set_option maxHeartbeats 4000000 in
set_option maxRecDepth 100000 in
theorem z_mM_ending_j111 (E : ze_T) (n : Nat) (G : gs_T) (x1 x2 x3 x4 s0 s1 s2 : Int32) (r : (Int32 × gs_T)) (X : zx_T) (cx : zx (zF E) X cn_X4_ending yn_X4_ending.cls { frames := 3, cells := 0, slots := 0, locals := 70 } 7) (cq : zq_i (zF E) X (wc_m E r.2) .int r.1) (h : mM_ending_j111 n G x1 x2 x3 x4 s0 s1 s2 = some r) : zj (zF E) X 0 0 (wc_m E G) 111 [some (.ref (ad_p E 0)), some (.int x1), some (.int x2), some (.int x3), some (.int x4), none, none] [.int s2, .int s1, .int s0, .ref (ad_p E 0)] := by
  unfold mM_ending_j111 at h
  refine gs_bind h (fun q1 e_q1 h => ?_)
  refine zz_callVi cx (As := [.int s0, .int s1, .int s2]) (rest := []) (c2 := 0) (s2 := 0) (z_mM_refuses E G s0 s1 s2 _ e_q1) zm_X4_refuses zk_X4_105 zv_X4_refuses 0 rfl rfl (by decide) rfl (Nat.le_of_ble_eq_true rfl) rfl rfl (by decide) (wc_m_addr E _ _) dn_X4_ending_111 ?_
  refine zz_if_eq cx (tgt := 119) dn_X4_ending_114 (by decide) h (fun h => ?_) (fun h => ?_)
  · refine zz_aload_n cx dn_X4_ending_119 rfl rfl ?_
    refine zz_get cx zi_X4 (v := .ref (ad_p E 5)) (ci := 4) rfl 0 8 rfl (by decide) zk_X4_22 rfl dn_X4_ending_120 ?_
    refine zz_aload_n cx dn_X4_ending_123 rfl rfl ?_
    refine zz_get cx zi_X4 (v := .int (q1.2.1 3)) (ci := 4) rfl 0 7 rfl (by decide) zk_X4_122 rfl dn_X4_ending_124 ?_
    refine zz_iload_n cx dn_X4_ending_127 rfl rfl ?_
    refine zz_iast cx 5 0 rfl rfl h (ws2 := (wc_m E (gs_sa q1.2 4 (q1.2.1 3) x1))) (wc_m_a4 E _ _ _) dn_X4_ending_128 (fun h => ?_)
    refine zz_aload_n cx dn_X4_ending_129 rfl rfl ?_
    refine zz_get cx zi_X4 (v := .ref (ad_p E 6)) (ci := 4) rfl 0 9 rfl (by decide) zk_X4_25 rfl dn_X4_ending_130 ?_
    refine zz_aload_n cx dn_X4_ending_133 rfl rfl ?_
    refine zz_get cx zi_X4 (v := .int (q1.2.1 3)) (ci := 4) rfl 0 7 rfl (by decide) zk_X4_122 rfl dn_X4_ending_134 ?_
    refine zz_iload_n cx dn_X4_ending_137 rfl rfl ?_
    refine zz_iast cx 6 0 rfl rfl h (ws2 := (wc_m E (gs_sa (gs_sa q1.2 4 (q1.2.1 3) x1) 5 (q1.2.1 3) x2))) (wc_m_a5 E _ _ _) dn_X4_ending_138 (fun h => ?_)
    refine zz_aload_n cx dn_X4_ending_139 rfl rfl ?_
    refine zz_get cx zi_X4 (v := .ref (ad_p E 7)) (ci := 4) rfl 0 10 rfl (by decide) zk_X4_28 rfl dn_X4_ending_140 ?_
    refine zz_aload_n cx dn_X4_ending_143 rfl rfl ?_
    refine zz_get cx zi_X4 (v := .int (q1.2.1 3)) (ci := 4) rfl 0 7 rfl (by decide) zk_X4_122 rfl dn_X4_ending_144 ?_
    refine zz_iload_n cx dn_X4_ending_147 rfl rfl ?_
    refine zz_iast cx 7 0 rfl rfl h (ws2 := (wc_m E (gs_sa (gs_sa (gs_sa q1.2 4 (q1.2.1 3) x1) 5 (q1.2.1 3) x2) 6 (q1.2.1 3) x3))) (wc_m_a6 E _ _ _) dn_X4_ending_148 (fun h => ?_)
    refine zz_aload_n cx dn_X4_ending_149 rfl rfl ?_
    refine zz_get cx zi_X4 (v := .ref (ad_p E 8)) (ci := 4) rfl 0 11 rfl (by decide) zk_X4_31 rfl dn_X4_ending_150 ?_
    refine zz_aload_n cx dn_X4_ending_153 rfl rfl ?_
    refine zz_get cx zi_X4 (v := .int (q1.2.1 3)) (ci := 4) rfl 0 7 rfl (by decide) zk_X4_122 rfl dn_X4_ending_154 ?_
    refine zz_iload cx dn_X4_ending_157 rfl ?_
    refine zz_iast cx 8 0 rfl rfl h (ws2 := (wc_m E (gs_sa (gs_sa (gs_sa (gs_sa q1.2 4 (q1.2.1 3) x1) 5 (q1.2.1 3) x2) 6 (q1.2.1 3) x3) 7 (q1.2.1 3) x4))) (wc_m_a7 E _ _ _) dn_X4_ending_159 (fun h => ?_)
    refine zz_aload_n cx dn_X4_ending_160 rfl rfl ?_
    refine zz_dup cx dn_X4_ending_161 rfl ?_
    refine zz_get cx zi_X4 (v := .int (q1.2.1 3)) (ci := 4) rfl 0 7 rfl (by decide) zk_X4_122 rfl dn_X4_ending_162 ?_
    refine zz_iconst cx dn_X4_ending_165 (v := (1 : Int32)) (by decide) ?_
    refine zz_iadd cx dn_X4_ending_166 ?_
    refine zz_put cx (ws2 := (wc_m E (gs_sv (gs_sa (gs_sa (gs_sa (gs_sa q1.2 4 (q1.2.1 3) x1) 5 (q1.2.1 3) x2) 6 (q1.2.1 3) x3) 7 (q1.2.1 3) x4) 3 ((q1.2.1 3) + (1 : Int32))))) (ty := .int) (ci := 4) zi_X4 fk_X4 nm_X4 rfl 0 7 rfl (by decide) zk_X4_122 rfl (by decide +kernel) rfl rfl (Nat.le_of_ble_eq_true rfl) (wc_m_s3 E _ _) dn_X4_ending_167 ?_
    refine zz_aload_n cx dn_X4_ending_170 rfl rfl ?_
    refine zz_get cx zi_X4 (v := .int ((q1.2.1 3) + (1 : Int32))) (ci := 4) rfl 0 7 rfl (by decide) zk_X4_122 rfl dn_X4_ending_171 ?_
    refine zz_iconst cx dn_X4_ending_174 (v := (1 : Int32)) (by decide) ?_
    refine zz_isub cx dn_X4_ending_175 ?_
    obtain rfl := Option.some.inj h
    exact zz_iret cx cq (by decide) (by decide) dn_X4_ending_176
  · refine zz_iconst cx dn_X4_ending_117 (v := (0 : Int32)) (by decide) ?_
    obtain rfl := Option.some.inj h
    exact zz_iret cx cq (by decide) (by decide) dn_X4_ending_118
set_option maxHeartbeats 4000000 in
set_option maxRecDepth 100000 in
theorem z_mM_ending_j110 (E : ze_T) (n : Nat) (G : gs_T) (x1 x2 x3 x4 s0 s1 : Int32) (r : (Int32 × gs_T)) (X : zx_T) (cx : zx (zF E) X cn_X4_ending yn_X4_ending.cls { frames := 3, cells := 0, slots := 0, locals := 70 } 7) (cq : zq_i (zF E) X (wc_m E r.2) .int r.1) (h : mM_ending_j110 n G x1 x2 x3 x4 s0 s1 = some r) : zj (zF E) X 0 0 (wc_m E G) 110 [some (.ref (ad_p E 0)), some (.int x1), some (.int x2), some (.int x3), some (.int x4), none, none] [.int s1, .int s0, .ref (ad_p E 0)] := by
  unfold mM_ending_j110 at h
  refine zz_iconst cx dn_X4_ending_110 (v := (0 : Int32)) (by decide) ?_
  exact z_mM_ending_j111 E n G x1 x2 x3 x4 s0 s1 (0 : Int32) _ X cx cq h
set_option maxHeartbeats 4000000 in
set_option maxRecDepth 100000 in
theorem z_mM_ending_j91 (E : ze_T) (n : Nat) (G : gs_T) (x1 x2 x3 x4 x6 s0 s1 : Int32) (r : (Int32 × gs_T)) (X : zx_T) (cx : zx (zF E) X cn_X4_ending yn_X4_ending.cls { frames := 3, cells := 0, slots := 0, locals := 70 } 7) (cq : zq_i (zF E) X (wc_m E r.2) .int r.1) (h : mM_ending_j91 n G x1 x2 x3 x4 x6 s0 s1 = some r) : zj (zF E) X 0 0 (wc_m E G) 91 [some (.ref (ad_p E 0)), some (.int x1), some (.int x2), some (.int x3), some (.int x4), none, some (.int x6)] [.int s1, .int s0, .ref (ad_p E 0)] := by
  unfold mM_ending_j91 at h
  refine zz_iload cx dn_X4_ending_91 rfl ?_
  refine zz_if_eq cx (tgt := 110) dn_X4_ending_93 (by decide) h (fun h => ?_) (fun h => ?_)
  · refine zz_less (L2 := [some (.ref (ad_p E 0)), some (.int x1), some (.int x2), some (.int x3), some (.int x4), none, none]) (⟨rfl, rfl, rfl, rfl, rfl, trivial⟩) ?_
    exact z_mM_ending_j110 E n G x1 x2 x3 x4 s0 s1 _ X cx cq h
  · refine zz_aload_n cx dn_X4_ending_96 rfl rfl ?_
    refine zz_iload_n cx dn_X4_ending_97 rfl rfl ?_
    refine zz_iload_n cx dn_X4_ending_98 rfl rfl ?_
    refine zz_iload_n cx dn_X4_ending_99 rfl rfl ?_
    refine gs_bind h (fun q1 e_q1 h => ?_)
    refine zz_callVi cx (As := [.int x1, .int x2, .int x3]) (rest := [.int s1, .int s0, .ref (ad_p E 0)]) (c2 := 0) (s2 := 0) (z_mM_mayEnd E n G x1 x2 x3 _ e_q1) zm_X4_mayEnd zk_X4_136 zv_X4_mayEnd 0 rfl rfl (by decide) rfl (Nat.le_of_ble_eq_true rfl) rfl rfl (by decide) (wc_m_addr E _ _) dn_X4_ending_100 ?_
    refine zz_if_ne cx (tgt := 110) dn_X4_ending_103 (by decide) h (fun h => ?_) (fun h => ?_)
    · refine zz_iconst cx dn_X4_ending_106 (v := (1 : Int32)) (by decide) ?_
      refine zz_goto cx dn_X4_ending_107 (tgt := 111) (by decide) ?_
      refine zz_less (L2 := [some (.ref (ad_p E 0)), some (.int x1), some (.int x2), some (.int x3), some (.int x4), none, none]) (⟨rfl, rfl, rfl, rfl, rfl, trivial⟩) ?_
      exact z_mM_ending_j111 E n G x1 x2 x3 x4 s0 s1 (1 : Int32) _ X cx cq h
    · refine zz_less (L2 := [some (.ref (ad_p E 0)), some (.int x1), some (.int x2), some (.int x3), some (.int x4), none, none]) (⟨rfl, rfl, rfl, rfl, rfl, trivial⟩) ?_
      exact z_mM_ending_j110 E n G x1 x2 x3 x4 s0 s1 _ X cx cq h
set_option maxHeartbeats 4000000 in
set_option maxRecDepth 100000 in
theorem z_mM_ending_j81 (E : ze_T) (n : Nat) (G : gs_T) (x1 x2 x3 x4 x6 s0 : Int32) (r : (Int32 × gs_T)) (X : zx_T) (cx : zx (zF E) X cn_X4_ending yn_X4_ending.cls { frames := 3, cells := 0, slots := 0, locals := 70 } 7) (cq : zq_i (zF E) X (wc_m E r.2) .int r.1) (h : mM_ending_j81 n G x1 x2 x3 x4 x6 s0 = some r) : zj (zF E) X 0 0 (wc_m E G) 81 [some (.ref (ad_p E 0)), some (.int x1), some (.int x2), some (.int x3), some (.int x4), none, some (.int x6)] [.int s0, .ref (ad_p E 0)] := by
  unfold mM_ending_j81 at h
  refine zz_iload cx dn_X4_ending_81 rfl ?_
  refine zz_if_ne cx (tgt := 90) dn_X4_ending_83 (by decide) h (fun h => ?_) (fun h => ?_)
  · refine zz_iconst cx dn_X4_ending_86 (v := (1 : Int32)) (by decide) ?_
    refine zz_goto cx dn_X4_ending_87 (tgt := 91) (by decide) ?_
    exact z_mM_ending_j91 E n G x1 x2 x3 x4 x6 s0 (1 : Int32) _ X cx cq h
  · refine zz_iconst cx dn_X4_ending_90 (v := (0 : Int32)) (by decide) ?_
    exact z_mM_ending_j91 E n G x1 x2 x3 x4 x6 s0 (0 : Int32) _ X cx cq h
set_option maxHeartbeats 4000000 in
set_option maxRecDepth 100000 in
theorem z_mM_ending_j68 (E : ze_T) (n : Nat) (G : gs_T) (x1 x2 x3 x4 x5 s0 : Int32) (r : (Int32 × gs_T)) (X : zx_T) (cx : zx (zF E) X cn_X4_ending yn_X4_ending.cls { frames := 3, cells := 0, slots := 0, locals := 70 } 7) (cq : zq_i (zF E) X (wc_m E r.2) .int r.1) (h : mM_ending_j68 n G x1 x2 x3 x4 x5 s0 = some r) : zj (zF E) X 0 0 (wc_m E G) 68 [some (.ref (ad_p E 0)), some (.int x1), some (.int x2), some (.int x3), some (.int x4), some (.int x5), none] [.int s0] := by
  unfold mM_ending_j68 at h
  refine zz_istore cx dn_X4_ending_68 (by decide) rfl ?_
  refine zz_aload_n cx dn_X4_ending_70 rfl rfl ?_
  refine zz_iload cx dn_X4_ending_71 rfl ?_
  refine zz_if_ne cx (tgt := 80) dn_X4_ending_73 (by decide) h (fun h => ?_) (fun h => ?_)
  · refine zz_iconst cx dn_X4_ending_76 (v := (1 : Int32)) (by decide) ?_
    refine zz_goto cx dn_X4_ending_77 (tgt := 81) (by decide) ?_
    refine zz_less (L2 := [some (.ref (ad_p E 0)), some (.int x1), some (.int x2), some (.int x3), some (.int x4), none, some (.int s0)]) (⟨rfl, rfl, rfl, rfl, rfl, rfl, trivial⟩) ?_
    exact z_mM_ending_j81 E n G x1 x2 x3 x4 s0 (1 : Int32) _ X cx cq h
  · refine zz_iconst cx dn_X4_ending_80 (v := (0 : Int32)) (by decide) ?_
    refine zz_less (L2 := [some (.ref (ad_p E 0)), some (.int x1), some (.int x2), some (.int x3), some (.int x4), none, some (.int s0)]) (⟨rfl, rfl, rfl, rfl, rfl, rfl, trivial⟩) ?_
    exact z_mM_ending_j81 E n G x1 x2 x3 x4 s0 (0 : Int32) _ X cx cq h
set_option maxHeartbeats 4000000 in
set_option maxRecDepth 100000 in
theorem z_mM_ending_j67 (E : ze_T) (n : Nat) (G : gs_T) (x1 x2 x3 x4 x5 : Int32) (r : (Int32 × gs_T)) (X : zx_T) (cx : zx (zF E) X cn_X4_ending yn_X4_ending.cls { frames := 3, cells := 0, slots := 0, locals := 70 } 7) (cq : zq_i (zF E) X (wc_m E r.2) .int r.1) (h : mM_ending_j67 n G x1 x2 x3 x4 x5 = some r) : zj (zF E) X 0 0 (wc_m E G) 67 [some (.ref (ad_p E 0)), some (.int x1), some (.int x2), some (.int x3), some (.int x4), some (.int x5), none] [] := by
  unfold mM_ending_j67 at h
  refine zz_iconst cx dn_X4_ending_67 (v := (0 : Int32)) (by decide) ?_
  exact z_mM_ending_j68 E n G x1 x2 x3 x4 x5 (0 : Int32) _ X cx cq h
set_option maxHeartbeats 4000000 in
set_option maxRecDepth 100000 in
theorem z_mM_ending_j33 (E : ze_T) (n : Nat) (G : gs_T) (x1 x2 x3 x4 s0 : Int32) (r : (Int32 × gs_T)) (X : zx_T) (cx : zx (zF E) X cn_X4_ending yn_X4_ending.cls { frames := 3, cells := 0, slots := 0, locals := 70 } 7) (cq : zq_i (zF E) X (wc_m E r.2) .int r.1) (h : mM_ending_j33 n G x1 x2 x3 x4 s0 = some r) : zj (zF E) X 0 0 (wc_m E G) 33 [some (.ref (ad_p E 0)), some (.int x1), some (.int x2), some (.int x3), some (.int x4), none, none] [.int s0] := by
  unfold mM_ending_j33 at h
  refine zz_istore cx dn_X4_ending_33 (by decide) rfl ?_
  refine zz_iload cx dn_X4_ending_35 rfl ?_
  refine zz_if_eq cx (tgt := 67) dn_X4_ending_37 (by decide) h (fun h => ?_) (fun h => ?_)
  · exact z_mM_ending_j67 E n G x1 x2 x3 x4 s0 _ X cx cq h
  · refine zz_iload_n cx dn_X4_ending_40 rfl rfl ?_
    refine zz_iload_n cx dn_X4_ending_41 rfl rfl ?_
    refine zz_icmp_lt cx (tgt := 67) dn_X4_ending_42 (by decide) h (fun h => ?_) (fun h => ?_)
    · exact z_mM_ending_j67 E n G x1 x2 x3 x4 s0 _ X cx cq h
    · refine zz_iload cx dn_X4_ending_45 rfl ?_
      refine zz_if_le cx (tgt := 67) dn_X4_ending_47 (by decide) h (fun h => ?_) (fun h => ?_)
      · exact z_mM_ending_j67 E n G x1 x2 x3 x4 s0 _ X cx cq h
      · refine zz_iload cx dn_X4_ending_50 rfl ?_
        refine zz_iconst cx dn_X4_ending_52 (v := (1 : Int32)) (by decide) ?_
        refine zz_aload_n cx dn_X4_ending_53 rfl rfl ?_
        refine zz_get cx zi_X4 (v := .ref (ad_p E 4)) (ci := 4) rfl 0 6 rfl (by decide) zk_X4_19 rfl dn_X4_ending_54 ?_
        refine zz_iload_n cx dn_X4_ending_57 rfl rfl ?_
        refine zz_iald cx 4 0 rfl rfl h (v := (gs_a G 3 x1)) rfl dn_X4_ending_58 (fun h => ?_)
        refine zz_ishl cx dn_X4_ending_59 ?_
        refine zz_icmp_ge cx (tgt := 67) dn_X4_ending_60 (by decide) h (fun h => ?_) (fun h => ?_)
        · exact z_mM_ending_j67 E n G x1 x2 x3 x4 s0 _ X cx cq h
        · refine zz_iconst cx dn_X4_ending_63 (v := (1 : Int32)) (by decide) ?_
          refine zz_goto cx dn_X4_ending_64 (tgt := 68) (by decide) ?_
          exact z_mM_ending_j68 E n G x1 x2 x3 x4 s0 (1 : Int32) _ X cx cq h
set_option maxHeartbeats 4000000 in
set_option maxRecDepth 100000 in
theorem z_mM_ending_j32 (E : ze_T) (n : Nat) (G : gs_T) (x1 x2 x3 x4 : Int32) (r : (Int32 × gs_T)) (X : zx_T) (cx : zx (zF E) X cn_X4_ending yn_X4_ending.cls { frames := 3, cells := 0, slots := 0, locals := 70 } 7) (cq : zq_i (zF E) X (wc_m E r.2) .int r.1) (h : mM_ending_j32 n G x1 x2 x3 x4 = some r) : zj (zF E) X 0 0 (wc_m E G) 32 [some (.ref (ad_p E 0)), some (.int x1), some (.int x2), some (.int x3), some (.int x4), none, none] [] := by
  unfold mM_ending_j32 at h
  refine zz_iconst cx dn_X4_ending_32 (v := (0 : Int32)) (by decide) ?_
  exact z_mM_ending_j33 E n G x1 x2 x3 x4 (0 : Int32) _ X cx cq h
set_option maxHeartbeats 4000000 in
set_option maxRecDepth 100000 in
theorem z_mM_ending (E : ze_T) (n : Nat) (G : gs_T) (x1 x2 x3 x4 : Int32) (r : (Int32 × gs_T)) (h : mM_ending n G x1 x2 x3 x4 = some r) : zc_i (zF E) (wc_m E G) (wc_m E r.2) yn_X4_ending cn_X4_ending 7 .int { frames := 3, cells := 0, slots := 0, locals := 70 } [.ref (ad_p E 0), .int x1, .int x2, .int x3, .int x4] r.1 := by
  unfold mM_ending at h
  refine zc_i_of (by decide) rfl (Nat.le_of_ble_eq_true rfl) (fun X cx cq => ?_)
  refine zz_iload_n cx dn_X4_ending_0 rfl rfl ?_
  refine zz_if_lt cx (tgt := 32) dn_X4_ending_1 (by decide) h (fun h => ?_) (fun h => ?_)
  · exact z_mM_ending_j32 E n G x1 x2 x3 x4 _ X cx cq h
  · refine zz_iload_n cx dn_X4_ending_4 rfl rfl ?_
    refine zz_aload_n cx dn_X4_ending_5 rfl rfl ?_
    refine zz_get cx zi_X4 (v := .int (G.1 2)) (ci := 4) rfl 0 3 rfl (by decide) zk_X4_116 rfl dn_X4_ending_6 ?_
    refine zz_icmp_ge cx (tgt := 32) dn_X4_ending_9 (by decide) h (fun h => ?_) (fun h => ?_)
    · exact z_mM_ending_j32 E n G x1 x2 x3 x4 _ X cx cq h
    · refine zz_aload_n cx dn_X4_ending_12 rfl rfl ?_
      refine zz_iload_n cx dn_X4_ending_13 rfl rfl ?_
      refine gs_bind h (fun q1 e_q1 h => ?_)
      refine zz_callVi cx (As := [.int x2]) (rest := []) (c2 := 0) (s2 := 0) (z_mM_isBar E G x2 _ e_q1) zm_X4_isBar zk_X4_129 zv_X4_isBar 0 rfl rfl (by decide) rfl (Nat.le_of_ble_eq_true rfl) rfl rfl (by decide) (wc_m_addr E _ _) dn_X4_ending_14 ?_
      refine zz_if_eq cx (tgt := 32) dn_X4_ending_17 (by decide) h (fun h => ?_) (fun h => ?_)
      · exact z_mM_ending_j32 E n G x1 x2 x3 x4 _ X cx cq h
      · refine zz_aload_n cx dn_X4_ending_20 rfl rfl ?_
        refine zz_iload_n cx dn_X4_ending_21 rfl rfl ?_
        refine gs_bind h (fun q2 e_q2 h => ?_)
        refine zz_callVi cx (As := [.int x3]) (rest := []) (c2 := 0) (s2 := 0) (z_mM_isBar E G x3 _ e_q2) zm_X4_isBar zk_X4_129 zv_X4_isBar 0 rfl rfl (by decide) rfl (Nat.le_of_ble_eq_true rfl) rfl rfl (by decide) (wc_m_addr E _ _) dn_X4_ending_22 ?_
        refine zz_if_eq cx (tgt := 32) dn_X4_ending_25 (by decide) h (fun h => ?_) (fun h => ?_)
        · exact z_mM_ending_j32 E n G x1 x2 x3 x4 _ X cx cq h
        · refine zz_iconst cx dn_X4_ending_28 (v := (1 : Int32)) (by decide) ?_
          refine zz_goto cx dn_X4_ending_29 (tgt := 33) (by decide) ?_
          exact z_mM_ending_j33 E n G x1 x2 x3 x4 (1 : Int32) _ X cx cq h
set_option maxHeartbeats 4000000 in
set_option maxRecDepth 100000 in
theorem z_mM_sign_j33 (E : ze_T) (G : gs_T) (x1 x2 s0 s1 : Int32) (r : (Int32 × gs_T)) (X : zx_T) (cx : zx (zF E) X cn_X4_sign yn_X4_sign.cls { frames := 1, cells := 0, slots := 0, locals := 23 } 4) (cq : zq_i (zF E) X (wc_m E r.2) .int r.1) (h : mM_sign_j33 G x1 x2 s0 s1 = some r) : zj (zF E) X 0 0 (wc_m E G) 33 [some (.ref (ad_p E 0)), some (.int x1), some (.int x2), none] [.int s1, .int s0, .ref (ad_p E 0)] := by
  unfold mM_sign_j33 at h
  refine zz_iconst cx dn_X4_sign_33 (v := (0 : Int32)) (by decide) ?_
  refine gs_bind h (fun q1 e_q1 h => ?_)
  refine zz_callVi cx (As := [.int s0, .int s1, .int (0 : Int32)]) (rest := []) (c2 := 0) (s2 := 0) (z_mM_refuses E G s0 s1 (0 : Int32) _ e_q1) zm_X4_refuses zk_X4_105 zv_X4_refuses 0 rfl rfl (by decide) rfl (Nat.le_of_ble_eq_true rfl) rfl rfl (by decide) (wc_m_addr E _ _) dn_X4_sign_34 ?_
  refine zz_if_eq cx (tgt := 42) dn_X4_sign_37 (by decide) h (fun h => ?_) (fun h => ?_)
  · refine zz_aload_n cx dn_X4_sign_42 rfl rfl ?_
    refine zz_get cx zi_X4 (v := .ref (ad_p E 9)) (ci := 4) rfl 0 12 rfl (by decide) zk_X4_34 rfl dn_X4_sign_43 ?_
    refine zz_iload_n cx dn_X4_sign_46 rfl rfl ?_
    refine zz_iald cx 9 0 rfl rfl h (v := (gs_a q1.2 8 x1)) rfl dn_X4_sign_47 (fun h => ?_)
    refine zz_istore_n cx dn_X4_sign_48 rfl (by decide) rfl ?_
    refine zz_aload_n cx dn_X4_sign_49 rfl rfl ?_
    refine zz_get cx zi_X4 (v := .ref (ad_p E 9)) (ci := 4) rfl 0 12 rfl (by decide) zk_X4_34 rfl dn_X4_sign_50 ?_
    refine zz_iload_n cx dn_X4_sign_53 rfl rfl ?_
    refine zz_iload_n cx dn_X4_sign_54 rfl rfl ?_
    refine zz_iast cx 9 0 rfl rfl h (ws2 := (wc_m E (gs_sa q1.2 8 x1 x2))) (wc_m_a8 E _ _ _) dn_X4_sign_55 (fun h => ?_)
    refine zz_iload_n cx dn_X4_sign_56 rfl rfl ?_
    obtain rfl := Option.some.inj h
    exact zz_iret cx cq (by decide) (by decide) dn_X4_sign_57
  · refine zz_iconst cx dn_X4_sign_40 (v := (0 : Int32)) (by decide) ?_
    obtain rfl := Option.some.inj h
    exact zz_iret cx cq (by decide) (by decide) dn_X4_sign_41
set_option maxHeartbeats 4000000 in
set_option maxRecDepth 100000 in
theorem z_mM_sign_j32 (E : ze_T) (G : gs_T) (x1 x2 s0 : Int32) (r : (Int32 × gs_T)) (X : zx_T) (cx : zx (zF E) X cn_X4_sign yn_X4_sign.cls { frames := 1, cells := 0, slots := 0, locals := 23 } 4) (cq : zq_i (zF E) X (wc_m E r.2) .int r.1) (h : mM_sign_j32 G x1 x2 s0 = some r) : zj (zF E) X 0 0 (wc_m E G) 32 [some (.ref (ad_p E 0)), some (.int x1), some (.int x2), none] [.int s0, .ref (ad_p E 0)] := by
  unfold mM_sign_j32 at h
  refine zz_iconst cx dn_X4_sign_32 (v := (0 : Int32)) (by decide) ?_
  exact z_mM_sign_j33 E G x1 x2 s0 (0 : Int32) _ X cx cq h
set_option maxHeartbeats 4000000 in
set_option maxRecDepth 100000 in
theorem z_mM_sign_j15 (E : ze_T) (G : gs_T) (x1 x2 s0 : Int32) (r : (Int32 × gs_T)) (X : zx_T) (cx : zx (zF E) X cn_X4_sign yn_X4_sign.cls { frames := 1, cells := 0, slots := 0, locals := 23 } 4) (cq : zq_i (zF E) X (wc_m E r.2) .int r.1) (h : mM_sign_j15 G x1 x2 s0 = some r) : zj (zF E) X 0 0 (wc_m E G) 15 [some (.ref (ad_p E 0)), some (.int x1), some (.int x2), none] [.int s0, .ref (ad_p E 0)] := by
  unfold mM_sign_j15 at h
  refine zz_iload_n cx dn_X4_sign_15 rfl rfl ?_
  refine zz_iconst cx dn_X4_sign_16 (v := (-1 : Int32)) (by decide) ?_
  refine zz_icmp_eq cx (tgt := 32) dn_X4_sign_17 (by decide) h (fun h => ?_) (fun h => ?_)
  · exact z_mM_sign_j32 E G x1 x2 s0 _ X cx cq h
  · refine zz_aload_n cx dn_X4_sign_20 rfl rfl ?_
    refine zz_iload_n cx dn_X4_sign_21 rfl rfl ?_
    refine gs_bind h (fun q1 e_q1 h => ?_)
    refine zz_callVi cx (As := [.int x2]) (rest := [.int s0, .ref (ad_p E 0)]) (c2 := 0) (s2 := 0) (z_mM_isBar E G x2 _ e_q1) zm_X4_isBar zk_X4_129 zv_X4_isBar 0 rfl rfl (by decide) rfl (Nat.le_of_ble_eq_true rfl) rfl rfl (by decide) (wc_m_addr E _ _) dn_X4_sign_22 ?_
    refine zz_if_ne cx (tgt := 32) dn_X4_sign_25 (by decide) h (fun h => ?_) (fun h => ?_)
    · refine zz_iconst cx dn_X4_sign_28 (v := (1 : Int32)) (by decide) ?_
      refine zz_goto cx dn_X4_sign_29 (tgt := 33) (by decide) ?_
      exact z_mM_sign_j33 E G x1 x2 s0 (1 : Int32) _ X cx cq h
    · exact z_mM_sign_j32 E G x1 x2 s0 _ X cx cq h
set_option maxHeartbeats 4000000 in
set_option maxRecDepth 100000 in
theorem z_mM_sign_j10 (E : ze_T) (G : gs_T) (x1 x2 : Int32) (r : (Int32 × gs_T)) (X : zx_T) (cx : zx (zF E) X cn_X4_sign yn_X4_sign.cls { frames := 1, cells := 0, slots := 0, locals := 23 } 4) (cq : zq_i (zF E) X (wc_m E r.2) .int r.1) (h : mM_sign_j10 G x1 x2 = some r) : zj (zF E) X 0 0 (wc_m E G) 10 [some (.ref (ad_p E 0)), some (.int x1), some (.int x2), none] [.ref (ad_p E 0)] := by
  unfold mM_sign_j10 at h
  refine zz_iconst cx dn_X4_sign_10 (v := (1 : Int32)) (by decide) ?_
  refine zz_goto cx dn_X4_sign_11 (tgt := 15) (by decide) ?_
  exact z_mM_sign_j15 E G x1 x2 (1 : Int32) _ X cx cq h
set_option maxHeartbeats 4000000 in
set_option maxRecDepth 100000 in
theorem z_mM_sign (E : ze_T) (G : gs_T) (x1 x2 : Int32) (r : (Int32 × gs_T)) (h : mM_sign G x1 x2 = some r) : zc_i (zF E) (wc_m E G) (wc_m E r.2) yn_X4_sign cn_X4_sign 4 .int { frames := 1, cells := 0, slots := 0, locals := 23 } [.ref (ad_p E 0), .int x1, .int x2] r.1 := by
  unfold mM_sign at h
  refine zc_i_of (by decide) rfl (Nat.le_of_ble_eq_true rfl) (fun X cx cq => ?_)
  refine zz_aload_n cx dn_X4_sign_0 rfl rfl ?_
  refine zz_iload_n cx dn_X4_sign_1 rfl rfl ?_
  refine zz_if_lt cx (tgt := 10) dn_X4_sign_2 (by decide) h (fun h => ?_) (fun h => ?_)
  · exact z_mM_sign_j10 E G x1 x2 _ X cx cq h
  · refine zz_iload_n cx dn_X4_sign_5 rfl rfl ?_
    refine zz_iconst cx dn_X4_sign_6 (v := (3 : Int32)) (by decide) ?_
    refine zz_icmp_le cx (tgt := 14) dn_X4_sign_7 (by decide) h (fun h => ?_) (fun h => ?_)
    · refine zz_iconst cx dn_X4_sign_14 (v := (0 : Int32)) (by decide) ?_
      exact z_mM_sign_j15 E G x1 x2 (0 : Int32) _ X cx cq h
    · exact z_mM_sign_j10 E G x1 x2 _ X cx cq h
set_option maxHeartbeats 4000000 in
set_option maxRecDepth 100000 in
theorem z_mM_jump_j37 (E : ze_T) (G : gs_T) (x1 x2 x3 x4 s0 s1 : Int32) (r : gs_T) (X : zx_T) (cx : zx (zF E) X cn_X4_jump yn_X4_jump.cls { frames := 1, cells := 0, slots := 0, locals := 23 } 5) (cq : zq_v (zF E) X (wc_m E r)) (h : mM_jump_j37 G x1 x2 x3 x4 s0 s1 = some r) : zj (zF E) X 0 0 (wc_m E G) 37 [some (.ref (ad_p E 0)), some (.int x1), some (.int x2), some (.int x3), some (.int x4)] [.int s1, .int s0, .ref (ad_p E 0)] := by
  unfold mM_jump_j37 at h
  refine zz_iconst cx dn_X4_jump_37 (v := (0 : Int32)) (by decide) ?_
  refine gs_bind h (fun q1 e_q1 h => ?_)
  refine zz_callVi cx (As := [.int s0, .int s1, .int (0 : Int32)]) (rest := []) (c2 := 0) (s2 := 0) (z_mM_refuses E G s0 s1 (0 : Int32) _ e_q1) zm_X4_refuses zk_X4_105 zv_X4_refuses 0 rfl rfl (by decide) rfl (Nat.le_of_ble_eq_true rfl) rfl rfl (by decide) (wc_m_addr E _ _) dn_X4_jump_38 ?_
  refine zz_if_eq cx (tgt := 45) dn_X4_jump_41 (by decide) h (fun h => ?_) (fun h => ?_)
  · refine zz_aload_n cx dn_X4_jump_45 rfl rfl ?_
    refine zz_get cx zi_X4 (v := .ref (ad_p E 10)) (ci := 4) rfl 0 13 rfl (by decide) zk_X4_37 rfl dn_X4_jump_46 ?_
    refine zz_iload_n cx dn_X4_jump_49 rfl rfl ?_
    refine zz_iconst cx dn_X4_jump_50 (v := (1 : Int32)) (by decide) ?_
    refine zz_zast cx 10 1 rfl rfl h (ws2 := (wc_m E (gs_sa q1.2 9 x1 (vp_nar .boolean (1 : Int32))))) (wc_m_a9 E _ _ _) dn_X4_jump_51 (fun h => ?_)
    refine zz_aload_n cx dn_X4_jump_52 rfl rfl ?_
    refine zz_get cx zi_X4 (v := .ref (ad_p E 11)) (ci := 4) rfl 0 14 rfl (by decide) zk_X4_41 rfl dn_X4_jump_53 ?_
    refine zz_iload_n cx dn_X4_jump_56 rfl rfl ?_
    refine zz_iload_n cx dn_X4_jump_57 rfl rfl ?_
    refine zz_iast cx 11 0 rfl rfl h (ws2 := (wc_m E (gs_sa (gs_sa q1.2 9 x1 (vp_nar .boolean (1 : Int32))) 10 x1 x2))) (wc_m_a10 E _ _ _) dn_X4_jump_58 (fun h => ?_)
    refine zz_aload_n cx dn_X4_jump_59 rfl rfl ?_
    refine zz_get cx zi_X4 (v := .ref (ad_p E 12)) (ci := 4) rfl 0 15 rfl (by decide) zk_X4_44 rfl dn_X4_jump_60 ?_
    refine zz_iload_n cx dn_X4_jump_63 rfl rfl ?_
    refine zz_iload_n cx dn_X4_jump_64 rfl rfl ?_
    refine zz_iast cx 12 0 rfl rfl h (ws2 := (wc_m E (gs_sa (gs_sa (gs_sa q1.2 9 x1 (vp_nar .boolean (1 : Int32))) 10 x1 x2) 11 x1 x3))) (wc_m_a11 E _ _ _) dn_X4_jump_65 (fun h => ?_)
    refine zz_aload_n cx dn_X4_jump_66 rfl rfl ?_
    refine zz_get cx zi_X4 (v := .ref (ad_p E 13)) (ci := 4) rfl 0 16 rfl (by decide) zk_X4_47 rfl dn_X4_jump_67 ?_
    refine zz_iload_n cx dn_X4_jump_70 rfl rfl ?_
    refine zz_iload cx dn_X4_jump_71 rfl ?_
    refine zz_zast cx 13 1 rfl rfl h (ws2 := (wc_m E (gs_sa (gs_sa (gs_sa (gs_sa q1.2 9 x1 (vp_nar .boolean (1 : Int32))) 10 x1 x2) 11 x1 x3) 12 x1 (vp_nar .boolean x4)))) (wc_m_a12 E _ _ _) dn_X4_jump_73 (fun h => ?_)
    obtain rfl := Option.some.inj h
    exact zz_vret cx cq (by decide) (by decide) dn_X4_jump_74
  · obtain rfl := Option.some.inj h
    exact zz_vret cx cq (by decide) (by decide) dn_X4_jump_44
set_option maxHeartbeats 4000000 in
set_option maxRecDepth 100000 in
theorem z_mM_jump_j32 (E : ze_T) (G : gs_T) (x1 x2 x3 x4 s0 : Int32) (r : gs_T) (X : zx_T) (cx : zx (zF E) X cn_X4_jump yn_X4_jump.cls { frames := 1, cells := 0, slots := 0, locals := 23 } 5) (cq : zq_v (zF E) X (wc_m E r)) (h : mM_jump_j32 G x1 x2 x3 x4 s0 = some r) : zj (zF E) X 0 0 (wc_m E G) 32 [some (.ref (ad_p E 0)), some (.int x1), some (.int x2), some (.int x3), some (.int x4)] [.int s0, .ref (ad_p E 0)] := by
  unfold mM_jump_j32 at h
  refine zz_iconst cx dn_X4_jump_32 (v := (1 : Int32)) (by decide) ?_
  refine zz_goto cx dn_X4_jump_33 (tgt := 37) (by decide) ?_
  exact z_mM_jump_j37 E G x1 x2 x3 x4 s0 (1 : Int32) _ X cx cq h
set_option maxHeartbeats 4000000 in
set_option maxRecDepth 100000 in
theorem z_mM_jump_j14 (E : ze_T) (G : gs_T) (x1 x2 x3 x4 s0 : Int32) (r : gs_T) (X : zx_T) (cx : zx (zF E) X cn_X4_jump yn_X4_jump.cls { frames := 1, cells := 0, slots := 0, locals := 23 } 5) (cq : zq_v (zF E) X (wc_m E r)) (h : mM_jump_j14 G x1 x2 x3 x4 s0 = some r) : zj (zF E) X 0 0 (wc_m E G) 14 [some (.ref (ad_p E 0)), some (.int x1), some (.int x2), some (.int x3), some (.int x4)] [.int s0, .ref (ad_p E 0)] := by
  unfold mM_jump_j14 at h
  refine zz_iload_n cx dn_X4_jump_14 rfl rfl ?_
  refine zz_if_lt cx (tgt := 32) dn_X4_jump_15 (by decide) h (fun h => ?_) (fun h => ?_)
  · exact z_mM_jump_j32 E G x1 x2 x3 x4 s0 _ X cx cq h
  · refine zz_iload_n cx dn_X4_jump_18 rfl rfl ?_
    refine zz_iconst cx dn_X4_jump_19 (v := (1 : Int32)) (by decide) ?_
    refine zz_icmp_gt cx (tgt := 32) dn_X4_jump_20 (by decide) h (fun h => ?_) (fun h => ?_)
    · exact z_mM_jump_j32 E G x1 x2 x3 x4 s0 _ X cx cq h
    · refine zz_iload_n cx dn_X4_jump_23 rfl rfl ?_
      refine zz_if_lt cx (tgt := 32) dn_X4_jump_24 (by decide) h (fun h => ?_) (fun h => ?_)
      · exact z_mM_jump_j32 E G x1 x2 x3 x4 s0 _ X cx cq h
      · refine zz_iload_n cx dn_X4_jump_27 rfl rfl ?_
        refine zz_iconst cx dn_X4_jump_28 (v := (2 : Int32)) (by decide) ?_
        refine zz_icmp_le cx (tgt := 36) dn_X4_jump_29 (by decide) h (fun h => ?_) (fun h => ?_)
        · refine zz_iconst cx dn_X4_jump_36 (v := (0 : Int32)) (by decide) ?_
          exact z_mM_jump_j37 E G x1 x2 x3 x4 s0 (0 : Int32) _ X cx cq h
        · exact z_mM_jump_j32 E G x1 x2 x3 x4 s0 _ X cx cq h
set_option maxHeartbeats 4000000 in
set_option maxRecDepth 100000 in
theorem z_mM_jump (E : ze_T) (G : gs_T) (x1 x2 x3 x4 : Int32) (r : gs_T) (h : mM_jump G x1 x2 x3 x4 = some r) : zc_v (zF E) (wc_m E G) (wc_m E r) yn_X4_jump cn_X4_jump 5 { frames := 1, cells := 0, slots := 0, locals := 23 } [.ref (ad_p E 0), .int x1, .int x2, .int x3, .int x4] := by
  unfold mM_jump at h
  refine zc_v_of (by decide) rfl (Nat.le_of_ble_eq_true rfl) (fun X cx cq => ?_)
  refine zz_aload_n cx dn_X4_jump_0 rfl rfl ?_
  refine zz_aload_n cx dn_X4_jump_1 rfl rfl ?_
  refine zz_iload_n cx dn_X4_jump_2 rfl rfl ?_
  refine gs_bind h (fun q1 e_q1 h => ?_)
  refine zz_callVi cx (As := [.int x1]) (rest := [.ref (ad_p E 0)]) (c2 := 0) (s2 := 0) (z_mM_isBar E G x1 _ e_q1) zm_X4_isBar zk_X4_129 zv_X4_isBar 0 rfl rfl (by decide) rfl (Nat.le_of_ble_eq_true rfl) rfl rfl (by decide) (wc_m_addr E _ _) dn_X4_jump_3 ?_
  refine zz_if_ne cx (tgt := 13) dn_X4_jump_6 (by decide) h (fun h => ?_) (fun h => ?_)
  · refine zz_iconst cx dn_X4_jump_9 (v := (1 : Int32)) (by decide) ?_
    refine zz_goto cx dn_X4_jump_10 (tgt := 14) (by decide) ?_
    exact z_mM_jump_j14 E G x1 x2 x3 x4 (1 : Int32) _ X cx cq h
  · refine zz_iconst cx dn_X4_jump_13 (v := (0 : Int32)) (by decide) ?_
    exact z_mM_jump_j14 E G x1 x2 x3 x4 (0 : Int32) _ X cx cq h
set_option maxHeartbeats 4000000 in
set_option maxRecDepth 100000 in
theorem z_mM_plain_j14 (E : ze_T) (G : gs_T) (x1 s0 : Int32) (r : gs_T) (X : zx_T) (cx : zx (zF E) X cn_X4_plain yn_X4_plain.cls { frames := 1, cells := 0, slots := 0, locals := 23 } 2) (cq : zq_v (zF E) X (wc_m E r)) (h : mM_plain_j14 G x1 s0 = some r) : zj (zF E) X 0 0 (wc_m E G) 14 [some (.ref (ad_p E 0)), some (.int x1)] [.int s0, .ref (ad_p E 0)] := by
  unfold mM_plain_j14 at h
  refine zz_aload_n cx dn_X4_plain_14 rfl rfl ?_
  refine zz_iload_n cx dn_X4_plain_15 rfl rfl ?_
  refine gs_bind h (fun q1 e_q1 h => ?_)
  refine zz_callVi cx (As := [.int x1]) (rest := [.int s0, .ref (ad_p E 0)]) (c2 := 0) (s2 := 0) (z_mM_isBar E G x1 _ e_q1) zm_X4_isBar zk_X4_129 zv_X4_isBar 0 rfl rfl (by decide) rfl (Nat.le_of_ble_eq_true rfl) rfl rfl (by decide) (wc_m_addr E _ _) dn_X4_plain_16 ?_
  refine zz_if_eq cx (tgt := 35) dn_X4_plain_19 (by decide) h (fun h => ?_) (fun h => ?_)
  · refine zz_iconst cx dn_X4_plain_35 (v := (0 : Int32)) (by decide) ?_
    refine zz_iconst cx dn_X4_plain_36 (v := (0 : Int32)) (by decide) ?_
    refine gs_bind h (fun q2 e_q2 h => ?_)
    refine zz_callVi cx (As := [.int s0, .int (0 : Int32), .int (0 : Int32)]) (rest := []) (c2 := 0) (s2 := 0) (z_mM_refuses E G s0 (0 : Int32) (0 : Int32) _ e_q2) zm_X4_refuses zk_X4_105 zv_X4_refuses 0 rfl rfl (by decide) rfl (Nat.le_of_ble_eq_true rfl) rfl rfl (by decide) (wc_m_addr E _ _) dn_X4_plain_37 ?_
    refine zz_if_ne cx (tgt := 50) dn_X4_plain_40 (by decide) h (fun h => ?_) (fun h => ?_)
    · refine zz_aload_n cx dn_X4_plain_43 rfl rfl ?_
      refine zz_get cx zi_X4 (v := .ref (ad_p E 10)) (ci := 4) rfl 0 13 rfl (by decide) zk_X4_37 rfl dn_X4_plain_44 ?_
      refine zz_iload_n cx dn_X4_plain_47 rfl rfl ?_
      refine zz_iconst cx dn_X4_plain_48 (v := (0 : Int32)) (by decide) ?_
      refine zz_zast cx 10 1 rfl rfl h (ws2 := (wc_m E (gs_sa q2.2 9 x1 (vp_nar .boolean (0 : Int32))))) (wc_m_a9 E _ _ _) dn_X4_plain_49 (fun h => ?_)
      obtain rfl := Option.some.inj h
      exact zz_vret cx cq (by decide) (by decide) dn_X4_plain_50
    · obtain rfl := Option.some.inj h
      exact zz_vret cx cq (by decide) (by decide) dn_X4_plain_50
  · refine zz_aload_n cx dn_X4_plain_22 rfl rfl ?_
    refine zz_get cx zi_X4 (v := .ref (ad_p E 10)) (ci := 4) rfl 0 13 rfl (by decide) zk_X4_37 rfl dn_X4_plain_23 ?_
    refine zz_iload_n cx dn_X4_plain_26 rfl rfl ?_
    refine zz_zald cx 10 1 rfl rfl h (v := (gs_a G 9 x1)) rfl dn_X4_plain_27 (fun h => ?_)
    refine zz_if_ne cx (tgt := 35) dn_X4_plain_28 (by decide) h (fun h => ?_) (fun h => ?_)
    · refine zz_iconst cx dn_X4_plain_31 (v := (1 : Int32)) (by decide) ?_
      refine zz_goto cx dn_X4_plain_32 (tgt := 36) (by decide) ?_
      refine zz_iconst cx dn_X4_plain_36 (v := (0 : Int32)) (by decide) ?_
      refine gs_bind h (fun q4 e_q4 h => ?_)
      refine zz_callVi cx (As := [.int s0, .int (1 : Int32), .int (0 : Int32)]) (rest := []) (c2 := 0) (s2 := 0) (z_mM_refuses E G s0 (1 : Int32) (0 : Int32) _ e_q4) zm_X4_refuses zk_X4_105 zv_X4_refuses 0 rfl rfl (by decide) rfl (Nat.le_of_ble_eq_true rfl) rfl rfl (by decide) (wc_m_addr E _ _) dn_X4_plain_37 ?_
      refine zz_if_ne cx (tgt := 50) dn_X4_plain_40 (by decide) h (fun h => ?_) (fun h => ?_)
      · refine zz_aload_n cx dn_X4_plain_43 rfl rfl ?_
        refine zz_get cx zi_X4 (v := .ref (ad_p E 10)) (ci := 4) rfl 0 13 rfl (by decide) zk_X4_37 rfl dn_X4_plain_44 ?_
        refine zz_iload_n cx dn_X4_plain_47 rfl rfl ?_
        refine zz_iconst cx dn_X4_plain_48 (v := (0 : Int32)) (by decide) ?_
        refine zz_zast cx 10 1 rfl rfl h (ws2 := (wc_m E (gs_sa q4.2 9 x1 (vp_nar .boolean (0 : Int32))))) (wc_m_a9 E _ _ _) dn_X4_plain_49 (fun h => ?_)
        obtain rfl := Option.some.inj h
        exact zz_vret cx cq (by decide) (by decide) dn_X4_plain_50
      · obtain rfl := Option.some.inj h
        exact zz_vret cx cq (by decide) (by decide) dn_X4_plain_50
    · refine zz_iconst cx dn_X4_plain_35 (v := (0 : Int32)) (by decide) ?_
      refine zz_iconst cx dn_X4_plain_36 (v := (0 : Int32)) (by decide) ?_
      refine gs_bind h (fun q3 e_q3 h => ?_)
      refine zz_callVi cx (As := [.int s0, .int (0 : Int32), .int (0 : Int32)]) (rest := []) (c2 := 0) (s2 := 0) (z_mM_refuses E G s0 (0 : Int32) (0 : Int32) _ e_q3) zm_X4_refuses zk_X4_105 zv_X4_refuses 0 rfl rfl (by decide) rfl (Nat.le_of_ble_eq_true rfl) rfl rfl (by decide) (wc_m_addr E _ _) dn_X4_plain_37 ?_
      refine zz_if_ne cx (tgt := 50) dn_X4_plain_40 (by decide) h (fun h => ?_) (fun h => ?_)
      · refine zz_aload_n cx dn_X4_plain_43 rfl rfl ?_
        refine zz_get cx zi_X4 (v := .ref (ad_p E 10)) (ci := 4) rfl 0 13 rfl (by decide) zk_X4_37 rfl dn_X4_plain_44 ?_
        refine zz_iload_n cx dn_X4_plain_47 rfl rfl ?_
        refine zz_iconst cx dn_X4_plain_48 (v := (0 : Int32)) (by decide) ?_
        refine zz_zast cx 10 1 rfl rfl h (ws2 := (wc_m E (gs_sa q3.2 9 x1 (vp_nar .boolean (0 : Int32))))) (wc_m_a9 E _ _ _) dn_X4_plain_49 (fun h => ?_)
        obtain rfl := Option.some.inj h
        exact zz_vret cx cq (by decide) (by decide) dn_X4_plain_50
      · obtain rfl := Option.some.inj h
        exact zz_vret cx cq (by decide) (by decide) dn_X4_plain_50
set_option maxHeartbeats 4000000 in
set_option maxRecDepth 100000 in
theorem z_mM_plain (E : ze_T) (G : gs_T) (x1 : Int32) (r : gs_T) (h : mM_plain G x1 = some r) : zc_v (zF E) (wc_m E G) (wc_m E r) yn_X4_plain cn_X4_plain 2 { frames := 1, cells := 0, slots := 0, locals := 23 } [.ref (ad_p E 0), .int x1] := by
  unfold mM_plain at h
  refine zc_v_of (by decide) rfl (Nat.le_of_ble_eq_true rfl) (fun X cx cq => ?_)
  refine zz_aload_n cx dn_X4_plain_0 rfl rfl ?_
  refine zz_aload_n cx dn_X4_plain_1 rfl rfl ?_
  refine zz_iload_n cx dn_X4_plain_2 rfl rfl ?_
  refine gs_bind h (fun q1 e_q1 h => ?_)
  refine zz_callVi cx (As := [.int x1]) (rest := [.ref (ad_p E 0)]) (c2 := 0) (s2 := 0) (z_mM_isBar E G x1 _ e_q1) zm_X4_isBar zk_X4_129 zv_X4_isBar 0 rfl rfl (by decide) rfl (Nat.le_of_ble_eq_true rfl) rfl rfl (by decide) (wc_m_addr E _ _) dn_X4_plain_3 ?_
  refine zz_if_ne cx (tgt := 13) dn_X4_plain_6 (by decide) h (fun h => ?_) (fun h => ?_)
  · refine zz_iconst cx dn_X4_plain_9 (v := (1 : Int32)) (by decide) ?_
    refine zz_goto cx dn_X4_plain_10 (tgt := 14) (by decide) ?_
    exact z_mM_plain_j14 E G x1 (1 : Int32) _ X cx cq h
  · refine zz_iconst cx dn_X4_plain_13 (v := (0 : Int32)) (by decide) ?_
    exact z_mM_plain_j14 E G x1 (0 : Int32) _ X cx cq h
set_option maxHeartbeats 4000000 in
set_option maxRecDepth 100000 in
theorem z_mM_missing_j44 (E : ze_T) (G : gs_T) (x1 : Int32) (r : Int32) (X : zx_T) (cx : zx (zF E) X cn_X4_missing yn_X4_missing.cls { frames := 0, cells := 0, slots := 0, locals := 0 } 2) (cq : zq_i (zF E) X (wc_m E G) .int r) (h : mM_missing_j44 G x1 = some r) : zj (zF E) X 0 0 (wc_m E G) 44 [some (.ref (ad_p E 0)), some (.int x1)] [] := by
  unfold mM_missing_j44 at h
  refine zz_aload_n cx dn_X4_missing_44 rfl rfl ?_
  refine zz_get cx zi_X4 (v := .ref (ad_p E 12)) (ci := 4) rfl 0 15 rfl (by decide) zk_X4_44 rfl dn_X4_missing_45 ?_
  refine zz_iload_n cx dn_X4_missing_48 rfl rfl ?_
  refine zz_iald cx 12 0 rfl rfl h (v := (gs_a G 11 x1)) rfl dn_X4_missing_49 (fun h => ?_)
  refine zz_iconst cx dn_X4_missing_50 (v := (2 : Int32)) (by decide) ?_
  refine zz_icmp_ne cx (tgt := 78) dn_X4_missing_51 (by decide) h (fun h => ?_) (fun h => ?_)
  · refine zz_aload_n cx dn_X4_missing_54 rfl rfl ?_
    refine zz_get cx zi_X4 (v := .ref (ad_p E 9)) (ci := 4) rfl 0 12 rfl (by decide) zk_X4_34 rfl dn_X4_missing_55 ?_
    refine zz_iconst cx dn_X4_missing_58 (v := (2 : Int32)) (by decide) ?_
    refine zz_iald cx 9 0 rfl rfl h (v := (gs_a G 8 (2 : Int32))) rfl dn_X4_missing_59 (fun h => ?_)
    refine zz_iconst cx dn_X4_missing_60 (v := (-1 : Int32)) (by decide) ?_
    refine zz_icmp_eq cx (tgt := 74) dn_X4_missing_61 (by decide) h (fun h => ?_) (fun h => ?_)
    · refine zz_iconst cx dn_X4_missing_74 (v := (3 : Int32)) (by decide) ?_
      refine zz_goto cx dn_X4_missing_75 (tgt := 79) (by decide) ?_
      obtain rfl := Option.some.inj h
      exact zz_iret cx cq (by decide) (by decide) dn_X4_missing_79
    · refine zz_aload_n cx dn_X4_missing_64 rfl rfl ?_
      refine zz_get cx zi_X4 (v := .ref (ad_p E 9)) (ci := 4) rfl 0 12 rfl (by decide) zk_X4_34 rfl dn_X4_missing_65 ?_
      refine zz_iconst cx dn_X4_missing_68 (v := (1 : Int32)) (by decide) ?_
      refine zz_iald cx 9 0 rfl rfl h (v := (gs_a G 8 (1 : Int32))) rfl dn_X4_missing_69 (fun h => ?_)
      refine zz_iconst cx dn_X4_missing_70 (v := (-1 : Int32)) (by decide) ?_
      refine zz_icmp_ne cx (tgt := 78) dn_X4_missing_71 (by decide) h (fun h => ?_) (fun h => ?_)
      · refine zz_iconst cx dn_X4_missing_74 (v := (3 : Int32)) (by decide) ?_
        refine zz_goto cx dn_X4_missing_75 (tgt := 79) (by decide) ?_
        obtain rfl := Option.some.inj h
        exact zz_iret cx cq (by decide) (by decide) dn_X4_missing_79
      · refine zz_iconst cx dn_X4_missing_78 (v := (0 : Int32)) (by decide) ?_
        obtain rfl := Option.some.inj h
        exact zz_iret cx cq (by decide) (by decide) dn_X4_missing_79
  · refine zz_iconst cx dn_X4_missing_78 (v := (0 : Int32)) (by decide) ?_
    obtain rfl := Option.some.inj h
    exact zz_iret cx cq (by decide) (by decide) dn_X4_missing_79
set_option maxHeartbeats 4000000 in
set_option maxRecDepth 100000 in
theorem z_mM_missing_j22 (E : ze_T) (G : gs_T) (x1 : Int32) (r : Int32) (X : zx_T) (cx : zx (zF E) X cn_X4_missing yn_X4_missing.cls { frames := 0, cells := 0, slots := 0, locals := 0 } 2) (cq : zq_i (zF E) X (wc_m E G) .int r) (h : mM_missing_j22 G x1 = some r) : zj (zF E) X 0 0 (wc_m E G) 22 [some (.ref (ad_p E 0)), some (.int x1)] [] := by
  unfold mM_missing_j22 at h
  refine zz_aload_n cx dn_X4_missing_22 rfl rfl ?_
  refine zz_get cx zi_X4 (v := .ref (ad_p E 12)) (ci := 4) rfl 0 15 rfl (by decide) zk_X4_44 rfl dn_X4_missing_23 ?_
  refine zz_iload_n cx dn_X4_missing_26 rfl rfl ?_
  refine zz_iald cx 12 0 rfl rfl h (v := (gs_a G 11 x1)) rfl dn_X4_missing_27 (fun h => ?_)
  refine zz_iconst cx dn_X4_missing_28 (v := (1 : Int32)) (by decide) ?_
  refine zz_icmp_ne cx (tgt := 44) dn_X4_missing_29 (by decide) h (fun h => ?_) (fun h => ?_)
  · refine zz_aload_n cx dn_X4_missing_32 rfl rfl ?_
    refine zz_get cx zi_X4 (v := .ref (ad_p E 9)) (ci := 4) rfl 0 12 rfl (by decide) zk_X4_34 rfl dn_X4_missing_33 ?_
    refine zz_iconst cx dn_X4_missing_36 (v := (3 : Int32)) (by decide) ?_
    refine zz_iald cx 9 0 rfl rfl h (v := (gs_a G 8 (3 : Int32))) rfl dn_X4_missing_37 (fun h => ?_)
    refine zz_iconst cx dn_X4_missing_38 (v := (-1 : Int32)) (by decide) ?_
    refine zz_icmp_ne cx (tgt := 44) dn_X4_missing_39 (by decide) h (fun h => ?_) (fun h => ?_)
    · refine zz_iconst cx dn_X4_missing_42 (v := (2 : Int32)) (by decide) ?_
      obtain rfl := Option.some.inj h
      exact zz_iret cx cq (by decide) (by decide) dn_X4_missing_43
    · exact z_mM_missing_j44 E G x1 _ X cx cq h
  · exact z_mM_missing_j44 E G x1 _ X cx cq h
set_option maxHeartbeats 4000000 in
set_option maxRecDepth 100000 in
theorem z_mM_missing (E : ze_T) (G : gs_T) (x1 : Int32) (r : Int32) (h : mM_missing G x1 = some r) : zc_i (zF E) (wc_m E G) (wc_m E G) yn_X4_missing cn_X4_missing 2 .int { frames := 0, cells := 0, slots := 0, locals := 0 } [.ref (ad_p E 0), .int x1] r := by
  unfold mM_missing at h
  refine zc_i_of (by decide) rfl (Nat.le_of_ble_eq_true rfl) (fun X cx cq => ?_)
  refine zz_aload_n cx dn_X4_missing_0 rfl rfl ?_
  refine zz_get cx zi_X4 (v := .ref (ad_p E 11)) (ci := 4) rfl 0 14 rfl (by decide) zk_X4_41 rfl dn_X4_missing_1 ?_
  refine zz_iload_n cx dn_X4_missing_4 rfl rfl ?_
  refine zz_iald cx 11 0 rfl rfl h (v := (gs_a G 10 x1)) rfl dn_X4_missing_5 (fun h => ?_)
  refine zz_iconst cx dn_X4_missing_6 (v := (1 : Int32)) (by decide) ?_
  refine zz_icmp_ne cx (tgt := 22) dn_X4_missing_7 (by decide) h (fun h => ?_) (fun h => ?_)
  · refine zz_aload_n cx dn_X4_missing_10 rfl rfl ?_
    refine zz_get cx zi_X4 (v := .ref (ad_p E 9)) (ci := 4) rfl 0 12 rfl (by decide) zk_X4_34 rfl dn_X4_missing_11 ?_
    refine zz_iconst cx dn_X4_missing_14 (v := (0 : Int32)) (by decide) ?_
    refine zz_iald cx 9 0 rfl rfl h (v := (gs_a G 8 (0 : Int32))) rfl dn_X4_missing_15 (fun h => ?_)
    refine zz_iconst cx dn_X4_missing_16 (v := (-1 : Int32)) (by decide) ?_
    refine zz_icmp_ne cx (tgt := 22) dn_X4_missing_17 (by decide) h (fun h => ?_) (fun h => ?_)
    · refine zz_iconst cx dn_X4_missing_20 (v := (1 : Int32)) (by decide) ?_
      obtain rfl := Option.some.inj h
      exact zz_iret cx cq (by decide) (by decide) dn_X4_missing_21
    · exact z_mM_missing_j22 E G x1 _ X cx cq h
  · exact z_mM_missing_j22 E G x1 _ X cx cq h
set_option maxHeartbeats 4000000 in
set_option maxRecDepth 100000 in
theorem z_mM_leaveAll_2 (E : ze_T) (n : Nat) (r : gs_T) (X : zx_T) (cx : zx (zF E) X cn_X4_leaveAll yn_X4_leaveAll.cls { frames := 0, cells := 0, slots := 0, locals := 0 } 2) (cq : zq_v (zF E) X (wc_m E r)) : ∀ (k : Nat) (x1 : Int32) (G : gs_T), mM_leaveAll_2 n k x1 G = some r → zj (zF E) X 0 0 (wc_m E G) 2 [some (.ref (ad_p E 0)), some (.int x1)] [] := by
  intro k
  induction k with
  | zero => intro x1 G h; cases h
  | succ k ih =>
    intro x1 G h
    rw [mM_leaveAll_2] at h
    refine zz_iload_n cx dn_X4_leaveAll_2 rfl rfl ?_
    refine zz_bipush cx dn_X4_leaveAll_3 (v := (20 : Int32)) (by decide) ?_
    refine zz_icmp_ge cx (tgt := 21) dn_X4_leaveAll_5 (by decide) h (fun h => ?_) (fun h => ?_)
    · obtain rfl := Option.some.inj h
      exact zz_vret cx cq (by decide) (by decide) dn_X4_leaveAll_21
    · refine zz_aload_n cx dn_X4_leaveAll_8 rfl rfl ?_
      refine zz_get cx zi_X4 (v := .ref (ad_p E 19)) (ci := 4) rfl 0 25 rfl (by decide) zk_X4_69 rfl dn_X4_leaveAll_9 ?_
      refine zz_iload_n cx dn_X4_leaveAll_12 rfl rfl ?_
      refine zz_iconst cx dn_X4_leaveAll_13 (v := (0 : Int32)) (by decide) ?_
      refine zz_iast cx 19 0 rfl rfl h (ws2 := (wc_m E (gs_sa G 18 x1 (0 : Int32)))) (wc_m_a18 E _ _ _) dn_X4_leaveAll_14 (fun h => ?_)
      refine zz_iinc cx dn_X4_leaveAll_15 (d := (1 : Int32)) rfl (by decide) (by decide) rfl ?_
      refine zz_goto cx dn_X4_leaveAll_18 (tgt := 2) (by decide) ?_
      exact ih (x1 + (1 : Int32)) (gs_sa G 18 x1 (0 : Int32)) h
set_option maxHeartbeats 4000000 in
set_option maxRecDepth 100000 in
theorem z_mM_leaveAll (E : ze_T) (n : Nat) (G : gs_T) (r : gs_T) (h : mM_leaveAll n G = some r) : zc_v (zF E) (wc_m E G) (wc_m E r) yn_X4_leaveAll cn_X4_leaveAll 2 { frames := 0, cells := 0, slots := 0, locals := 0 } [.ref (ad_p E 0)] := by
  unfold mM_leaveAll at h
  refine zc_v_of (by decide) rfl (Nat.le_of_ble_eq_true rfl) (fun X cx cq => ?_)
  refine zz_iconst cx dn_X4_leaveAll_0 (v := (0 : Int32)) (by decide) ?_
  refine zz_istore_n cx dn_X4_leaveAll_1 rfl (by decide) rfl ?_
  exact z_mM_leaveAll_2 E n _ X cx cq n (0 : Int32) G h
