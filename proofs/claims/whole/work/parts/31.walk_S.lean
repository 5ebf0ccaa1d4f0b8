set_option maxHeartbeats 4000000 in
set_option maxRecDepth 100000 in
theorem z_cS_addBar (E : ze_T) (G : gs_T) (x1 : Int32) (r : (Int32 × gs_T)) (h : cS_addBar G x1 = some r) : zc_i (zF E) (wc_c E G) (wc_c E r.2) yn_X1_addBar cn_X1_addBar 2 .int { frames := 0, cells := 0, slots := 0, locals := 0 } [.ref (ad_p E 2), .int x1] r.1 := by
  unfold cS_addBar at h
  refine zc_i_of (by decide) rfl (Nat.le_of_ble_eq_true rfl) (fun X cx cq => ?_)
  refine zz_aload_n cx dn_X1_addBar_0 rfl rfl ?_
  refine zz_get cx zi_X1 (v := .ref (ad_p E 3)) (ci := 1) rfl 2 0 rfl (by decide) zk_X1_9 rfl dn_X1_addBar_1 ?_
  refine zz_aload_n cx dn_X1_addBar_4 rfl rfl ?_
  refine zz_get cx zi_X1 (v := .int (G.1 6)) (ci := 1) rfl 2 15 rfl (by decide) zk_X1_64 rfl dn_X1_addBar_5 ?_
  refine zz_iload_n cx dn_X1_addBar_8 rfl rfl ?_
  refine zz_iast cx 3 0 rfl rfl h (ws2 := (wc_c E (gs_sa G 0 (G.1 6) x1))) (wc_c_a0 E _ _ _) dn_X1_addBar_9 (fun h => ?_)
  refine zz_aload_n cx dn_X1_addBar_10 rfl rfl ?_
  refine zz_dup cx dn_X1_addBar_11 rfl ?_
  refine zz_get cx zi_X1 (v := .int (G.1 6)) (ci := 1) rfl 2 15 rfl (by decide) zk_X1_64 rfl dn_X1_addBar_12 ?_
  refine zz_dup_x1 cx dn_X1_addBar_15 rfl rfl ?_
  refine zz_iconst cx dn_X1_addBar_16 (v := (1 : Int32)) (by decide) ?_
  refine zz_iadd cx dn_X1_addBar_17 ?_
  refine zz_put cx (ws2 := (wc_c E (gs_sv (gs_sa G 0 (G.1 6) x1) 6 ((G.1 6) + (1 : Int32))))) (ty := .int) (ci := 1) zi_X1 fk_X1 nm_X1 rfl 2 15 rfl (by decide) zk_X1_64 rfl (by decide +kernel) rfl rfl (Nat.le_of_ble_eq_true rfl) (wc_c_s6 E _ _) dn_X1_addBar_18 ?_
  obtain rfl := Option.some.inj h
  exact zz_iret cx cq (by decide) (by decide) dn_X1_addBar_21
set_option maxHeartbeats 4000000 in
set_option maxRecDepth 100000 in
theorem z_cS_hasBar (E : ze_T) (G : gs_T) (x1 : Int32) (r : Int32) (h : cS_hasBar G x1 = some r) : zc_i (zF E) (wc_c E G) (wc_c E G) yn_X1_hasBar cn_X1_hasBar 2 .boolean { frames := 0, cells := 0, slots := 0, locals := 0 } [.ref (ad_p E 2), .int x1] r := by
  unfold cS_hasBar at h
  refine zc_i_of (by decide) rfl (Nat.le_of_ble_eq_true rfl) (fun X cx cq => ?_)
  refine zz_iload_n cx dn_X1_hasBar_0 rfl rfl ?_
  refine zz_if_lt cx (tgt := 16) dn_X1_hasBar_1 (by decide) h (fun h => ?_) (fun h => ?_)
  · refine zz_iconst cx dn_X1_hasBar_16 (v := (0 : Int32)) (by decide) ?_
    obtain rfl := Option.some.inj h
    exact zz_zret cx cq rfl (by decide) (by decide) dn_X1_hasBar_17
  · refine zz_iload_n cx dn_X1_hasBar_4 rfl rfl ?_
    refine zz_aload_n cx dn_X1_hasBar_5 rfl rfl ?_
    refine zz_get cx zi_X1 (v := .int (G.1 6)) (ci := 1) rfl 2 15 rfl (by decide) zk_X1_64 rfl dn_X1_hasBar_6 ?_
    refine zz_icmp_ge cx (tgt := 16) dn_X1_hasBar_9 (by decide) h (fun h => ?_) (fun h => ?_)
    · refine zz_iconst cx dn_X1_hasBar_16 (v := (0 : Int32)) (by decide) ?_
      obtain rfl := Option.some.inj h
      exact zz_zret cx cq rfl (by decide) (by decide) dn_X1_hasBar_17
    · refine zz_iconst cx dn_X1_hasBar_12 (v := (1 : Int32)) (by decide) ?_
      refine zz_goto cx dn_X1_hasBar_13 (tgt := 17) (by decide) ?_
      obtain rfl := Option.some.inj h
      exact zz_zret cx cq rfl (by decide) (by decide) dn_X1_hasBar_17
set_option maxHeartbeats 4000000 in
set_option maxRecDepth 100000 in
theorem z_cS_liesWithin (E : ze_T) (G : gs_T) (x0 x1 x2 x3 : Int32) (r : Int32) (h : cS_liesWithin G x0 x1 x2 x3 = some r) : zc_i (zF E) (wc_c E G) (wc_c E G) yn_X1_liesWithin cn_X1_liesWithin 4 .boolean { frames := 0, cells := 0, slots := 0, locals := 0 } [.int x0, .int x1, .int x2, .int x3] r := by
  unfold cS_liesWithin at h
  refine zc_i_of (by decide) rfl (Nat.le_of_ble_eq_true rfl) (fun X cx cq => ?_)
  refine zz_iload_n cx dn_X1_liesWithin_0 rfl rfl ?_
  refine zz_iload_n cx dn_X1_liesWithin_1 rfl rfl ?_
  refine zz_icmp_gt cx (tgt := 14) dn_X1_liesWithin_2 (by decide) h (fun h => ?_) (fun h => ?_)
  · refine zz_iconst cx dn_X1_liesWithin_14 (v := (0 : Int32)) (by decide) ?_
    obtain rfl := Option.some.inj h
    exact zz_zret cx cq rfl (by decide) (by decide) dn_X1_liesWithin_15
  · refine zz_iload_n cx dn_X1_liesWithin_5 rfl rfl ?_
    refine zz_iload_n cx dn_X1_liesWithin_6 rfl rfl ?_
    refine zz_icmp_gt cx (tgt := 14) dn_X1_liesWithin_7 (by decide) h (fun h => ?_) (fun h => ?_)
    · refine zz_iconst cx dn_X1_liesWithin_14 (v := (0 : Int32)) (by decide) ?_
      obtain rfl := Option.some.inj h
      exact zz_zret cx cq rfl (by decide) (by decide) dn_X1_liesWithin_15
    · refine zz_iconst cx dn_X1_liesWithin_10 (v := (1 : Int32)) (by decide) ?_
      refine zz_goto cx dn_X1_liesWithin_11 (tgt := 15) (by decide) ?_
      obtain rfl := Option.some.inj h
      exact zz_zret cx cq rfl (by decide) (by decide) dn_X1_liesWithin_15
set_option maxHeartbeats 4000000 in
set_option maxRecDepth 100000 in
theorem z_cS_liesWell (E : ze_T) (G : gs_T) (x0 x1 x2 x3 : Int32) (r : Int32) (h : cS_liesWell G x0 x1 x2 x3 = some r) : zc_i (zF E) (wc_c E G) (wc_c E G) yn_X1_liesWell cn_X1_liesWell 4 .boolean { frames := 1, cells := 0, slots := 0, locals := 23 } [.int x0, .int x1, .int x2, .int x3] r := by
  unfold cS_liesWell at h
  refine zc_i_of (by decide) rfl (Nat.le_of_ble_eq_true rfl) (fun X cx cq => ?_)
  refine zz_iload_n cx dn_X1_liesWell_0 rfl rfl ?_
  refine zz_iload_n cx dn_X1_liesWell_1 rfl rfl ?_
  refine zz_icmp_lt cx (tgt := 30) dn_X1_liesWell_2 (by decide) h (fun h => ?_) (fun h => ?_)
  · refine zz_iconst cx dn_X1_liesWell_30 (v := (1 : Int32)) (by decide) ?_
    refine zz_goto cx dn_X1_liesWell_31 (tgt := 35) (by decide) ?_
    obtain rfl := Option.some.inj h
    exact zz_zret cx cq rfl (by decide) (by decide) dn_X1_liesWell_35
  · refine zz_iload_n cx dn_X1_liesWell_5 rfl rfl ?_
    refine zz_iload_n cx dn_X1_liesWell_6 rfl rfl ?_
    refine zz_icmp_lt cx (tgt := 30) dn_X1_liesWell_7 (by decide) h (fun h => ?_) (fun h => ?_)
    · refine zz_iconst cx dn_X1_liesWell_30 (v := (1 : Int32)) (by decide) ?_
      refine zz_goto cx dn_X1_liesWell_31 (tgt := 35) (by decide) ?_
      obtain rfl := Option.some.inj h
      exact zz_zret cx cq rfl (by decide) (by decide) dn_X1_liesWell_35
    · refine zz_iload_n cx dn_X1_liesWell_10 rfl rfl ?_
      refine zz_iload_n cx dn_X1_liesWell_11 rfl rfl ?_
      refine zz_iload_n cx dn_X1_liesWell_12 rfl rfl ?_
      refine zz_iload_n cx dn_X1_liesWell_13 rfl rfl ?_
      refine gs_bind h (fun q1 e_q1 h => ?_)
      refine zz_callSi cx (As := [.int x0, .int x1, .int x2, .int x3]) (rest := []) (c2 := 0) (s2 := 0) (z_cS_liesWithin E G x0 x1 x2 x3 _ e_q1) zm_X1_liesWithin zk_X1_71 zs_X1_liesWithin (by decide) rfl (Nat.le_of_ble_eq_true rfl) rfl rfl (by decide) (wc_c_addr E _ _) dn_X1_liesWell_14 ?_
      refine zz_if_ne cx (tgt := 30) dn_X1_liesWell_17 (by decide) h (fun h => ?_) (fun h => ?_)
      · refine zz_iload_n cx dn_X1_liesWell_20 rfl rfl ?_
        refine zz_iload_n cx dn_X1_liesWell_21 rfl rfl ?_
        refine zz_iload_n cx dn_X1_liesWell_22 rfl rfl ?_
        refine zz_iload_n cx dn_X1_liesWell_23 rfl rfl ?_
        refine gs_bind h (fun q2 e_q2 h => ?_)
        refine zz_callSi cx (As := [.int x2, .int x3, .int x0, .int x1]) (rest := []) (c2 := 0) (s2 := 0) (z_cS_liesWithin E G x2 x3 x0 x1 _ e_q2) zm_X1_liesWithin zk_X1_71 zs_X1_liesWithin (by decide) rfl (Nat.le_of_ble_eq_true rfl) rfl rfl (by decide) (wc_c_addr E _ _) dn_X1_liesWell_24 ?_
        refine zz_if_eq cx (tgt := 34) dn_X1_liesWell_27 (by decide) h (fun h => ?_) (fun h => ?_)
        · refine zz_iconst cx dn_X1_liesWell_34 (v := (0 : Int32)) (by decide) ?_
          obtain rfl := Option.some.inj h
          exact zz_zret cx cq rfl (by decide) (by decide) dn_X1_liesWell_35
        · refine zz_iconst cx dn_X1_liesWell_30 (v := (1 : Int32)) (by decide) ?_
          refine zz_goto cx dn_X1_liesWell_31 (tgt := 35) (by decide) ?_
          obtain rfl := Option.some.inj h
          exact zz_zret cx cq rfl (by decide) (by decide) dn_X1_liesWell_35
      · refine zz_iconst cx dn_X1_liesWell_30 (v := (1 : Int32)) (by decide) ?_
        refine zz_goto cx dn_X1_liesWell_31 (tgt := 35) (by decide) ?_
        obtain rfl := Option.some.inj h
        exact zz_zret cx cq rfl (by decide) (by decide) dn_X1_liesWell_35
set_option maxHeartbeats 4000000 in
set_option maxRecDepth 100000 in
theorem z_cS_liesWellByRepeats_2 (E : ze_T) (n : Nat) (G : gs_T) (x1 x2 : Int32) (r : Int32) (X : zx_T) (cx : zx (zF E) X cn_X1_liesWellByRepeats yn_X1_liesWellByRepeats.cls { frames := 2, cells := 0, slots := 0, locals := 46 } 4) (cq : zq_i (zF E) X (wc_c E G) .boolean r) : ∀ (k : Nat) (x3 : Int32), cS_liesWellByRepeats_2 n G x1 x2 k x3 = some r → zj (zF E) X 0 0 (wc_c E G) 2 [some (.ref (ad_p E 2)), some (.int x1), some (.int x2), some (.int x3)] [] := by
  intro k
  induction k with
  | zero => intro x3 h; cases h
  | succ k ih =>
    intro x3 h
    rw [cS_liesWellByRepeats_2] at h
    refine zz_iload_n cx dn_X1_liesWellByRepeats_2 rfl rfl ?_
    refine zz_aload_n cx dn_X1_liesWellByRepeats_3 rfl rfl ?_
    refine zz_get cx zi_X1 (v := .int (G.1 7)) (ci := 1) rfl 2 16 rfl (by decide) zk_X1_68 rfl dn_X1_liesWellByRepeats_4 ?_
    refine zz_icmp_ge cx (tgt := 38) dn_X1_liesWellByRepeats_7 (by decide) h (fun h => ?_) (fun h => ?_)
    · refine zz_iconst cx dn_X1_liesWellByRepeats_38 (v := (1 : Int32)) (by decide) ?_
      obtain rfl := Option.some.inj h
      exact zz_zret cx cq rfl (by decide) (by decide) dn_X1_liesWellByRepeats_39
    · refine zz_iload_n cx dn_X1_liesWellByRepeats_10 rfl rfl ?_
      refine zz_iload_n cx dn_X1_liesWellByRepeats_11 rfl rfl ?_
      refine zz_aload_n cx dn_X1_liesWellByRepeats_12 rfl rfl ?_
      refine zz_get cx zi_X1 (v := .ref (ad_p E 4)) (ci := 1) rfl 2 1 rfl (by decide) zk_X1_15 rfl dn_X1_liesWellByRepeats_13 ?_
      refine zz_iload_n cx dn_X1_liesWellByRepeats_16 rfl rfl ?_
      refine zz_iald cx 4 0 rfl rfl h (v := (gs_a G 1 x3)) rfl dn_X1_liesWellByRepeats_17 (fun h => ?_)
      refine zz_aload_n cx dn_X1_liesWellByRepeats_18 rfl rfl ?_
      refine zz_get cx zi_X1 (v := .ref (ad_p E 5)) (ci := 1) rfl 2 2 rfl (by decide) zk_X1_18 rfl dn_X1_liesWellByRepeats_19 ?_
      refine zz_iload_n cx dn_X1_liesWellByRepeats_22 rfl rfl ?_
      refine zz_iald cx 5 0 rfl rfl h (v := (gs_a G 2 x3)) rfl dn_X1_liesWellByRepeats_23 (fun h => ?_)
      refine gs_bind h (fun q1 e_q1 h => ?_)
      refine zz_callSi cx (As := [.int x1, .int x2, .int (gs_a G 1 x3), .int (gs_a G 2 x3)]) (rest := []) (c2 := 0) (s2 := 0) (z_cS_liesWell E G x1 x2 (gs_a G 1 x3) (gs_a G 2 x3) _ e_q1) zm_X1_liesWell zk_X1_94 zs_X1_liesWell (by decide) rfl (Nat.le_of_ble_eq_true rfl) rfl rfl (by decide) (wc_c_addr E _ _) dn_X1_liesWellByRepeats_24 ?_
      refine zz_if_ne cx (tgt := 32) dn_X1_liesWellByRepeats_27 (by decide) h (fun h => ?_) (fun h => ?_)
      · refine zz_iconst cx dn_X1_liesWellByRepeats_30 (v := (0 : Int32)) (by decide) ?_
        obtain rfl := Option.some.inj h
        exact zz_zret cx cq rfl (by decide) (by decide) dn_X1_liesWellByRepeats_31
      · refine zz_iinc cx dn_X1_liesWellByRepeats_32 (d := (1 : Int32)) rfl (by decide) (by decide) rfl ?_
        refine zz_goto cx dn_X1_liesWellByRepeats_35 (tgt := 2) (by decide) ?_
        exact ih (x3 + (1 : Int32)) h
set_option maxHeartbeats 4000000 in
set_option maxRecDepth 100000 in
theorem z_cS_liesWellByRepeats (E : ze_T) (n : Nat) (G : gs_T) (x1 x2 : Int32) (r : Int32) (h : cS_liesWellByRepeats n G x1 x2 = some r) : zc_i (zF E) (wc_c E G) (wc_c E G) yn_X1_liesWellByRepeats cn_X1_liesWellByRepeats 4 .boolean { frames := 2, cells := 0, slots := 0, locals := 46 } [.ref (ad_p E 2), .int x1, .int x2] r := by
  unfold cS_liesWellByRepeats at h
  refine zc_i_of (by decide) rfl (Nat.le_of_ble_eq_true rfl) (fun X cx cq => ?_)
  refine zz_iconst cx dn_X1_liesWellByRepeats_0 (v := (0 : Int32)) (by decide) ?_
  refine zz_istore_n cx dn_X1_liesWellByRepeats_1 rfl (by decide) rfl ?_
  exact z_cS_liesWellByRepeats_2 E n G x1 x2 _ X cx cq n (0 : Int32) h
set_option maxHeartbeats 4000000 in
set_option maxRecDepth 100000 in
theorem z_cS_hasSameRepeat_2 (E : ze_T) (n : Nat) (G : gs_T) (x1 x2 : Int32) (r : Int32) (X : zx_T) (cx : zx (zF E) X cn_X1_hasSameRepeat yn_X1_hasSameRepeat.cls { frames := 0, cells := 0, slots := 0, locals := 0 } 4) (cq : zq_i (zF E) X (wc_c E G) .boolean r) : ∀ (k : Nat) (x3 : Int32), cS_hasSameRepeat_2 n G x1 x2 k x3 = some r → zj (zF E) X 0 0 (wc_c E G) 2 [some (.ref (ad_p E 2)), some (.int x1), some (.int x2), some (.int x3)] [] := by
  intro k
  induction k with
  | zero => intro x3 h; cases h
  | succ k ih =>
    intro x3 h
    rw [cS_hasSameRepeat_2] at h
    refine zz_iload_n cx dn_X1_hasSameRepeat_2 rfl rfl ?_
    refine zz_aload_n cx dn_X1_hasSameRepeat_3 rfl rfl ?_
    refine zz_get cx zi_X1 (v := .int (G.1 7)) (ci := 1) rfl 2 16 rfl (by decide) zk_X1_68 rfl dn_X1_hasSameRepeat_4 ?_
    refine zz_icmp_ge cx (tgt := 38) dn_X1_hasSameRepeat_7 (by decide) h (fun h => ?_) (fun h => ?_)
    · refine zz_iconst cx dn_X1_hasSameRepeat_38 (v := (0 : Int32)) (by decide) ?_
      obtain rfl := Option.some.inj h
      exact zz_zret cx cq rfl (by decide) (by decide) dn_X1_hasSameRepeat_39
    · refine zz_aload_n cx dn_X1_hasSameRepeat_10 rfl rfl ?_
      refine zz_get cx zi_X1 (v := .ref (ad_p E 4)) (ci := 1) rfl 2 1 rfl (by decide) zk_X1_15 rfl dn_X1_hasSameRepeat_11 ?_
      refine zz_iload_n cx dn_X1_hasSameRepeat_14 rfl rfl ?_
      refine zz_iald cx 4 0 rfl rfl h (v := (gs_a G 1 x3)) rfl dn_X1_hasSameRepeat_15 (fun h => ?_)
      refine zz_iload_n cx dn_X1_hasSameRepeat_16 rfl rfl ?_
      refine zz_icmp_ne cx (tgt := 32) dn_X1_hasSameRepeat_17 (by decide) h (fun h => ?_) (fun h => ?_)
      · refine zz_aload_n cx dn_X1_hasSameRepeat_20 rfl rfl ?_
        refine zz_get cx zi_X1 (v := .ref (ad_p E 5)) (ci := 1) rfl 2 2 rfl (by decide) zk_X1_18 rfl dn_X1_hasSameRepeat_21 ?_
        refine zz_iload_n cx dn_X1_hasSameRepeat_24 rfl rfl ?_
        refine zz_iald cx 5 0 rfl rfl h (v := (gs_a G 2 x3)) rfl dn_X1_hasSameRepeat_25 (fun h => ?_)
        refine zz_iload_n cx dn_X1_hasSameRepeat_26 rfl rfl ?_
        refine zz_icmp_ne cx (tgt := 32) dn_X1_hasSameRepeat_27 (by decide) h (fun h => ?_) (fun h => ?_)
        · refine zz_iconst cx dn_X1_hasSameRepeat_30 (v := (1 : Int32)) (by decide) ?_
          obtain rfl := Option.some.inj h
          exact zz_zret cx cq rfl (by decide) (by decide) dn_X1_hasSameRepeat_31
        · refine zz_iinc cx dn_X1_hasSameRepeat_32 (d := (1 : Int32)) rfl (by decide) (by decide) rfl ?_
          refine zz_goto cx dn_X1_hasSameRepeat_35 (tgt := 2) (by decide) ?_
          exact ih (x3 + (1 : Int32)) h
      · refine zz_iinc cx dn_X1_hasSameRepeat_32 (d := (1 : Int32)) rfl (by decide) (by decide) rfl ?_
        refine zz_goto cx dn_X1_hasSameRepeat_35 (tgt := 2) (by decide) ?_
        exact ih (x3 + (1 : Int32)) h
set_option maxHeartbeats 4000000 in
set_option maxRecDepth 100000 in
theorem z_cS_hasSameRepeat (E : ze_T) (n : Nat) (G : gs_T) (x1 x2 : Int32) (r : Int32) (h : cS_hasSameRepeat n G x1 x2 = some r) : zc_i (zF E) (wc_c E G) (wc_c E G) yn_X1_hasSameRepeat cn_X1_hasSameRepeat 4 .boolean { frames := 0, cells := 0, slots := 0, locals := 0 } [.ref (ad_p E 2), .int x1, .int x2] r := by
  unfold cS_hasSameRepeat at h
  refine zc_i_of (by decide) rfl (Nat.le_of_ble_eq_true rfl) (fun X cx cq => ?_)
  refine zz_iconst cx dn_X1_hasSameRepeat_0 (v := (0 : Int32)) (by decide) ?_
  refine zz_istore_n cx dn_X1_hasSameRepeat_1 rfl (by decide) rfl ?_
  exact z_cS_hasSameRepeat_2 E n G x1 x2 _ X cx cq n (0 : Int32) h
set_option maxHeartbeats 4000000 in
set_option maxRecDepth 100000 in
theorem z_cS_liesWellByEndings_2 (E : ze_T) (n : Nat) (G : gs_T) (x1 x2 : Int32) (r : Int32) (X : zx_T) (cx : zx (zF E) X cn_X1_liesWellByEndings yn_X1_liesWellByEndings.cls { frames := 2, cells := 0, slots := 0, locals := 46 } 4) (cq : zq_i (zF E) X (wc_c E G) .boolean r) : ∀ (k : Nat) (x3 : Int32), cS_liesWellByEndings_2 n G x1 x2 k x3 = some r → zj (zF E) X 0 0 (wc_c E G) 2 [some (.ref (ad_p E 2)), some (.int x1), some (.int x2), some (.int x3)] [] := by
  intro k
  induction k with
  | zero => intro x3 h; cases h
  | succ k ih =>
    intro x3 h
    rw [cS_liesWellByEndings_2] at h
    refine zz_iload_n cx dn_X1_liesWellByEndings_2 rfl rfl ?_
    refine zz_aload_n cx dn_X1_liesWellByEndings_3 rfl rfl ?_
    refine zz_get cx zi_X1 (v := .int (G.1 8)) (ci := 1) rfl 2 17 rfl (by decide) zk_X1_88 rfl dn_X1_liesWellByEndings_4 ?_
    refine zz_icmp_ge cx (tgt := 38) dn_X1_liesWellByEndings_7 (by decide) h (fun h => ?_) (fun h => ?_)
    · refine zz_iconst cx dn_X1_liesWellByEndings_38 (v := (1 : Int32)) (by decide) ?_
      obtain rfl := Option.some.inj h
      exact zz_zret cx cq rfl (by decide) (by decide) dn_X1_liesWellByEndings_39
    · refine zz_iload_n cx dn_X1_liesWellByEndings_10 rfl rfl ?_
      refine zz_iload_n cx dn_X1_liesWellByEndings_11 rfl rfl ?_
      refine zz_aload_n cx dn_X1_liesWellByEndings_12 rfl rfl ?_
      refine zz_get cx zi_X1 (v := .ref (ad_p E 8)) (ci := 1) rfl 2 5 rfl (by decide) zk_X1_27 rfl dn_X1_liesWellByEndings_13 ?_
      refine zz_iload_n cx dn_X1_liesWellByEndings_16 rfl rfl ?_
      refine zz_iald cx 8 0 rfl rfl h (v := (gs_a G 5 x3)) rfl dn_X1_liesWellByEndings_17 (fun h => ?_)
      refine zz_aload_n cx dn_X1_liesWellByEndings_18 rfl rfl ?_
      refine zz_get cx zi_X1 (v := .ref (ad_p E 9)) (ci := 1) rfl 2 6 rfl (by decide) zk_X1_30 rfl dn_X1_liesWellByEndings_19 ?_
      refine zz_iload_n cx dn_X1_liesWellByEndings_22 rfl rfl ?_
      refine zz_iald cx 9 0 rfl rfl h (v := (gs_a G 6 x3)) rfl dn_X1_liesWellByEndings_23 (fun h => ?_)
      refine gs_bind h (fun q1 e_q1 h => ?_)
      refine zz_callSi cx (As := [.int x1, .int x2, .int (gs_a G 5 x3), .int (gs_a G 6 x3)]) (rest := []) (c2 := 0) (s2 := 0) (z_cS_liesWell E G x1 x2 (gs_a G 5 x3) (gs_a G 6 x3) _ e_q1) zm_X1_liesWell zk_X1_94 zs_X1_liesWell (by decide) rfl (Nat.le_of_ble_eq_true rfl) rfl rfl (by decide) (wc_c_addr E _ _) dn_X1_liesWellByEndings_24 ?_
      refine zz_if_ne cx (tgt := 32) dn_X1_liesWellByEndings_27 (by decide) h (fun h => ?_) (fun h => ?_)
      · refine zz_iconst cx dn_X1_liesWellByEndings_30 (v := (0 : Int32)) (by decide) ?_
        obtain rfl := Option.some.inj h
        exact zz_zret cx cq rfl (by decide) (by decide) dn_X1_liesWellByEndings_31
      · refine zz_iinc cx dn_X1_liesWellByEndings_32 (d := (1 : Int32)) rfl (by decide) (by decide) rfl ?_
        refine zz_goto cx dn_X1_liesWellByEndings_35 (tgt := 2) (by decide) ?_
        exact ih (x3 + (1 : Int32)) h
set_option maxHeartbeats 4000000 in
set_option maxRecDepth 100000 in
theorem z_cS_liesWellByEndings (E : ze_T) (n : Nat) (G : gs_T) (x1 x2 : Int32) (r : Int32) (h : cS_liesWellByEndings n G x1 x2 = some r) : zc_i (zF E) (wc_c E G) (wc_c E G) yn_X1_liesWellByEndings cn_X1_liesWellByEndings 4 .boolean { frames := 2, cells := 0, slots := 0, locals := 46 } [.ref (ad_p E 2), .int x1, .int x2] r := by
  unfold cS_liesWellByEndings at h
  refine zc_i_of (by decide) rfl (Nat.le_of_ble_eq_true rfl) (fun X cx cq => ?_)
  refine zz_iconst cx dn_X1_liesWellByEndings_0 (v := (0 : Int32)) (by decide) ?_
  refine zz_istore_n cx dn_X1_liesWellByEndings_1 rfl (by decide) rfl ?_
  exact z_cS_liesWellByEndings_2 E n G x1 x2 _ X cx cq n (0 : Int32) h
set_option maxHeartbeats 4000000 in
set_option maxRecDepth 100000 in
theorem z_cS_isDepthLeft_2 (E : ze_T) (n : Nat) (G : gs_T) (x2 : Int32) (r : Int32) (X : zx_T) (cx : zx (zF E) X cn_X1_isDepthLeft yn_X1_isDepthLeft.cls { frames := 0, cells := 0, slots := 0, locals := 0 } 4) (cq : zq_i (zF E) X (wc_c E G) .boolean r) : ∀ (k : Nat) (x3 : Int32), cS_isDepthLeft_2 n G x2 k x3 = some r → zj (zF E) X 0 0 (wc_c E G) 2 [some (.ref (ad_p E 2)), none, some (.int x2), some (.int x3)] [] := by
  intro k
  induction k with
  | zero => intro x3 h; cases h
  | succ k ih =>
    intro x3 h
    rw [cS_isDepthLeft_2] at h
    refine zz_iload_n cx dn_X1_isDepthLeft_2 rfl rfl ?_
    refine zz_iload_n cx dn_X1_isDepthLeft_3 rfl rfl ?_
    refine zz_icmp_gt cx (tgt := 25) dn_X1_isDepthLeft_4 (by decide) h (fun h => ?_) (fun h => ?_)
    · refine zz_iconst cx dn_X1_isDepthLeft_25 (v := (1 : Int32)) (by decide) ?_
      obtain rfl := Option.some.inj h
      exact zz_zret cx cq rfl (by decide) (by decide) dn_X1_isDepthLeft_26
    · refine zz_aload_n cx dn_X1_isDepthLeft_7 rfl rfl ?_
      refine zz_get cx zi_X1 (v := .ref (ad_p E 16)) (ci := 1) rfl 2 13 rfl (by decide) zk_X1_52 rfl dn_X1_isDepthLeft_8 ?_
      refine zz_iload_n cx dn_X1_isDepthLeft_11 rfl rfl ?_
      refine zz_iald cx 16 0 rfl rfl h (v := (gs_a G 13 x3)) rfl dn_X1_isDepthLeft_12 (fun h => ?_)
      refine zz_iconst cx dn_X1_isDepthLeft_13 (v := (3 : Int32)) (by decide) ?_
      refine zz_icmp_lt cx (tgt := 19) dn_X1_isDepthLeft_14 (by decide) h (fun h => ?_) (fun h => ?_)
      · refine zz_iinc cx dn_X1_isDepthLeft_19 (d := (1 : Int32)) rfl (by decide) (by decide) rfl ?_
        refine zz_goto cx dn_X1_isDepthLeft_22 (tgt := 2) (by decide) ?_
        exact ih (x3 + (1 : Int32)) h
      · refine zz_iconst cx dn_X1_isDepthLeft_17 (v := (0 : Int32)) (by decide) ?_
        obtain rfl := Option.some.inj h
        exact zz_zret cx cq rfl (by decide) (by decide) dn_X1_isDepthLeft_18
set_option maxHeartbeats 4000000 in
set_option maxRecDepth 100000 in
theorem z_cS_isDepthLeft (E : ze_T) (n : Nat) (G : gs_T) (x1 x2 : Int32) (r : Int32) (h : cS_isDepthLeft n G x1 x2 = some r) : zc_i (zF E) (wc_c E G) (wc_c E G) yn_X1_isDepthLeft cn_X1_isDepthLeft 4 .boolean { frames := 0, cells := 0, slots := 0, locals := 0 } [.ref (ad_p E 2), .int x1, .int x2] r := by
  unfold cS_isDepthLeft at h
  refine zc_i_of (by decide) rfl (Nat.le_of_ble_eq_true rfl) (fun X cx cq => ?_)
  refine zz_iload_n cx dn_X1_isDepthLeft_0 rfl rfl ?_
  refine zz_istore_n cx dn_X1_isDepthLeft_1 rfl (by decide) rfl ?_
  refine zz_less (L2 := [some (.ref (ad_p E 2)), none, some (.int x2), some (.int x1)]) (⟨rfl, rfl, rfl, trivial⟩) ?_
  exact z_cS_isDepthLeft_2 E n G x2 _ X cx cq n x1 h
set_option maxHeartbeats 4000000 in
set_option maxRecDepth 100000 in
theorem z_cS_takesRepeat (E : ze_T) (n : Nat) (G : gs_T) (x1 x2 : Int32) (r : Int32) (h : cS_takesRepeat n G x1 x2 = some r) : zc_i (zF E) (wc_c E G) (wc_c E G) yn_X1_takesRepeat cn_X1_takesRepeat 3 .boolean { frames := 3, cells := 0, slots := 0, locals := 69 } [.ref (ad_p E 2), .int x1, .int x2] r := by
  unfold cS_takesRepeat at h
  refine zc_i_of (by decide) rfl (Nat.le_of_ble_eq_true rfl) (fun X cx cq => ?_)
  refine zz_aload_n cx dn_X1_takesRepeat_0 rfl rfl ?_
  refine zz_get cx zi_X1 (v := .int (G.1 7)) (ci := 1) rfl 2 16 rfl (by decide) zk_X1_68 rfl dn_X1_takesRepeat_1 ?_
  refine zz_bipush cx dn_X1_takesRepeat_4 (v := (20 : Int32)) (by decide) ?_
  refine zz_icmp_ge cx (tgt := 49) dn_X1_takesRepeat_6 (by decide) h (fun h => ?_) (fun h => ?_)
  · refine zz_iconst cx dn_X1_takesRepeat_49 (v := (0 : Int32)) (by decide) ?_
    obtain rfl := Option.some.inj h
    exact zz_zret cx cq rfl (by decide) (by decide) dn_X1_takesRepeat_50
  · refine zz_aload_n cx dn_X1_takesRepeat_9 rfl rfl ?_
    refine zz_iload_n cx dn_X1_takesRepeat_10 rfl rfl ?_
    refine zz_iload_n cx dn_X1_takesRepeat_11 rfl rfl ?_
    refine gs_bind h (fun q1 e_q1 h => ?_)
    refine zz_callVi cx (As := [.int x1, .int x2]) (rest := []) (c2 := 0) (s2 := 0) (z_cS_liesWellByRepeats E n G x1 x2 _ e_q1) zm_X1_liesWellByRepeats zk_X1_75 zv_X1_liesWellByRepeats 2 rfl rfl (by decide) rfl (Nat.le_of_ble_eq_true rfl) rfl rfl (by decide) (wc_c_addr E _ _) dn_X1_takesRepeat_12 ?_
    refine zz_if_eq cx (tgt := 49) dn_X1_takesRepeat_15 (by decide) h (fun h => ?_) (fun h => ?_)
    · refine zz_iconst cx dn_X1_takesRepeat_49 (v := (0 : Int32)) (by decide) ?_
      obtain rfl := Option.some.inj h
      exact zz_zret cx cq rfl (by decide) (by decide) dn_X1_takesRepeat_50
    · refine zz_aload_n cx dn_X1_takesRepeat_18 rfl rfl ?_
      refine zz_iload_n cx dn_X1_takesRepeat_19 rfl rfl ?_
      refine zz_iload_n cx dn_X1_takesRepeat_20 rfl rfl ?_
      refine gs_bind h (fun q2 e_q2 h => ?_)
      refine zz_callVi cx (As := [.int x1, .int x2]) (rest := []) (c2 := 0) (s2 := 0) (z_cS_hasSameRepeat E n G x1 x2 _ e_q2) zm_X1_hasSameRepeat zk_X1_79 zv_X1_hasSameRepeat 2 rfl rfl (by decide) rfl (Nat.le_of_ble_eq_true rfl) rfl rfl (by decide) (wc_c_addr E _ _) dn_X1_takesRepeat_21 ?_
      refine zz_if_ne cx (tgt := 49) dn_X1_takesRepeat_24 (by decide) h (fun h => ?_) (fun h => ?_)
      · refine zz_aload_n cx dn_X1_takesRepeat_27 rfl rfl ?_
        refine zz_iload_n cx dn_X1_takesRepeat_28 rfl rfl ?_
        refine zz_iload_n cx dn_X1_takesRepeat_29 rfl rfl ?_
        refine gs_bind h (fun q3 e_q3 h => ?_)
        refine zz_callVi cx (As := [.int x1, .int x2]) (rest := []) (c2 := 0) (s2 := 0) (z_cS_liesWellByEndings E n G x1 x2 _ e_q3) zm_X1_liesWellByEndings zk_X1_82 zv_X1_liesWellByEndings 2 rfl rfl (by decide) rfl (Nat.le_of_ble_eq_true rfl) rfl rfl (by decide) (wc_c_addr E _ _) dn_X1_takesRepeat_30 ?_
        refine zz_if_eq cx (tgt := 49) dn_X1_takesRepeat_33 (by decide) h (fun h => ?_) (fun h => ?_)
        · refine zz_iconst cx dn_X1_takesRepeat_49 (v := (0 : Int32)) (by decide) ?_
          obtain rfl := Option.some.inj h
          exact zz_zret cx cq rfl (by decide) (by decide) dn_X1_takesRepeat_50
        · refine zz_aload_n cx dn_X1_takesRepeat_36 rfl rfl ?_
          refine zz_iload_n cx dn_X1_takesRepeat_37 rfl rfl ?_
          refine zz_iload_n cx dn_X1_takesRepeat_38 rfl rfl ?_
          refine gs_bind h (fun q4 e_q4 h => ?_)
          refine zz_callVi cx (As := [.int x1, .int x2]) (rest := []) (c2 := 0) (s2 := 0) (z_cS_isDepthLeft E n G x1 x2 _ e_q4) zm_X1_isDepthLeft zk_X1_85 zv_X1_isDepthLeft 2 rfl rfl (by decide) rfl (Nat.le_of_ble_eq_true rfl) rfl rfl (by decide) (wc_c_addr E _ _) dn_X1_takesRepeat_39 ?_
          refine zz_if_eq cx (tgt := 49) dn_X1_takesRepeat_42 (by decide) h (fun h => ?_) (fun h => ?_)
          · refine zz_iconst cx dn_X1_takesRepeat_49 (v := (0 : Int32)) (by decide) ?_
            obtain rfl := Option.some.inj h
            exact zz_zret cx cq rfl (by decide) (by decide) dn_X1_takesRepeat_50
          · refine zz_iconst cx dn_X1_takesRepeat_45 (v := (1 : Int32)) (by decide) ?_
            refine zz_goto cx dn_X1_takesRepeat_46 (tgt := 50) (by decide) ?_
            obtain rfl := Option.some.inj h
            exact zz_zret cx cq rfl (by decide) (by decide) dn_X1_takesRepeat_50
      · refine zz_iconst cx dn_X1_takesRepeat_49 (v := (0 : Int32)) (by decide) ?_
        obtain rfl := Option.some.inj h
        exact zz_zret cx cq rfl (by decide) (by decide) dn_X1_takesRepeat_50
set_option maxHeartbeats 4000000 in
set_option maxRecDepth 100000 in
theorem z_cS_isRepeatWithin (E : ze_T) (G : gs_T) (x1 x2 : Int32) (r : Int32) (h : cS_isRepeatWithin G x1 x2 = some r) : zc_i (zF E) (wc_c E G) (wc_c E G) yn_X1_isRepeatWithin cn_X1_isRepeatWithin 3 .boolean { frames := 1, cells := 0, slots := 0, locals := 23 } [.ref (ad_p E 2), .int x1, .int x2] r := by
  unfold cS_isRepeatWithin at h
  refine zc_i_of (by decide) rfl (Nat.le_of_ble_eq_true rfl) (fun X cx cq => ?_)
  refine zz_aload_n cx dn_X1_isRepeatWithin_0 rfl rfl ?_
  refine zz_get cx zi_X1 (v := .ref (ad_p E 4)) (ci := 1) rfl 2 1 rfl (by decide) zk_X1_15 rfl dn_X1_isRepeatWithin_1 ?_
  refine zz_iload_n cx dn_X1_isRepeatWithin_4 rfl rfl ?_
  refine zz_iald cx 4 0 rfl rfl h (v := (gs_a G 1 x1)) rfl dn_X1_isRepeatWithin_5 (fun h => ?_)
  refine zz_aload_n cx dn_X1_isRepeatWithin_6 rfl rfl ?_
  refine zz_get cx zi_X1 (v := .ref (ad_p E 5)) (ci := 1) rfl 2 2 rfl (by decide) zk_X1_18 rfl dn_X1_isRepeatWithin_7 ?_
  refine zz_iload_n cx dn_X1_isRepeatWithin_10 rfl rfl ?_
  refine zz_iald cx 5 0 rfl rfl h (v := (gs_a G 2 x1)) rfl dn_X1_isRepeatWithin_11 (fun h => ?_)
  refine zz_aload_n cx dn_X1_isRepeatWithin_12 rfl rfl ?_
  refine zz_get cx zi_X1 (v := .ref (ad_p E 4)) (ci := 1) rfl 2 1 rfl (by decide) zk_X1_15 rfl dn_X1_isRepeatWithin_13 ?_
  refine zz_iload_n cx dn_X1_isRepeatWithin_16 rfl rfl ?_
  refine zz_iald cx 4 0 rfl rfl h (v := (gs_a G 1 x2)) rfl dn_X1_isRepeatWithin_17 (fun h => ?_)
  refine zz_aload_n cx dn_X1_isRepeatWithin_18 rfl rfl ?_
  refine zz_get cx zi_X1 (v := .ref (ad_p E 5)) (ci := 1) rfl 2 2 rfl (by decide) zk_X1_18 rfl dn_X1_isRepeatWithin_19 ?_
  refine zz_iload_n cx dn_X1_isRepeatWithin_22 rfl rfl ?_
  refine zz_iald cx 5 0 rfl rfl h (v := (gs_a G 2 x2)) rfl dn_X1_isRepeatWithin_23 (fun h => ?_)
  refine gs_bind h (fun q1 e_q1 h => ?_)
  refine zz_callSi cx (As := [.int (gs_a G 1 x1), .int (gs_a G 2 x1), .int (gs_a G 1 x2), .int (gs_a G 2 x2)]) (rest := []) (c2 := 0) (s2 := 0) (z_cS_liesWithin E G (gs_a G 1 x1) (gs_a G 2 x1) (gs_a G 1 x2) (gs_a G 2 x2) _ e_q1) zm_X1_liesWithin zk_X1_71 zs_X1_liesWithin (by decide) rfl (Nat.le_of_ble_eq_true rfl) rfl rfl (by decide) (wc_c_addr E _ _) dn_X1_isRepeatWithin_24 ?_
  obtain ⟨hz, h⟩ := gs_bz_some h
  obtain rfl := Option.some.inj h
  exact zz_zret cx cq (gs_narz hz) (by decide) (by decide) dn_X1_isRepeatWithin_27
set_option maxHeartbeats 4000000 in
set_option maxRecDepth 100000 in
theorem z_cS_putAround_14 (E : ze_T) (n : Nat) (x1 x2 x3 : Int32) (r : gs_T) (X : zx_T) (cx : zx (zF E) X cn_X1_putAround yn_X1_putAround.cls { frames := 2, cells := 0, slots := 0, locals := 45 } 5) (cq : zq_v (zF E) X (wc_c E r)) : ∀ (k : Nat) (x4 : Int32) (G : gs_T), cS_putAround_14 n x1 x2 x3 k x4 G = some r → zj (zF E) X 0 0 (wc_c E G) 14 [some (.ref (ad_p E 2)), some (.int x1), some (.int x2), some (.int x3), some (.int x4)] [] := by
  intro k
  induction k with
  | zero => intro x4 G h; cases h
  | succ k ih =>
    intro x4 G h
    rw [cS_putAround_14] at h
    refine zz_iload cx dn_X1_putAround_14 rfl ?_
    refine zz_iload_n cx dn_X1_putAround_16 rfl rfl ?_
    refine zz_icmp_le cx (tgt := 59) dn_X1_putAround_17 (by decide) h (fun h => ?_) (fun h => ?_)
    · refine zz_aload_n cx dn_X1_putAround_59 rfl rfl ?_
      refine zz_get cx zi_X1 (v := .ref (ad_p E 15)) (ci := 1) rfl 2 12 rfl (by decide) zk_X1_49 rfl dn_X1_putAround_60 ?_
      refine zz_iload cx dn_X1_putAround_63 rfl ?_
      refine zz_iload_n cx dn_X1_putAround_65 rfl rfl ?_
      refine zz_iast cx 15 0 rfl rfl h (ws2 := (wc_c E (gs_sa G 12 x4 x2))) (wc_c_a12 E _ _ _) dn_X1_putAround_66 (fun h => ?_)
      refine zz_aload_n cx dn_X1_putAround_67 rfl rfl ?_
      refine zz_get cx zi_X1 (v := .ref (ad_p E 16)) (ci := 1) rfl 2 13 rfl (by decide) zk_X1_52 rfl dn_X1_putAround_68 ?_
      refine zz_iload_n cx dn_X1_putAround_71 rfl rfl ?_
      refine zz_dup2 cx dn_X1_putAround_72 rfl rfl ?_
      refine zz_iald cx 16 0 rfl rfl h (v := (gs_a G 13 x1)) rfl dn_X1_putAround_73 (fun h => ?_)
      refine zz_iconst cx dn_X1_putAround_74 (v := (1 : Int32)) (by decide) ?_
      refine zz_iadd cx dn_X1_putAround_75 ?_
      refine zz_iast cx 16 0 rfl rfl h (ws2 := (wc_c E (gs_sa (gs_sa G 12 x4 x2) 13 x1 ((gs_a G 13 x1) + (1 : Int32))))) (wc_c_a13 E _ _ _) dn_X1_putAround_76 (fun h => ?_)
      obtain rfl := Option.some.inj h
      exact zz_vret cx cq (by decide) (by decide) dn_X1_putAround_77
    · refine zz_aload_n cx dn_X1_putAround_20 rfl rfl ?_
      refine zz_aload_n cx dn_X1_putAround_21 rfl rfl ?_
      refine zz_get cx zi_X1 (v := .ref (ad_p E 15)) (ci := 1) rfl 2 12 rfl (by decide) zk_X1_49 rfl dn_X1_putAround_22 ?_
      refine zz_iload cx dn_X1_putAround_25 rfl ?_
      refine zz_iconst cx dn_X1_putAround_27 (v := (1 : Int32)) (by decide) ?_
      refine zz_isub cx dn_X1_putAround_28 ?_
      refine zz_iald cx 15 0 rfl rfl h (v := (gs_a G 12 (x4 - (1 : Int32)))) rfl dn_X1_putAround_29 (fun h => ?_)
      refine zz_iload_n cx dn_X1_putAround_30 rfl rfl ?_
      refine gs_bind h (fun q1 e_q1 h => ?_)
      refine zz_callVi cx (As := [.int (gs_a G 12 (x4 - (1 : Int32))), .int x2]) (rest := []) (c2 := 0) (s2 := 0) (z_cS_isRepeatWithin E G (gs_a G 12 (x4 - (1 : Int32))) x2 _ e_q1) zm_X1_isRepeatWithin zk_X1_101 zv_X1_isRepeatWithin 2 rfl rfl (by decide) rfl (Nat.le_of_ble_eq_true rfl) rfl rfl (by decide) (wc_c_addr E _ _) dn_X1_putAround_31 ?_
      refine zz_if_eq cx (tgt := 59) dn_X1_putAround_34 (by decide) h (fun h => ?_) (fun h => ?_)
      · refine zz_aload_n cx dn_X1_putAround_59 rfl rfl ?_
        refine zz_get cx zi_X1 (v := .ref (ad_p E 15)) (ci := 1) rfl 2 12 rfl (by decide) zk_X1_49 rfl dn_X1_putAround_60 ?_
        refine zz_iload cx dn_X1_putAround_63 rfl ?_
        refine zz_iload_n cx dn_X1_putAround_65 rfl rfl ?_
        refine zz_iast cx 15 0 rfl rfl h (ws2 := (wc_c E (gs_sa G 12 x4 x2))) (wc_c_a12 E _ _ _) dn_X1_putAround_66 (fun h => ?_)
        refine zz_aload_n cx dn_X1_putAround_67 rfl rfl ?_
        refine zz_get cx zi_X1 (v := .ref (ad_p E 16)) (ci := 1) rfl 2 13 rfl (by decide) zk_X1_52 rfl dn_X1_putAround_68 ?_
        refine zz_iload_n cx dn_X1_putAround_71 rfl rfl ?_
        refine zz_dup2 cx dn_X1_putAround_72 rfl rfl ?_
        refine zz_iald cx 16 0 rfl rfl h (v := (gs_a G 13 x1)) rfl dn_X1_putAround_73 (fun h => ?_)
        refine zz_iconst cx dn_X1_putAround_74 (v := (1 : Int32)) (by decide) ?_
        refine zz_iadd cx dn_X1_putAround_75 ?_
        refine zz_iast cx 16 0 rfl rfl h (ws2 := (wc_c E (gs_sa (gs_sa G 12 x4 x2) 13 x1 ((gs_a G 13 x1) + (1 : Int32))))) (wc_c_a13 E _ _ _) dn_X1_putAround_76 (fun h => ?_)
        obtain rfl := Option.some.inj h
        exact zz_vret cx cq (by decide) (by decide) dn_X1_putAround_77
      · refine zz_aload_n cx dn_X1_putAround_37 rfl rfl ?_
        refine zz_get cx zi_X1 (v := .ref (ad_p E 15)) (ci := 1) rfl 2 12 rfl (by decide) zk_X1_49 rfl dn_X1_putAround_38 ?_
        refine zz_iload cx dn_X1_putAround_41 rfl ?_
        refine zz_aload_n cx dn_X1_putAround_43 rfl rfl ?_
        refine zz_get cx zi_X1 (v := .ref (ad_p E 15)) (ci := 1) rfl 2 12 rfl (by decide) zk_X1_49 rfl dn_X1_putAround_44 ?_
        refine zz_iload cx dn_X1_putAround_47 rfl ?_
        refine zz_iconst cx dn_X1_putAround_49 (v := (1 : Int32)) (by decide) ?_
        refine zz_isub cx dn_X1_putAround_50 ?_
        refine zz_iald cx 15 0 rfl rfl h (v := (gs_a G 12 (x4 - (1 : Int32)))) rfl dn_X1_putAround_51 (fun h => ?_)
        refine zz_iast cx 15 0 rfl rfl h (ws2 := (wc_c E (gs_sa G 12 x4 (gs_a G 12 (x4 - (1 : Int32)))))) (wc_c_a12 E _ _ _) dn_X1_putAround_52 (fun h => ?_)
        refine zz_iinc cx dn_X1_putAround_53 (d := (-1 : Int32)) rfl (by decide) (by decide) rfl ?_
        refine zz_goto cx dn_X1_putAround_56 (tgt := 14) (by decide) ?_
        exact ih (x4 + (-1 : Int32)) (gs_sa G 12 x4 (gs_a G 12 (x4 - (1 : Int32)))) h
set_option maxHeartbeats 4000000 in
set_option maxRecDepth 100000 in
theorem z_cS_putAround_j59 (E : ze_T) (n : Nat) (G : gs_T) (x1 x2 x4 : Int32) (r : gs_T) (X : zx_T) (cx : zx (zF E) X cn_X1_putAround yn_X1_putAround.cls { frames := 2, cells := 0, slots := 0, locals := 45 } 5) (cq : zq_v (zF E) X (wc_c E r)) (h : cS_putAround_j59 n G x1 x2 x4 = some r) : zj (zF E) X 0 0 (wc_c E G) 59 [some (.ref (ad_p E 2)), some (.int x1), some (.int x2), none, some (.int x4)] [] := by
  unfold cS_putAround_j59 at h
  refine zz_aload_n cx dn_X1_putAround_59 rfl rfl ?_
  refine zz_get cx zi_X1 (v := .ref (ad_p E 15)) (ci := 1) rfl 2 12 rfl (by decide) zk_X1_49 rfl dn_X1_putAround_60 ?_
  refine zz_iload cx dn_X1_putAround_63 rfl ?_
  refine zz_iload_n cx dn_X1_putAround_65 rfl rfl ?_
  refine zz_iast cx 15 0 rfl rfl h (ws2 := (wc_c E (gs_sa G 12 x4 x2))) (wc_c_a12 E _ _ _) dn_X1_putAround_66 (fun h => ?_)
  refine zz_aload_n cx dn_X1_putAround_67 rfl rfl ?_
  refine zz_get cx zi_X1 (v := .ref (ad_p E 16)) (ci := 1) rfl 2 13 rfl (by decide) zk_X1_52 rfl dn_X1_putAround_68 ?_
  refine zz_iload_n cx dn_X1_putAround_71 rfl rfl ?_
  refine zz_dup2 cx dn_X1_putAround_72 rfl rfl ?_
  refine zz_iald cx 16 0 rfl rfl h (v := (gs_a G 13 x1)) rfl dn_X1_putAround_73 (fun h => ?_)
  refine zz_iconst cx dn_X1_putAround_74 (v := (1 : Int32)) (by decide) ?_
  refine zz_iadd cx dn_X1_putAround_75 ?_
  refine zz_iast cx 16 0 rfl rfl h (ws2 := (wc_c E (gs_sa (gs_sa G 12 x4 x2) 13 x1 ((gs_a G 13 x1) + (1 : Int32))))) (wc_c_a13 E _ _ _) dn_X1_putAround_76 (fun h => ?_)
  obtain rfl := Option.some.inj h
  exact zz_vret cx cq (by decide) (by decide) dn_X1_putAround_77
set_option maxHeartbeats 4000000 in
set_option maxRecDepth 100000 in
theorem z_cS_putAround (E : ze_T) (n : Nat) (G : gs_T) (x1 x2 : Int32) (r : gs_T) (h : cS_putAround n G x1 x2 = some r) : zc_v (zF E) (wc_c E G) (wc_c E r) yn_X1_putAround cn_X1_putAround 5 { frames := 2, cells := 0, slots := 0, locals := 45 } [.ref (ad_p E 2), .int x1, .int x2] := by
  unfold cS_putAround at h
  refine zc_v_of (by decide) rfl (Nat.le_of_ble_eq_true rfl) (fun X cx cq => ?_)
  refine zz_iload_n cx dn_X1_putAround_0 rfl rfl ?_
  refine zz_iconst cx dn_X1_putAround_1 (v := (3 : Int32)) (by decide) ?_
  refine zz_imul cx dn_X1_putAround_2 ?_
  refine zz_istore_n cx dn_X1_putAround_3 rfl (by decide) rfl ?_
  refine zz_iload_n cx dn_X1_putAround_4 rfl rfl ?_
  refine zz_aload_n cx dn_X1_putAround_5 rfl rfl ?_
  refine zz_get cx zi_X1 (v := .ref (ad_p E 16)) (ci := 1) rfl 2 13 rfl (by decide) zk_X1_52 rfl dn_X1_putAround_6 ?_
  refine zz_iload_n cx dn_X1_putAround_9 rfl rfl ?_
  refine zz_iald cx 16 0 rfl rfl h (v := (gs_a G 13 x1)) rfl dn_X1_putAround_10 (fun h => ?_)
  refine zz_iadd cx dn_X1_putAround_11 ?_
  refine zz_istore cx dn_X1_putAround_12 (by decide) rfl ?_
  exact z_cS_putAround_14 E n x1 x2 (x1 * (3 : Int32)) _ X cx cq n ((x1 * (3 : Int32)) + (gs_a G 13 x1)) G h
set_option maxHeartbeats 4000000 in
set_option maxRecDepth 100000 in
theorem z_cS_addRepeat_33 (E : ze_T) (n : Nat) (x2 : Int32) (r : (Int32 × gs_T)) (X : zx_T) (cx : zx (zF E) X cn_X1_addRepeat yn_X1_addRepeat.cls { frames := 3, cells := 0, slots := 0, locals := 69 } 5) (cq : zq_i (zF E) X (wc_c E r.2) .int r.1) : ∀ (k : Nat) (x4 : Int32) (G : gs_T), cS_addRepeat_33 n x2 k x4 G = some r → zj (zF E) X 0 0 (wc_c E G) 33 [some (.ref (ad_p E 2)), none, some (.int x2), none, some (.int x4)] [] := by
  intro k
  induction k with
  | zero => intro x4 G h; cases h
  | succ k ih =>
    intro x4 G h
    rw [cS_addRepeat_33] at h
    refine zz_iload cx dn_X1_addRepeat_33 rfl ?_
    refine zz_iload_n cx dn_X1_addRepeat_35 rfl rfl ?_
    refine zz_icmp_gt cx (tgt := 55) dn_X1_addRepeat_36 (by decide) h (fun h => ?_) (fun h => ?_)
    · refine zz_aload_n cx dn_X1_addRepeat_55 rfl rfl ?_
      refine zz_dup cx dn_X1_addRepeat_56 rfl ?_
      refine zz_get cx zi_X1 (v := .int (G.1 7)) (ci := 1) rfl 2 16 rfl (by decide) zk_X1_68 rfl dn_X1_addRepeat_57 ?_
      refine zz_dup_x1 cx dn_X1_addRepeat_60 rfl rfl ?_
      refine zz_iconst cx dn_X1_addRepeat_61 (v := (1 : Int32)) (by decide) ?_
      refine zz_iadd cx dn_X1_addRepeat_62 ?_
      refine zz_put cx (ws2 := (wc_c E (gs_sv G 7 ((G.1 7) + (1 : Int32))))) (ty := .int) (ci := 1) zi_X1 fk_X1 nm_X1 rfl 2 16 rfl (by decide) zk_X1_68 rfl (by decide +kernel) rfl rfl (Nat.le_of_ble_eq_true rfl) (wc_c_s7 E _ _) dn_X1_addRepeat_63 ?_
      obtain rfl := Option.some.inj h
      exact zz_iret cx cq (by decide) (by decide) dn_X1_addRepeat_66
    · refine zz_aload_n cx dn_X1_addRepeat_39 rfl rfl ?_
      refine zz_iload cx dn_X1_addRepeat_40 rfl ?_
      refine zz_aload_n cx dn_X1_addRepeat_42 rfl rfl ?_
      refine zz_get cx zi_X1 (v := .int (G.1 7)) (ci := 1) rfl 2 16 rfl (by decide) zk_X1_68 rfl dn_X1_addRepeat_43 ?_
      refine gs_bind h (fun q1 e_q1 h => ?_)
      refine zz_callVv cx (As := [.int x4, .int (G.1 7)]) (rest := []) (c2 := 0) (s2 := 0) (z_cS_putAround E n G x4 (G.1 7) _ e_q1) zm_X1_putAround zk_X1_97 zv_X1_putAround 2 rfl rfl (by decide) rfl (Nat.le_of_ble_eq_true rfl) rfl rfl (by decide) (wc_c_addr E _ _) dn_X1_addRepeat_46 ?_
      refine zz_iinc cx dn_X1_addRepeat_49 (d := (1 : Int32)) rfl (by decide) (by decide) rfl ?_
      refine zz_goto cx dn_X1_addRepeat_52 (tgt := 33) (by decide) ?_
      exact ih (x4 + (1 : Int32)) q1 h
set_option maxHeartbeats 4000000 in
set_option maxRecDepth 100000 in
theorem z_cS_addRepeat (E : ze_T) (n : Nat) (G : gs_T) (x1 x2 x3 : Int32) (r : (Int32 × gs_T)) (h : cS_addRepeat n G x1 x2 x3 = some r) : zc_i (zF E) (wc_c E G) (wc_c E r.2) yn_X1_addRepeat cn_X1_addRepeat 5 .int { frames := 3, cells := 0, slots := 0, locals := 69 } [.ref (ad_p E 2), .int x1, .int x2, .int x3] r.1 := by
  unfold cS_addRepeat at h
  refine zc_i_of (by decide) rfl (Nat.le_of_ble_eq_true rfl) (fun X cx cq => ?_)
  refine zz_aload_n cx dn_X1_addRepeat_0 rfl rfl ?_
  refine zz_get cx zi_X1 (v := .ref (ad_p E 4)) (ci := 1) rfl 2 1 rfl (by decide) zk_X1_15 rfl dn_X1_addRepeat_1 ?_
  refine zz_aload_n cx dn_X1_addRepeat_4 rfl rfl ?_
  refine zz_get cx zi_X1 (v := .int (G.1 7)) (ci := 1) rfl 2 16 rfl (by decide) zk_X1_68 rfl dn_X1_addRepeat_5 ?_
  refine zz_iload_n cx dn_X1_addRepeat_8 rfl rfl ?_
  refine zz_iast cx 4 0 rfl rfl h (ws2 := (wc_c E (gs_sa G 1 (G.1 7) x1))) (wc_c_a1 E _ _ _) dn_X1_addRepeat_9 (fun h => ?_)
  refine zz_aload_n cx dn_X1_addRepeat_10 rfl rfl ?_
  refine zz_get cx zi_X1 (v := .ref (ad_p E 5)) (ci := 1) rfl 2 2 rfl (by decide) zk_X1_18 rfl dn_X1_addRepeat_11 ?_
  refine zz_aload_n cx dn_X1_addRepeat_14 rfl rfl ?_
  refine zz_get cx zi_X1 (v := .int (G.1 7)) (ci := 1) rfl 2 16 rfl (by decide) zk_X1_68 rfl dn_X1_addRepeat_15 ?_
  refine zz_iload_n cx dn_X1_addRepeat_18 rfl rfl ?_
  refine zz_iast cx 5 0 rfl rfl h (ws2 := (wc_c E (gs_sa (gs_sa G 1 (G.1 7) x1) 2 (G.1 7) x2))) (wc_c_a2 E _ _ _) dn_X1_addRepeat_19 (fun h => ?_)
  refine zz_aload_n cx dn_X1_addRepeat_20 rfl rfl ?_
  refine zz_get cx zi_X1 (v := .ref (ad_p E 6)) (ci := 1) rfl 2 3 rfl (by decide) zk_X1_21 rfl dn_X1_addRepeat_21 ?_
  refine zz_aload_n cx dn_X1_addRepeat_24 rfl rfl ?_
  refine zz_get cx zi_X1 (v := .int (G.1 7)) (ci := 1) rfl 2 16 rfl (by decide) zk_X1_68 rfl dn_X1_addRepeat_25 ?_
  refine zz_iload_n cx dn_X1_addRepeat_28 rfl rfl ?_
  refine zz_iast cx 6 0 rfl rfl h (ws2 := (wc_c E (gs_sa (gs_sa (gs_sa G 1 (G.1 7) x1) 2 (G.1 7) x2) 3 (G.1 7) x3))) (wc_c_a3 E _ _ _) dn_X1_addRepeat_29 (fun h => ?_)
  refine zz_iload_n cx dn_X1_addRepeat_30 rfl rfl ?_
  refine zz_istore cx dn_X1_addRepeat_31 (by decide) rfl ?_
  refine zz_less (L2 := [some (.ref (ad_p E 2)), none, some (.int x2), none, some (.int x1)]) (⟨rfl, rfl, rfl, trivial⟩) ?_
  exact z_cS_addRepeat_33 E n x2 _ X cx cq n x1 (gs_sa (gs_sa (gs_sa G 1 (G.1 7) x1) 2 (G.1 7) x2) 3 (G.1 7) x3) h
set_option maxHeartbeats 4000000 in
set_option maxRecDepth 100000 in
theorem z_cS_hasRepeat (E : ze_T) (G : gs_T) (x1 : Int32) (r : Int32) (h : cS_hasRepeat G x1 = some r) : zc_i (zF E) (wc_c E G) (wc_c E G) yn_X1_hasRepeat cn_X1_hasRepeat 2 .boolean { frames := 0, cells := 0, slots := 0, locals := 0 } [.ref (ad_p E 2), .int x1] r := by
  unfold cS_hasRepeat at h
  refine zc_i_of (by decide) rfl (Nat.le_of_ble_eq_true rfl) (fun X cx cq => ?_)
  refine zz_iload_n cx dn_X1_hasRepeat_0 rfl rfl ?_
  refine zz_if_lt cx (tgt := 16) dn_X1_hasRepeat_1 (by decide) h (fun h => ?_) (fun h => ?_)
  · refine zz_iconst cx dn_X1_hasRepeat_16 (v := (0 : Int32)) (by decide) ?_
    obtain rfl := Option.some.inj h
    exact zz_zret cx cq rfl (by decide) (by decide) dn_X1_hasRepeat_17
  · refine zz_iload_n cx dn_X1_hasRepeat_4 rfl rfl ?_
    refine zz_aload_n cx dn_X1_hasRepeat_5 rfl rfl ?_
    refine zz_get cx zi_X1 (v := .int (G.1 7)) (ci := 1) rfl 2 16 rfl (by decide) zk_X1_68 rfl dn_X1_hasRepeat_6 ?_
    refine zz_icmp_ge cx (tgt := 16) dn_X1_hasRepeat_9 (by decide) h (fun h => ?_) (fun h => ?_)
    · refine zz_iconst cx dn_X1_hasRepeat_16 (v := (0 : Int32)) (by decide) ?_
      obtain rfl := Option.some.inj h
      exact zz_zret cx cq rfl (by decide) (by decide) dn_X1_hasRepeat_17
    · refine zz_iconst cx dn_X1_hasRepeat_12 (v := (1 : Int32)) (by decide) ?_
      refine zz_goto cx dn_X1_hasRepeat_13 (tgt := 17) (by decide) ?_
      obtain rfl := Option.some.inj h
      exact zz_zret cx cq rfl (by decide) (by decide) dn_X1_hasRepeat_17
set_option maxHeartbeats 4000000 in
set_option maxRecDepth 100000 in
theorem z_cS_hasPasses (E : ze_T) (G : gs_T) (x1 x2 : Int32) (r : Int32) (h : cS_hasPasses G x1 x2 = some r) : zc_i (zF E) (wc_c E G) (wc_c E G) yn_X1_hasPasses cn_X1_hasPasses 4 .boolean { frames := 0, cells := 0, slots := 0, locals := 0 } [.ref (ad_p E 2), .int x1, .int x2] r := by
  unfold cS_hasPasses at h
  refine zc_i_of (by decide) rfl (Nat.le_of_ble_eq_true rfl) (fun X cx cq => ?_)
  refine zz_iconst cx dn_X1_hasPasses_0 (v := (1 : Int32)) (by decide) ?_
  refine zz_aload_n cx dn_X1_hasPasses_1 rfl rfl ?_
  refine zz_get cx zi_X1 (v := .ref (ad_p E 6)) (ci := 1) rfl 2 3 rfl (by decide) zk_X1_21 rfl dn_X1_hasPasses_2 ?_
  refine zz_iload_n cx dn_X1_hasPasses_5 rfl rfl ?_
  refine zz_iald cx 6 0 rfl rfl h (v := (gs_a G 3 x1)) rfl dn_X1_hasPasses_6 (fun h => ?_)
  refine zz_ishl cx dn_X1_hasPasses_7 ?_
  refine zz_iconst cx dn_X1_hasPasses_8 (v := (1 : Int32)) (by decide) ?_
  refine zz_isub cx dn_X1_hasPasses_9 ?_
  refine zz_istore_n cx dn_X1_hasPasses_10 rfl (by decide) rfl ?_
  refine zz_iload_n cx dn_X1_hasPasses_11 rfl rfl ?_
  refine zz_if_eq cx (tgt := 27) dn_X1_hasPasses_12 (by decide) h (fun h => ?_) (fun h => ?_)
  · refine zz_iconst cx dn_X1_hasPasses_27 (v := (0 : Int32)) (by decide) ?_
    obtain rfl := Option.some.inj h
    exact zz_zret cx cq rfl (by decide) (by decide) dn_X1_hasPasses_28
  · refine zz_iload_n cx dn_X1_hasPasses_15 rfl rfl ?_
    refine zz_iload_n cx dn_X1_hasPasses_16 rfl rfl ?_
    refine zz_iconst cx dn_X1_hasPasses_17 (v := (-1 : Int32)) (by decide) ?_
    refine zz_ixor cx dn_X1_hasPasses_18 ?_
    refine zz_iand cx dn_X1_hasPasses_19 ?_
    refine zz_if_ne cx (tgt := 27) dn_X1_hasPasses_20 (by decide) h (fun h => ?_) (fun h => ?_)
    · refine zz_iconst cx dn_X1_hasPasses_23 (v := (1 : Int32)) (by decide) ?_
      refine zz_goto cx dn_X1_hasPasses_24 (tgt := 28) (by decide) ?_
      obtain rfl := Option.some.inj h
      exact zz_zret cx cq rfl (by decide) (by decide) dn_X1_hasPasses_28
    · refine zz_iconst cx dn_X1_hasPasses_27 (v := (0 : Int32)) (by decide) ?_
      obtain rfl := Option.some.inj h
      exact zz_zret cx cq rfl (by decide) (by decide) dn_X1_hasPasses_28
set_option maxHeartbeats 4000000 in
set_option maxRecDepth 100000 in
theorem z_cS_isApartFromEndings_2 (E : ze_T) (n : Nat) (G : gs_T) (x1 x2 : Int32) (r : Int32) (X : zx_T) (cx : zx (zF E) X cn_X1_isApartFromEndings yn_X1_isApartFromEndings.cls { frames := 0, cells := 0, slots := 0, locals := 0 } 4) (cq : zq_i (zF E) X (wc_c E G) .boolean r) : ∀ (k : Nat) (x3 : Int32), cS_isApartFromEndings_2 n G x1 x2 k x3 = some r → zj (zF E) X 0 0 (wc_c E G) 2 [some (.ref (ad_p E 2)), some (.int x1), some (.int x2), some (.int x3)] [] := by
  intro k
  induction k with
  | zero => intro x3 h; cases h
  | succ k ih =>
    intro x3 h
    rw [cS_isApartFromEndings_2] at h
    refine zz_iload_n cx dn_X1_isApartFromEndings_2 rfl rfl ?_
    refine zz_aload_n cx dn_X1_isApartFromEndings_3 rfl rfl ?_
    refine zz_get cx zi_X1 (v := .int (G.1 8)) (ci := 1) rfl 2 17 rfl (by decide) zk_X1_88 rfl dn_X1_isApartFromEndings_4 ?_
    refine zz_icmp_ge cx (tgt := 38) dn_X1_isApartFromEndings_7 (by decide) h (fun h => ?_) (fun h => ?_)
    · refine zz_iconst cx dn_X1_isApartFromEndings_38 (v := (1 : Int32)) (by decide) ?_
      obtain rfl := Option.some.inj h
      exact zz_zret cx cq rfl (by decide) (by decide) dn_X1_isApartFromEndings_39
    · refine zz_iload_n cx dn_X1_isApartFromEndings_10 rfl rfl ?_
      refine zz_aload_n cx dn_X1_isApartFromEndings_11 rfl rfl ?_
      refine zz_get cx zi_X1 (v := .ref (ad_p E 9)) (ci := 1) rfl 2 6 rfl (by decide) zk_X1_30 rfl dn_X1_isApartFromEndings_12 ?_
      refine zz_iload_n cx dn_X1_isApartFromEndings_15 rfl rfl ?_
      refine zz_iald cx 9 0 rfl rfl h (v := (gs_a G 6 x3)) rfl dn_X1_isApartFromEndings_16 (fun h => ?_)
      refine zz_icmp_gt cx (tgt := 32) dn_X1_isApartFromEndings_17 (by decide) h (fun h => ?_) (fun h => ?_)
      · refine zz_iinc cx dn_X1_isApartFromEndings_32 (d := (1 : Int32)) rfl (by decide) (by decide) rfl ?_
        refine zz_goto cx dn_X1_isApartFromEndings_35 (tgt := 2) (by decide) ?_
        exact ih (x3 + (1 : Int32)) h
      · refine zz_aload_n cx dn_X1_isApartFromEndings_20 rfl rfl ?_
        refine zz_get cx zi_X1 (v := .ref (ad_p E 8)) (ci := 1) rfl 2 5 rfl (by decide) zk_X1_27 rfl dn_X1_isApartFromEndings_21 ?_
        refine zz_iload_n cx dn_X1_isApartFromEndings_24 rfl rfl ?_
        refine zz_iald cx 8 0 rfl rfl h (v := (gs_a G 5 x3)) rfl dn_X1_isApartFromEndings_25 (fun h => ?_)
        refine zz_iload_n cx dn_X1_isApartFromEndings_26 rfl rfl ?_
        refine zz_icmp_gt cx (tgt := 32) dn_X1_isApartFromEndings_27 (by decide) h (fun h => ?_) (fun h => ?_)
        · refine zz_iinc cx dn_X1_isApartFromEndings_32 (d := (1 : Int32)) rfl (by decide) (by decide) rfl ?_
          refine zz_goto cx dn_X1_isApartFromEndings_35 (tgt := 2) (by decide) ?_
          exact ih (x3 + (1 : Int32)) h
        · refine zz_iconst cx dn_X1_isApartFromEndings_30 (v := (0 : Int32)) (by decide) ?_
          obtain rfl := Option.some.inj h
          exact zz_zret cx cq rfl (by decide) (by decide) dn_X1_isApartFromEndings_31
set_option maxHeartbeats 4000000 in
set_option maxRecDepth 100000 in
theorem z_cS_isApartFromEndings (E : ze_T) (n : Nat) (G : gs_T) (x1 x2 : Int32) (r : Int32) (h : cS_isApartFromEndings n G x1 x2 = some r) : zc_i (zF E) (wc_c E G) (wc_c E G) yn_X1_isApartFromEndings cn_X1_isApartFromEndings 4 .boolean { frames := 0, cells := 0, slots := 0, locals := 0 } [.ref (ad_p E 2), .int x1, .int x2] r := by
  unfold cS_isApartFromEndings at h
  refine zc_i_of (by decide) rfl (Nat.le_of_ble_eq_true rfl) (fun X cx cq => ?_)
  refine zz_iconst cx dn_X1_isApartFromEndings_0 (v := (0 : Int32)) (by decide) ?_
  refine zz_istore_n cx dn_X1_isApartFromEndings_1 rfl (by decide) rfl ?_
  exact z_cS_isApartFromEndings_2 E n G x1 x2 _ X cx cq n (0 : Int32) h
set_option maxHeartbeats 4000000 in
set_option maxRecDepth 100000 in
theorem z_cS_takesEnding (E : ze_T) (n : Nat) (G : gs_T) (x1 x2 x3 : Int32) (r : Int32) (h : cS_takesEnding n G x1 x2 x3 = some r) : zc_i (zF E) (wc_c E G) (wc_c E G) yn_X1_takesEnding cn_X1_takesEnding 4 .boolean { frames := 3, cells := 0, slots := 0, locals := 69 } [.ref (ad_p E 2), .int x1, .int x2, .int x3] r := by
  unfold cS_takesEnding at h
  refine zc_i_of (by decide) rfl (Nat.le_of_ble_eq_true rfl) (fun X cx cq => ?_)
  refine zz_aload_n cx dn_X1_takesEnding_0 rfl rfl ?_
  refine zz_get cx zi_X1 (v := .int (G.1 8)) (ci := 1) rfl 2 17 rfl (by decide) zk_X1_88 rfl dn_X1_takesEnding_1 ?_
  refine zz_bipush cx dn_X1_takesEnding_4 (v := (20 : Int32)) (by decide) ?_
  refine zz_icmp_ge cx (tgt := 51) dn_X1_takesEnding_6 (by decide) h (fun h => ?_) (fun h => ?_)
  · refine zz_iconst cx dn_X1_takesEnding_51 (v := (0 : Int32)) (by decide) ?_
    obtain rfl := Option.some.inj h
    exact zz_zret cx cq rfl (by decide) (by decide) dn_X1_takesEnding_52
  · refine zz_iload_n cx dn_X1_takesEnding_9 rfl rfl ?_
    refine zz_iload_n cx dn_X1_takesEnding_10 rfl rfl ?_
    refine zz_aload_n cx dn_X1_takesEnding_11 rfl rfl ?_
    refine zz_get cx zi_X1 (v := .ref (ad_p E 4)) (ci := 1) rfl 2 1 rfl (by decide) zk_X1_15 rfl dn_X1_takesEnding_12 ?_
    refine zz_iload_n cx dn_X1_takesEnding_15 rfl rfl ?_
    refine zz_iald cx 4 0 rfl rfl h (v := (gs_a G 1 x1)) rfl dn_X1_takesEnding_16 (fun h => ?_)
    refine zz_aload_n cx dn_X1_takesEnding_17 rfl rfl ?_
    refine zz_get cx zi_X1 (v := .ref (ad_p E 5)) (ci := 1) rfl 2 2 rfl (by decide) zk_X1_18 rfl dn_X1_takesEnding_18 ?_
    refine zz_iload_n cx dn_X1_takesEnding_21 rfl rfl ?_
    refine zz_iald cx 5 0 rfl rfl h (v := (gs_a G 2 x1)) rfl dn_X1_takesEnding_22 (fun h => ?_)
    refine gs_bind h (fun q1 e_q1 h => ?_)
    refine zz_callSi cx (As := [.int x2, .int x3, .int (gs_a G 1 x1), .int (gs_a G 2 x1)]) (rest := []) (c2 := 0) (s2 := 0) (z_cS_liesWithin E G x2 x3 (gs_a G 1 x1) (gs_a G 2 x1) _ e_q1) zm_X1_liesWithin zk_X1_71 zs_X1_liesWithin (by decide) rfl (Nat.le_of_ble_eq_true rfl) rfl rfl (by decide) (wc_c_addr E _ _) dn_X1_takesEnding_23 ?_
    refine zz_if_eq cx (tgt := 51) dn_X1_takesEnding_26 (by decide) h (fun h => ?_) (fun h => ?_)
    · refine zz_iconst cx dn_X1_takesEnding_51 (v := (0 : Int32)) (by decide) ?_
      obtain rfl := Option.some.inj h
      exact zz_zret cx cq rfl (by decide) (by decide) dn_X1_takesEnding_52
    · refine zz_aload_n cx dn_X1_takesEnding_29 rfl rfl ?_
      refine zz_iload_n cx dn_X1_takesEnding_30 rfl rfl ?_
      refine zz_iload_n cx dn_X1_takesEnding_31 rfl rfl ?_
      refine gs_bind h (fun q2 e_q2 h => ?_)
      refine zz_callVi cx (As := [.int x2, .int x3]) (rest := []) (c2 := 0) (s2 := 0) (z_cS_liesWellByRepeats E n G x2 x3 _ e_q2) zm_X1_liesWellByRepeats zk_X1_75 zv_X1_liesWellByRepeats 2 rfl rfl (by decide) rfl (Nat.le_of_ble_eq_true rfl) rfl rfl (by decide) (wc_c_addr E _ _) dn_X1_takesEnding_32 ?_
      refine zz_if_eq cx (tgt := 51) dn_X1_takesEnding_35 (by decide) h (fun h => ?_) (fun h => ?_)
      · refine zz_iconst cx dn_X1_takesEnding_51 (v := (0 : Int32)) (by decide) ?_
        obtain rfl := Option.some.inj h
        exact zz_zret cx cq rfl (by decide) (by decide) dn_X1_takesEnding_52
      · refine zz_aload_n cx dn_X1_takesEnding_38 rfl rfl ?_
        refine zz_iload_n cx dn_X1_takesEnding_39 rfl rfl ?_
        refine zz_iload_n cx dn_X1_takesEnding_40 rfl rfl ?_
        refine gs_bind h (fun q3 e_q3 h => ?_)
        refine zz_callVi cx (As := [.int x2, .int x3]) (rest := []) (c2 := 0) (s2 := 0) (z_cS_isApartFromEndings E n G x2 x3 _ e_q3) zm_X1_isApartFromEndings zk_X1_91 zv_X1_isApartFromEndings 2 rfl rfl (by decide) rfl (Nat.le_of_ble_eq_true rfl) rfl rfl (by decide) (wc_c_addr E _ _) dn_X1_takesEnding_41 ?_
        refine zz_if_eq cx (tgt := 51) dn_X1_takesEnding_44 (by decide) h (fun h => ?_) (fun h => ?_)
        · refine zz_iconst cx dn_X1_takesEnding_51 (v := (0 : Int32)) (by decide) ?_
          obtain rfl := Option.some.inj h
          exact zz_zret cx cq rfl (by decide) (by decide) dn_X1_takesEnding_52
        · refine zz_iconst cx dn_X1_takesEnding_47 (v := (1 : Int32)) (by decide) ?_
          refine zz_goto cx dn_X1_takesEnding_48 (tgt := 52) (by decide) ?_
          obtain rfl := Option.some.inj h
          exact zz_zret cx cq rfl (by decide) (by decide) dn_X1_takesEnding_52
set_option maxHeartbeats 4000000 in
set_option maxRecDepth 100000 in
theorem z_cS_addEnding (E : ze_T) (G : gs_T) (x1 x2 x3 x4 : Int32) (r : (Int32 × gs_T)) (h : cS_addEnding G x1 x2 x3 x4 = some r) : zc_i (zF E) (wc_c E G) (wc_c E r.2) yn_X1_addEnding cn_X1_addEnding 5 .int { frames := 0, cells := 0, slots := 0, locals := 0 } [.ref (ad_p E 2), .int x1, .int x2, .int x3, .int x4] r.1 := by
  unfold cS_addEnding at h
  refine zc_i_of (by decide) rfl (Nat.le_of_ble_eq_true rfl) (fun X cx cq => ?_)
  refine zz_aload_n cx dn_X1_addEnding_0 rfl rfl ?_
  refine zz_get cx zi_X1 (v := .ref (ad_p E 7)) (ci := 1) rfl 2 4 rfl (by decide) zk_X1_24 rfl dn_X1_addEnding_1 ?_
  refine zz_aload_n cx dn_X1_addEnding_4 rfl rfl ?_
  refine zz_get cx zi_X1 (v := .int (G.1 8)) (ci := 1) rfl 2 17 rfl (by decide) zk_X1_88 rfl dn_X1_addEnding_5 ?_
  refine zz_iload_n cx dn_X1_addEnding_8 rfl rfl ?_
  refine zz_iast cx 7 0 rfl rfl h (ws2 := (wc_c E (gs_sa G 4 (G.1 8) x1))) (wc_c_a4 E _ _ _) dn_X1_addEnding_9 (fun h => ?_)
  refine zz_aload_n cx dn_X1_addEnding_10 rfl rfl ?_
  refine zz_get cx zi_X1 (v := .ref (ad_p E 8)) (ci := 1) rfl 2 5 rfl (by decide) zk_X1_27 rfl dn_X1_addEnding_11 ?_
  refine zz_aload_n cx dn_X1_addEnding_14 rfl rfl ?_
  refine zz_get cx zi_X1 (v := .int (G.1 8)) (ci := 1) rfl 2 17 rfl (by decide) zk_X1_88 rfl dn_X1_addEnding_15 ?_
  refine zz_iload_n cx dn_X1_addEnding_18 rfl rfl ?_
  refine zz_iast cx 8 0 rfl rfl h (ws2 := (wc_c E (gs_sa (gs_sa G 4 (G.1 8) x1) 5 (G.1 8) x2))) (wc_c_a5 E _ _ _) dn_X1_addEnding_19 (fun h => ?_)
  refine zz_aload_n cx dn_X1_addEnding_20 rfl rfl ?_
  refine zz_get cx zi_X1 (v := .ref (ad_p E 9)) (ci := 1) rfl 2 6 rfl (by decide) zk_X1_30 rfl dn_X1_addEnding_21 ?_
  refine zz_aload_n cx dn_X1_addEnding_24 rfl rfl ?_
  refine zz_get cx zi_X1 (v := .int (G.1 8)) (ci := 1) rfl 2 17 rfl (by decide) zk_X1_88 rfl dn_X1_addEnding_25 ?_
  refine zz_iload_n cx dn_X1_addEnding_28 rfl rfl ?_
  refine zz_iast cx 9 0 rfl rfl h (ws2 := (wc_c E (gs_sa (gs_sa (gs_sa G 4 (G.1 8) x1) 5 (G.1 8) x2) 6 (G.1 8) x3))) (wc_c_a6 E _ _ _) dn_X1_addEnding_29 (fun h => ?_)
  refine zz_aload_n cx dn_X1_addEnding_30 rfl rfl ?_
  refine zz_get cx zi_X1 (v := .ref (ad_p E 10)) (ci := 1) rfl 2 7 rfl (by decide) zk_X1_33 rfl dn_X1_addEnding_31 ?_
  refine zz_aload_n cx dn_X1_addEnding_34 rfl rfl ?_
  refine zz_get cx zi_X1 (v := .int (G.1 8)) (ci := 1) rfl 2 17 rfl (by decide) zk_X1_88 rfl dn_X1_addEnding_35 ?_
  refine zz_iload cx dn_X1_addEnding_38 rfl ?_
  refine zz_iast cx 10 0 rfl rfl h (ws2 := (wc_c E (gs_sa (gs_sa (gs_sa (gs_sa G 4 (G.1 8) x1) 5 (G.1 8) x2) 6 (G.1 8) x3) 7 (G.1 8) x4))) (wc_c_a7 E _ _ _) dn_X1_addEnding_40 (fun h => ?_)
  refine zz_aload_n cx dn_X1_addEnding_41 rfl rfl ?_
  refine zz_get cx zi_X1 (v := .ref (ad_p E 17)) (ci := 1) rfl 2 14 rfl (by decide) zk_X1_55 rfl dn_X1_addEnding_42 ?_
  refine zz_iload_n cx dn_X1_addEnding_45 rfl rfl ?_
  refine zz_aload_n cx dn_X1_addEnding_46 rfl rfl ?_
  refine zz_get cx zi_X1 (v := .int (G.1 8)) (ci := 1) rfl 2 17 rfl (by decide) zk_X1_88 rfl dn_X1_addEnding_47 ?_
  refine zz_iast cx 17 0 rfl rfl h (ws2 := (wc_c E (gs_sa (gs_sa (gs_sa (gs_sa (gs_sa G 4 (G.1 8) x1) 5 (G.1 8) x2) 6 (G.1 8) x3) 7 (G.1 8) x4) 14 x2 (G.1 8)))) (wc_c_a14 E _ _ _) dn_X1_addEnding_50 (fun h => ?_)
  refine zz_aload_n cx dn_X1_addEnding_51 rfl rfl ?_
  refine zz_dup cx dn_X1_addEnding_52 rfl ?_
  refine zz_get cx zi_X1 (v := .int (G.1 8)) (ci := 1) rfl 2 17 rfl (by decide) zk_X1_88 rfl dn_X1_addEnding_53 ?_
  refine zz_dup_x1 cx dn_X1_addEnding_56 rfl rfl ?_
  refine zz_iconst cx dn_X1_addEnding_57 (v := (1 : Int32)) (by decide) ?_
  refine zz_iadd cx dn_X1_addEnding_58 ?_
  refine zz_put cx (ws2 := (wc_c E (gs_sv (gs_sa (gs_sa (gs_sa (gs_sa (gs_sa G 4 (G.1 8) x1) 5 (G.1 8) x2) 6 (G.1 8) x3) 7 (G.1 8) x4) 14 x2 (G.1 8)) 8 ((G.1 8) + (1 : Int32))))) (ty := .int) (ci := 1) zi_X1 fk_X1 nm_X1 rfl 2 17 rfl (by decide) zk_X1_88 rfl (by decide +kernel) rfl rfl (Nat.le_of_ble_eq_true rfl) (wc_c_s8 E _ _) dn_X1_addEnding_59 ?_
  obtain rfl := Option.some.inj h
  exact zz_iret cx cq (by decide) (by decide) dn_X1_addEnding_62
set_option maxHeartbeats 4000000 in
set_option maxRecDepth 100000 in
theorem z_cS_moveSign (E : ze_T) (G : gs_T) (x1 x2 : Int32) (r : (Int32 × gs_T)) (h : cS_moveSign G x1 x2 = some r) : zc_i (zF E) (wc_c E G) (wc_c E r.2) yn_X1_moveSign cn_X1_moveSign 4 .int { frames := 0, cells := 0, slots := 0, locals := 0 } [.ref (ad_p E 2), .int x1, .int x2] r.1 := by
  unfold cS_moveSign at h
  refine zc_i_of (by decide) rfl (Nat.le_of_ble_eq_true rfl) (fun X cx cq => ?_)
  refine zz_aload_n cx dn_X1_moveSign_0 rfl rfl ?_
  refine zz_get cx zi_X1 (v := .ref (ad_p E 11)) (ci := 1) rfl 2 8 rfl (by decide) zk_X1_36 rfl dn_X1_moveSign_1 ?_
  refine zz_iload_n cx dn_X1_moveSign_4 rfl rfl ?_
  refine zz_iald cx 11 0 rfl rfl h (v := (gs_a G 8 x1)) rfl dn_X1_moveSign_5 (fun h => ?_)
  refine zz_istore_n cx dn_X1_moveSign_6 rfl (by decide) rfl ?_
  refine zz_aload_n cx dn_X1_moveSign_7 rfl rfl ?_
  refine zz_get cx zi_X1 (v := .ref (ad_p E 11)) (ci := 1) rfl 2 8 rfl (by decide) zk_X1_36 rfl dn_X1_moveSign_8 ?_
  refine zz_iload_n cx dn_X1_moveSign_11 rfl rfl ?_
  refine zz_iload_n cx dn_X1_moveSign_12 rfl rfl ?_
  refine zz_iast cx 11 0 rfl rfl h (ws2 := (wc_c E (gs_sa G 8 x1 x2))) (wc_c_a8 E _ _ _) dn_X1_moveSign_13 (fun h => ?_)
  refine zz_iload_n cx dn_X1_moveSign_14 rfl rfl ?_
  obtain rfl := Option.some.inj h
  exact zz_iret cx cq (by decide) (by decide) dn_X1_moveSign_15
set_option maxHeartbeats 4000000 in
set_option maxRecDepth 100000 in
theorem z_cS_hasJump (E : ze_T) (G : gs_T) (x1 : Int32) (r : Int32) (h : cS_hasJump G x1 = some r) : zc_i (zF E) (wc_c E G) (wc_c E G) yn_X1_hasJump cn_X1_hasJump 2 .boolean { frames := 0, cells := 0, slots := 0, locals := 0 } [.ref (ad_p E 2), .int x1] r := by
  unfold cS_hasJump at h
  refine zc_i_of (by decide) rfl (Nat.le_of_ble_eq_true rfl) (fun X cx cq => ?_)
  refine zz_aload_n cx dn_X1_hasJump_0 rfl rfl ?_
  refine zz_get cx zi_X1 (v := .ref (ad_p E 12)) (ci := 1) rfl 2 9 rfl (by decide) zk_X1_39 rfl dn_X1_hasJump_1 ?_
  refine zz_iload_n cx dn_X1_hasJump_4 rfl rfl ?_
  refine zz_iald cx 12 0 rfl rfl h (v := (gs_a G 9 x1)) rfl dn_X1_hasJump_5 (fun h => ?_)
  refine zz_iconst cx dn_X1_hasJump_6 (v := (-1 : Int32)) (by decide) ?_
  refine zz_icmp_eq cx (tgt := 14) dn_X1_hasJump_7 (by decide) h (fun h => ?_) (fun h => ?_)
  · refine zz_iconst cx dn_X1_hasJump_14 (v := (0 : Int32)) (by decide) ?_
    obtain rfl := Option.some.inj h
    exact zz_zret cx cq rfl (by decide) (by decide) dn_X1_hasJump_15
  · refine zz_iconst cx dn_X1_hasJump_10 (v := (1 : Int32)) (by decide) ?_
    refine zz_goto cx dn_X1_hasJump_11 (tgt := 15) (by decide) ?_
    obtain rfl := Option.some.inj h
    exact zz_zret cx cq rfl (by decide) (by decide) dn_X1_hasJump_15
set_option maxHeartbeats 4000000 in
set_option maxRecDepth 100000 in
theorem z_cS_putJump_j18 (E : ze_T) (G : gs_T) (x1 x2 x3 x4 : Int32) (r : gs_T) (X : zx_T) (cx : zx (zF E) X cn_X1_putJump yn_X1_putJump.cls { frames := 1, cells := 0, slots := 0, locals := 21 } 5) (cq : zq_v (zF E) X (wc_c E r)) (h : cS_putJump_j18 G x1 x2 x3 x4 = some r) : zj (zF E) X 0 0 (wc_c E G) 18 [some (.ref (ad_p E 2)), some (.int x1), some (.int x2), some (.int x3), some (.int x4)] [] := by
  unfold cS_putJump_j18 at h
  refine zz_aload_n cx dn_X1_putJump_18 rfl rfl ?_
  refine zz_get cx zi_X1 (v := .ref (ad_p E 12)) (ci := 1) rfl 2 9 rfl (by decide) zk_X1_39 rfl dn_X1_putJump_19 ?_
  refine zz_iload_n cx dn_X1_putJump_22 rfl rfl ?_
  refine zz_iload_n cx dn_X1_putJump_23 rfl rfl ?_
  refine zz_iast cx 12 0 rfl rfl h (ws2 := (wc_c E (gs_sa G 9 x1 x2))) (wc_c_a9 E _ _ _) dn_X1_putJump_24 (fun h => ?_)
  refine zz_aload_n cx dn_X1_putJump_25 rfl rfl ?_
  refine zz_get cx zi_X1 (v := .ref (ad_p E 13)) (ci := 1) rfl 2 10 rfl (by decide) zk_X1_42 rfl dn_X1_putJump_26 ?_
  refine zz_iload_n cx dn_X1_putJump_29 rfl rfl ?_
  refine zz_iload_n cx dn_X1_putJump_30 rfl rfl ?_
  refine zz_iast cx 13 0 rfl rfl h (ws2 := (wc_c E (gs_sa (gs_sa G 9 x1 x2) 10 x1 x3))) (wc_c_a10 E _ _ _) dn_X1_putJump_31 (fun h => ?_)
  refine zz_aload_n cx dn_X1_putJump_32 rfl rfl ?_
  refine zz_get cx zi_X1 (v := .ref (ad_p E 14)) (ci := 1) rfl 2 11 rfl (by decide) zk_X1_45 rfl dn_X1_putJump_33 ?_
  refine zz_iload_n cx dn_X1_putJump_36 rfl rfl ?_
  refine zz_iload cx dn_X1_putJump_37 rfl ?_
  refine zz_zast cx 14 1 rfl rfl h (ws2 := (wc_c E (gs_sa (gs_sa (gs_sa G 9 x1 x2) 10 x1 x3) 11 x1 (vp_nar .boolean x4)))) (wc_c_a11 E _ _ _) dn_X1_putJump_39 (fun h => ?_)
  obtain rfl := Option.some.inj h
  exact zz_vret cx cq (by decide) (by decide) dn_X1_putJump_40
set_option maxHeartbeats 4000000 in
set_option maxRecDepth 100000 in
theorem z_cS_putJump (E : ze_T) (G : gs_T) (x1 x2 x3 x4 : Int32) (r : gs_T) (h : cS_putJump G x1 x2 x3 x4 = some r) : zc_v (zF E) (wc_c E G) (wc_c E r) yn_X1_putJump cn_X1_putJump 5 { frames := 1, cells := 0, slots := 0, locals := 21 } [.ref (ad_p E 2), .int x1, .int x2, .int x3, .int x4] := by
  unfold cS_putJump at h
  refine zc_v_of (by decide) rfl (Nat.le_of_ble_eq_true rfl) (fun X cx cq => ?_)
  refine zz_aload_n cx dn_X1_putJump_0 rfl rfl ?_
  refine zz_iload_n cx dn_X1_putJump_1 rfl rfl ?_
  refine gs_bind h (fun q1 e_q1 h => ?_)
  refine zz_callVi cx (As := [.int x1]) (rest := []) (c2 := 0) (s2 := 0) (z_cS_hasJump E G x1 _ e_q1) zm_X1_hasJump zk_X1_104 zv_X1_hasJump 2 rfl rfl (by decide) rfl (Nat.le_of_ble_eq_true rfl) rfl rfl (by decide) (wc_c_addr E _ _) dn_X1_putJump_2 ?_
  refine zz_if_ne cx (tgt := 18) dn_X1_putJump_5 (by decide) h (fun h => ?_) (fun h => ?_)
  · refine zz_aload_n cx dn_X1_putJump_8 rfl rfl ?_
    refine zz_dup cx dn_X1_putJump_9 rfl ?_
    refine zz_get cx zi_X1 (v := .int (G.1 9)) (ci := 1) rfl 2 18 rfl (by decide) zk_X1_108 rfl dn_X1_putJump_10 ?_
    refine zz_iconst cx dn_X1_putJump_13 (v := (1 : Int32)) (by decide) ?_
    refine zz_iadd cx dn_X1_putJump_14 ?_
    refine zz_put cx (ws2 := (wc_c E (gs_sv G 9 ((G.1 9) + (1 : Int32))))) (ty := .int) (ci := 1) zi_X1 fk_X1 nm_X1 rfl 2 18 rfl (by decide) zk_X1_108 rfl (by decide +kernel) rfl rfl (Nat.le_of_ble_eq_true rfl) (wc_c_s9 E _ _) dn_X1_putJump_15 ?_
    exact z_cS_putJump_j18 E (gs_sv G 9 ((G.1 9) + (1 : Int32))) x1 x2 x3 x4 _ X cx cq h
  · exact z_cS_putJump_j18 E G x1 x2 x3 x4 _ X cx cq h
set_option maxHeartbeats 4000000 in
set_option maxRecDepth 100000 in
theorem z_cS_takeJump (E : ze_T) (G : gs_T) (x1 : Int32) (r : gs_T) (h : cS_takeJump G x1 = some r) : zc_v (zF E) (wc_c E G) (wc_c E r) yn_X1_takeJump cn_X1_takeJump 2 { frames := 0, cells := 0, slots := 0, locals := 0 } [.ref (ad_p E 2), .int x1] := by
  unfold cS_takeJump at h
  refine zc_v_of (by decide) rfl (Nat.le_of_ble_eq_true rfl) (fun X cx cq => ?_)
  refine zz_aload_n cx dn_X1_takeJump_0 rfl rfl ?_
  refine zz_get cx zi_X1 (v := .ref (ad_p E 12)) (ci := 1) rfl 2 9 rfl (by decide) zk_X1_39 rfl dn_X1_takeJump_1 ?_
  refine zz_iload_n cx dn_X1_takeJump_4 rfl rfl ?_
  refine zz_iconst cx dn_X1_takeJump_5 (v := (-1 : Int32)) (by decide) ?_
  refine zz_iast cx 12 0 rfl rfl h (ws2 := (wc_c E (gs_sa G 9 x1 (-1 : Int32)))) (wc_c_a9 E _ _ _) dn_X1_takeJump_6 (fun h => ?_)
  refine zz_aload_n cx dn_X1_takeJump_7 rfl rfl ?_
  refine zz_dup cx dn_X1_takeJump_8 rfl ?_
  refine zz_get cx zi_X1 (v := .int (G.1 9)) (ci := 1) rfl 2 18 rfl (by decide) zk_X1_108 rfl dn_X1_takeJump_9 ?_
  refine zz_iconst cx dn_X1_takeJump_12 (v := (1 : Int32)) (by decide) ?_
  refine zz_isub cx dn_X1_takeJump_13 ?_
  refine zz_put cx (ws2 := (wc_c E (gs_sv (gs_sa G 9 x1 (-1 : Int32)) 9 ((G.1 9) - (1 : Int32))))) (ty := .int) (ci := 1) zi_X1 fk_X1 nm_X1 rfl 2 18 rfl (by decide) zk_X1_108 rfl (by decide +kernel) rfl rfl (Nat.le_of_ble_eq_true rfl) (wc_c_s9 E _ _) dn_X1_takeJump_14 ?_
  obtain rfl := Option.some.inj h
  exact zz_vret cx cq (by decide) (by decide) dn_X1_takeJump_17
set_option maxHeartbeats 4000000 in
set_option maxRecDepth 100000 in
theorem z_cS_lacksSign (E : ze_T) (G : gs_T) (x1 : Int32) (r : Int32) (h : cS_lacksSign G x1 = some r) : zc_i (zF E) (wc_c E G) (wc_c E G) yn_X1_lacksSign cn_X1_lacksSign 2 .boolean { frames := 0, cells := 0, slots := 0, locals := 0 } [.ref (ad_p E 2), .int x1] r := by
  unfold cS_lacksSign at h
  refine zc_i_of (by decide) rfl (Nat.le_of_ble_eq_true rfl) (fun X cx cq => ?_)
  refine zz_aload_n cx dn_X1_lacksSign_0 rfl rfl ?_
  refine zz_get cx zi_X1 (v := .ref (ad_p E 11)) (ci := 1) rfl 2 8 rfl (by decide) zk_X1_36 rfl dn_X1_lacksSign_1 ?_
  refine zz_iload_n cx dn_X1_lacksSign_4 rfl rfl ?_
  refine zz_iald cx 11 0 rfl rfl h (v := (gs_a G 8 x1)) rfl dn_X1_lacksSign_5 (fun h => ?_)
  refine zz_iconst cx dn_X1_lacksSign_6 (v := (-1 : Int32)) (by decide) ?_
  refine zz_icmp_ne cx (tgt := 14) dn_X1_lacksSign_7 (by decide) h (fun h => ?_) (fun h => ?_)
  · refine zz_iconst cx dn_X1_lacksSign_10 (v := (1 : Int32)) (by decide) ?_
    refine zz_goto cx dn_X1_lacksSign_11 (tgt := 15) (by decide) ?_
    obtain rfl := Option.some.inj h
    exact zz_zret cx cq rfl (by decide) (by decide) dn_X1_lacksSign_15
  · refine zz_iconst cx dn_X1_lacksSign_14 (v := (0 : Int32)) (by decide) ?_
    obtain rfl := Option.some.inj h
    exact zz_zret cx cq rfl (by decide) (by decide) dn_X1_lacksSign_15
set_option maxHeartbeats 4000000 in
set_option maxRecDepth 100000 in
theorem z_cS_faultOfJump_j40 (E : ze_T) (G : gs_T) (x1 : Int32) (r : Int32) (X : zx_T) (cx : zx (zF E) X cn_X1_faultOfJump yn_X1_faultOfJump.cls { frames := 1, cells := 0, slots := 0, locals := 21 } 2) (cq : zq_i (zF E) X (wc_c E G) .int r) (h : cS_faultOfJump_j40 G x1 = some r) : zj (zF E) X 0 0 (wc_c E G) 40 [some (.ref (ad_p E 2)), some (.int x1)] [] := by
  unfold cS_faultOfJump_j40 at h
  refine zz_aload_n cx dn_X1_faultOfJump_40 rfl rfl ?_
  refine zz_get cx zi_X1 (v := .ref (ad_p E 13)) (ci := 1) rfl 2 10 rfl (by decide) zk_X1_42 rfl dn_X1_faultOfJump_41 ?_
  refine zz_iload_n cx dn_X1_faultOfJump_44 rfl rfl ?_
  refine zz_iald cx 13 0 rfl rfl h (v := (gs_a G 10 x1)) rfl dn_X1_faultOfJump_45 (fun h => ?_)
  refine zz_iconst cx dn_X1_faultOfJump_46 (v := (2 : Int32)) (by decide) ?_
  refine zz_icmp_ne cx (tgt := 68) dn_X1_faultOfJump_47 (by decide) h (fun h => ?_) (fun h => ?_)
  · refine zz_aload_n cx dn_X1_faultOfJump_50 rfl rfl ?_
    refine zz_iconst cx dn_X1_faultOfJump_51 (v := (2 : Int32)) (by decide) ?_
    refine gs_bind h (fun q1 e_q1 h => ?_)
    refine zz_callVi cx (As := [.int (2 : Int32)]) (rest := []) (c2 := 0) (s2 := 0) (z_cS_lacksSign E G (2 : Int32) _ e_q1) zm_X1_lacksSign zk_X1_111 zv_X1_lacksSign 2 rfl rfl (by decide) rfl (Nat.le_of_ble_eq_true rfl) rfl rfl (by decide) (wc_c_addr E _ _) dn_X1_faultOfJump_52 ?_
    refine zz_if_ne cx (tgt := 66) dn_X1_faultOfJump_55 (by decide) h (fun h => ?_) (fun h => ?_)
    · refine zz_aload_n cx dn_X1_faultOfJump_58 rfl rfl ?_
      refine zz_iconst cx dn_X1_faultOfJump_59 (v := (1 : Int32)) (by decide) ?_
      refine gs_bind h (fun q2 e_q2 h => ?_)
      refine zz_callVi cx (As := [.int (1 : Int32)]) (rest := []) (c2 := 0) (s2 := 0) (z_cS_lacksSign E G (1 : Int32) _ e_q2) zm_X1_lacksSign zk_X1_111 zv_X1_lacksSign 2 rfl rfl (by decide) rfl (Nat.le_of_ble_eq_true rfl) rfl rfl (by decide) (wc_c_addr E _ _) dn_X1_faultOfJump_60 ?_
      refine zz_if_eq cx (tgt := 68) dn_X1_faultOfJump_63 (by decide) h (fun h => ?_) (fun h => ?_)
      · refine zz_iconst cx dn_X1_faultOfJump_68 (v := (0 : Int32)) (by decide) ?_
        obtain rfl := Option.some.inj h
        exact zz_iret cx cq (by decide) (by decide) dn_X1_faultOfJump_69
      · refine zz_iconst cx dn_X1_faultOfJump_66 (v := (3 : Int32)) (by decide) ?_
        obtain rfl := Option.some.inj h
        exact zz_iret cx cq (by decide) (by decide) dn_X1_faultOfJump_67
    · refine zz_iconst cx dn_X1_faultOfJump_66 (v := (3 : Int32)) (by decide) ?_
      obtain rfl := Option.some.inj h
      exact zz_iret cx cq (by decide) (by decide) dn_X1_faultOfJump_67
  · refine zz_iconst cx dn_X1_faultOfJump_68 (v := (0 : Int32)) (by decide) ?_
    obtain rfl := Option.some.inj h
    exact zz_iret cx cq (by decide) (by decide) dn_X1_faultOfJump_69
set_option maxHeartbeats 4000000 in
set_option maxRecDepth 100000 in
theorem z_cS_faultOfJump_j20 (E : ze_T) (G : gs_T) (x1 : Int32) (r : Int32) (X : zx_T) (cx : zx (zF E) X cn_X1_faultOfJump yn_X1_faultOfJump.cls { frames := 1, cells := 0, slots := 0, locals := 21 } 2) (cq : zq_i (zF E) X (wc_c E G) .int r) (h : cS_faultOfJump_j20 G x1 = some r) : zj (zF E) X 0 0 (wc_c E G) 20 [some (.ref (ad_p E 2)), some (.int x1)] [] := by
  unfold cS_faultOfJump_j20 at h
  refine zz_aload_n cx dn_X1_faultOfJump_20 rfl rfl ?_
  refine zz_get cx zi_X1 (v := .ref (ad_p E 13)) (ci := 1) rfl 2 10 rfl (by decide) zk_X1_42 rfl dn_X1_faultOfJump_21 ?_
  refine zz_iload_n cx dn_X1_faultOfJump_24 rfl rfl ?_
  refine zz_iald cx 13 0 rfl rfl h (v := (gs_a G 10 x1)) rfl dn_X1_faultOfJump_25 (fun h => ?_)
  refine zz_iconst cx dn_X1_faultOfJump_26 (v := (1 : Int32)) (by decide) ?_
  refine zz_icmp_ne cx (tgt := 40) dn_X1_faultOfJump_27 (by decide) h (fun h => ?_) (fun h => ?_)
  · refine zz_aload_n cx dn_X1_faultOfJump_30 rfl rfl ?_
    refine zz_iconst cx dn_X1_faultOfJump_31 (v := (3 : Int32)) (by decide) ?_
    refine gs_bind h (fun q1 e_q1 h => ?_)
    refine zz_callVi cx (As := [.int (3 : Int32)]) (rest := []) (c2 := 0) (s2 := 0) (z_cS_lacksSign E G (3 : Int32) _ e_q1) zm_X1_lacksSign zk_X1_111 zv_X1_lacksSign 2 rfl rfl (by decide) rfl (Nat.le_of_ble_eq_true rfl) rfl rfl (by decide) (wc_c_addr E _ _) dn_X1_faultOfJump_32 ?_
    refine zz_if_eq cx (tgt := 40) dn_X1_faultOfJump_35 (by decide) h (fun h => ?_) (fun h => ?_)
    · exact z_cS_faultOfJump_j40 E G x1 _ X cx cq h
    · refine zz_iconst cx dn_X1_faultOfJump_38 (v := (2 : Int32)) (by decide) ?_
      obtain rfl := Option.some.inj h
      exact zz_iret cx cq (by decide) (by decide) dn_X1_faultOfJump_39
  · exact z_cS_faultOfJump_j40 E G x1 _ X cx cq h
set_option maxHeartbeats 4000000 in
set_option maxRecDepth 100000 in
theorem z_cS_faultOfJump (E : ze_T) (G : gs_T) (x1 : Int32) (r : Int32) (h : cS_faultOfJump G x1 = some r) : zc_i (zF E) (wc_c E G) (wc_c E G) yn_X1_faultOfJump cn_X1_faultOfJump 2 .int { frames := 1, cells := 0, slots := 0, locals := 21 } [.ref (ad_p E 2), .int x1] r := by
  unfold cS_faultOfJump at h
  refine zc_i_of (by decide) rfl (Nat.le_of_ble_eq_true rfl) (fun X cx cq => ?_)
  refine zz_aload_n cx dn_X1_faultOfJump_0 rfl rfl ?_
  refine zz_get cx zi_X1 (v := .ref (ad_p E 12)) (ci := 1) rfl 2 9 rfl (by decide) zk_X1_39 rfl dn_X1_faultOfJump_1 ?_
  refine zz_iload_n cx dn_X1_faultOfJump_4 rfl rfl ?_
  refine zz_iald cx 12 0 rfl rfl h (v := (gs_a G 9 x1)) rfl dn_X1_faultOfJump_5 (fun h => ?_)
  refine zz_iconst cx dn_X1_faultOfJump_6 (v := (1 : Int32)) (by decide) ?_
  refine zz_icmp_ne cx (tgt := 20) dn_X1_faultOfJump_7 (by decide) h (fun h => ?_) (fun h => ?_)
  · refine zz_aload_n cx dn_X1_faultOfJump_10 rfl rfl ?_
    refine zz_iconst cx dn_X1_faultOfJump_11 (v := (0 : Int32)) (by decide) ?_
    refine gs_bind h (fun q1 e_q1 h => ?_)
    refine zz_callVi cx (As := [.int (0 : Int32)]) (rest := []) (c2 := 0) (s2 := 0) (z_cS_lacksSign E G (0 : Int32) _ e_q1) zm_X1_lacksSign zk_X1_111 zv_X1_lacksSign 2 rfl rfl (by decide) rfl (Nat.le_of_ble_eq_true rfl) rfl rfl (by decide) (wc_c_addr E _ _) dn_X1_faultOfJump_12 ?_
    refine zz_if_eq cx (tgt := 20) dn_X1_faultOfJump_15 (by decide) h (fun h => ?_) (fun h => ?_)
    · exact z_cS_faultOfJump_j20 E G x1 _ X cx cq h
    · refine zz_iconst cx dn_X1_faultOfJump_18 (v := (1 : Int32)) (by decide) ?_
      obtain rfl := Option.some.inj h
      exact zz_iret cx cq (by decide) (by decide) dn_X1_faultOfJump_19
  · exact z_cS_faultOfJump_j20 E G x1 _ X cx cq h
set_option maxHeartbeats 4000000 in
set_option maxRecDepth 100000 in
theorem z_cS_repeatAround (E : ze_T) (G : gs_T) (x1 x2 : Int32) (r : Int32) (h : cS_repeatAround G x1 x2 = some r) : zc_i (zF E) (wc_c E G) (wc_c E G) yn_X1_repeatAround cn_X1_repeatAround 3 .int { frames := 0, cells := 0, slots := 0, locals := 0 } [.ref (ad_p E 2), .int x1, .int x2] r := by
  unfold cS_repeatAround at h
  refine zc_i_of (by decide) rfl (Nat.le_of_ble_eq_true rfl) (fun X cx cq => ?_)
  refine zz_aload_n cx dn_X1_repeatAround_0 rfl rfl ?_
  refine zz_get cx zi_X1 (v := .ref (ad_p E 15)) (ci := 1) rfl 2 12 rfl (by decide) zk_X1_49 rfl dn_X1_repeatAround_1 ?_
  refine zz_iload_n cx dn_X1_repeatAround_4 rfl rfl ?_
  refine zz_iconst cx dn_X1_repeatAround_5 (v := (3 : Int32)) (by decide) ?_
  refine zz_imul cx dn_X1_repeatAround_6 ?_
  refine zz_iload_n cx dn_X1_repeatAround_7 rfl rfl ?_
  refine zz_iadd cx dn_X1_repeatAround_8 ?_
  refine zz_iald cx 15 0 rfl rfl h (v := (gs_a G 12 ((x1 * (3 : Int32)) + x2))) rfl dn_X1_repeatAround_9 (fun h => ?_)
  obtain rfl := Option.some.inj h
  exact zz_iret cx cq (by decide) (by decide) dn_X1_repeatAround_10
set_option maxHeartbeats 4000000 in
set_option maxRecDepth 100000 in
theorem z_cS_isRepeatWithinEnding (E : ze_T) (G : gs_T) (x1 x2 : Int32) (r : Int32) (h : cS_isRepeatWithinEnding G x1 x2 = some r) : zc_i (zF E) (wc_c E G) (wc_c E G) yn_X1_isRepeatWithinEnding cn_X1_isRepeatWithinEnding 3 .boolean { frames := 1, cells := 0, slots := 0, locals := 23 } [.ref (ad_p E 2), .int x1, .int x2] r := by
  unfold cS_isRepeatWithinEnding at h
  refine zc_i_of (by decide) rfl (Nat.le_of_ble_eq_true rfl) (fun X cx cq => ?_)
  refine zz_aload_n cx dn_X1_isRepeatWithinEnding_0 rfl rfl ?_
  refine zz_get cx zi_X1 (v := .ref (ad_p E 4)) (ci := 1) rfl 2 1 rfl (by decide) zk_X1_15 rfl dn_X1_isRepeatWithinEnding_1 ?_
  refine zz_iload_n cx dn_X1_isRepeatWithinEnding_4 rfl rfl ?_
  refine zz_iald cx 4 0 rfl rfl h (v := (gs_a G 1 x1)) rfl dn_X1_isRepeatWithinEnding_5 (fun h => ?_)
  refine zz_aload_n cx dn_X1_isRepeatWithinEnding_6 rfl rfl ?_
  refine zz_get cx zi_X1 (v := .ref (ad_p E 5)) (ci := 1) rfl 2 2 rfl (by decide) zk_X1_18 rfl dn_X1_isRepeatWithinEnding_7 ?_
  refine zz_iload_n cx dn_X1_isRepeatWithinEnding_10 rfl rfl ?_
  refine zz_iald cx 5 0 rfl rfl h (v := (gs_a G 2 x1)) rfl dn_X1_isRepeatWithinEnding_11 (fun h => ?_)
  refine zz_aload_n cx dn_X1_isRepeatWithinEnding_12 rfl rfl ?_
  refine zz_get cx zi_X1 (v := .ref (ad_p E 8)) (ci := 1) rfl 2 5 rfl (by decide) zk_X1_27 rfl dn_X1_isRepeatWithinEnding_13 ?_
  refine zz_iload_n cx dn_X1_isRepeatWithinEnding_16 rfl rfl ?_
  refine zz_iald cx 8 0 rfl rfl h (v := (gs_a G 5 x2)) rfl dn_X1_isRepeatWithinEnding_17 (fun h => ?_)
  refine zz_aload_n cx dn_X1_isRepeatWithinEnding_18 rfl rfl ?_
  refine zz_get cx zi_X1 (v := .ref (ad_p E 9)) (ci := 1) rfl 2 6 rfl (by decide) zk_X1_30 rfl dn_X1_isRepeatWithinEnding_19 ?_
  refine zz_iload_n cx dn_X1_isRepeatWithinEnding_22 rfl rfl ?_
  refine zz_iald cx 9 0 rfl rfl h (v := (gs_a G 6 x2)) rfl dn_X1_isRepeatWithinEnding_23 (fun h => ?_)
  refine gs_bind h (fun q1 e_q1 h => ?_)
  refine zz_callSi cx (As := [.int (gs_a G 1 x1), .int (gs_a G 2 x1), .int (gs_a G 5 x2), .int (gs_a G 6 x2)]) (rest := []) (c2 := 0) (s2 := 0) (z_cS_liesWithin E G (gs_a G 1 x1) (gs_a G 2 x1) (gs_a G 5 x2) (gs_a G 6 x2) _ e_q1) zm_X1_liesWithin zk_X1_71 zs_X1_liesWithin (by decide) rfl (Nat.le_of_ble_eq_true rfl) rfl rfl (by decide) (wc_c_addr E _ _) dn_X1_isRepeatWithinEnding_24 ?_
  obtain ⟨hz, h⟩ := gs_bz_some h
  obtain rfl := Option.some.inj h
  exact zz_zret cx cq (gs_narz hz) (by decide) (by decide) dn_X1_isRepeatWithinEnding_27
