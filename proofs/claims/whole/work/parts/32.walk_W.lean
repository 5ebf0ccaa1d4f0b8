set_option maxHeartbeats 4000000 in
set_option maxRecDepth 100000 in
theorem z_cW_leaveAll (E : ze_T) (G : gs_T) (r : gs_T) (h : cW_leaveAll G = some r) : zc_v (zF E) (wc_c E G) (wc_c E r) yn_X2_leaveAll cn_X2_leaveAll 1 { frames := 1, cells := 0, slots := 0, locals := 23 } [.ref (ad_p E 1)] := by
  unfold cW_leaveAll at h
  refine zc_v_of (by decide) rfl (Nat.le_of_ble_eq_true rfl) (fun X cx cq => ?_)
  refine zz_aload_n cx dn_X2_leaveAll_0 rfl rfl ?_
  refine zz_get cx zi_X2 (v := .ref (ad_p E 24)) (ci := 2) rfl 1 7 rfl (by decide) zk_X2_37 rfl dn_X2_leaveAll_1 ?_
  refine zz_iconst cx dn_X2_leaveAll_4 (v := (0 : Int32)) (by decide) ?_
  refine zf_fill cx 24 rfl rfl (by decide) (ws2 := (wc_c E (gs_sf G 21 (0 : Int32)))) (wc_c_f21 E _ _) zk_X2_77 (by decide) (Nat.le_of_ble_eq_true rfl) (by decide) dn_X2_leaveAll_5 ?_
  obtain rfl := Option.some.inj h
  exact zz_vret cx cq (by decide) (by decide) dn_X2_leaveAll_8
set_option maxHeartbeats 4000000 in
set_option maxRecDepth 100000 in
theorem z_cW_forget_38 (E : ze_T) (n : Nat) (r : gs_T) (X : zx_T) (cx : zx (zF E) X cn_X2_forget yn_X2_forget.cls { frames := 2, cells := 0, slots := 0, locals := 43 } 2) (cq : zq_v (zF E) X (wc_c E r)) : ∀ (k : Nat) (x1 : Int32) (G : gs_T), cW_forget_38 n k x1 G = some r → zj (zF E) X 0 0 (wc_c E G) 38 [some (.ref (ad_p E 1)), some (.int x1)] [] := by
  intro k
  induction k with
  | zero => intro x1 G h; cases h
  | succ k ih =>
    intro x1 G h
    rw [cW_forget_38] at h
    refine zz_iload_n cx dn_X2_forget_38 rfl rfl ?_
    refine zz_bipush cx dn_X2_forget_39 (v := (60 : Int32)) (by decide) ?_
    refine zz_icmp_ge cx (tgt := 57) dn_X2_forget_41 (by decide) h (fun h => ?_) (fun h => ?_)
    · refine zz_aload_n cx dn_X2_forget_57 rfl rfl ?_
      refine gs_bind h (fun q1 e_q1 h => ?_)
      refine zz_callVv cx (As := []) (rest := []) (c2 := 0) (s2 := 0) (z_cW_leaveAll E G _ e_q1) zm_X2_leaveAll zk_X2_83 zv_X2_leaveAll 1 rfl rfl (by decide) rfl (Nat.le_of_ble_eq_true rfl) rfl rfl (by decide) (wc_c_addr E _ _) dn_X2_forget_58 ?_
      obtain rfl := Option.some.inj h
      exact zz_vret cx cq (by decide) (by decide) dn_X2_forget_61
    · refine zz_aload_n cx dn_X2_forget_44 rfl rfl ?_
      refine zz_get cx zi_X2 (v := .ref (ad_p E 25)) (ci := 2) rfl 1 8 rfl (by decide) zk_X2_40 rfl dn_X2_forget_45 ?_
      refine zz_iload_n cx dn_X2_forget_48 rfl rfl ?_
      refine zz_iconst cx dn_X2_forget_49 (v := (0 : Int32)) (by decide) ?_
      refine zz_zast cx 25 1 rfl rfl h (ws2 := (wc_c E (gs_sa G 22 x1 (vp_nar .boolean (0 : Int32))))) (wc_c_a22 E _ _ _) dn_X2_forget_50 (fun h => ?_)
      refine zz_iinc cx dn_X2_forget_51 (d := (1 : Int32)) rfl (by decide) (by decide) rfl ?_
      refine zz_goto cx dn_X2_forget_54 (tgt := 38) (by decide) ?_
      exact ih (x1 + (1 : Int32)) (gs_sa G 22 x1 (vp_nar .boolean (0 : Int32))) h
set_option maxHeartbeats 4000000 in
set_option maxRecDepth 100000 in
theorem z_cW_forget (E : ze_T) (n : Nat) (G : gs_T) (r : gs_T) (h : cW_forget n G = some r) : zc_v (zF E) (wc_c E G) (wc_c E r) yn_X2_forget cn_X2_forget 2 { frames := 2, cells := 0, slots := 0, locals := 43 } [.ref (ad_p E 1)] := by
  unfold cW_forget at h
  refine zc_v_of (by decide) rfl (Nat.le_of_ble_eq_true rfl) (fun X cx cq => ?_)
  refine zz_aload_n cx dn_X2_forget_0 rfl rfl ?_
  refine zz_iconst cx dn_X2_forget_1 (v := (0 : Int32)) (by decide) ?_
  refine zz_put cx (ws2 := (wc_c E (gs_sv G 0 (0 : Int32)))) (ty := .int) (ci := 2) zi_X2 fk_X2 nm_X2 rfl 1 9 rfl (by decide) zk_X2_67 rfl (by decide +kernel) rfl rfl (Nat.le_of_ble_eq_true rfl) (wc_c_s0 E _ _) dn_X2_forget_2 ?_
  refine zz_aload_n cx dn_X2_forget_5 rfl rfl ?_
  refine zz_iconst cx dn_X2_forget_6 (v := (0 : Int32)) (by decide) ?_
  refine zz_put cx (ws2 := (wc_c E (gs_sv (gs_sv G 0 (0 : Int32)) 1 (0 : Int32)))) (ty := .int) (ci := 2) zi_X2 fk_X2 nm_X2 rfl 1 10 rfl (by decide) zk_X2_70 rfl (by decide +kernel) rfl rfl (Nat.le_of_ble_eq_true rfl) (wc_c_s1 E _ _) dn_X2_forget_7 ?_
  refine zz_aload_n cx dn_X2_forget_10 rfl rfl ?_
  refine zz_iconst cx dn_X2_forget_11 (v := (-1 : Int32)) (by decide) ?_
  refine zz_put cx (ws2 := (wc_c E (gs_sv (gs_sv (gs_sv G 0 (0 : Int32)) 1 (0 : Int32)) 2 (-1 : Int32)))) (ty := .int) (ci := 2) zi_X2 fk_X2 nm_X2 rfl 1 11 rfl (by decide) zk_X2_44 rfl (by decide +kernel) rfl rfl (Nat.le_of_ble_eq_true rfl) (wc_c_s2 E _ _) dn_X2_forget_12 ?_
  refine zz_aload_n cx dn_X2_forget_15 rfl rfl ?_
  refine zz_iconst cx dn_X2_forget_16 (v := (0 : Int32)) (by decide) ?_
  refine zz_put cx (ws2 := (wc_c E (gs_sv (gs_sv (gs_sv (gs_sv G 0 (0 : Int32)) 1 (0 : Int32)) 2 (-1 : Int32)) 3 (0 : Int32)))) (ty := .boolean) (ci := 2) zi_X2 fk_X2 nm_X2 rfl 1 12 rfl (by decide) zk_X2_73 rfl (by decide +kernel) rfl rfl (Nat.le_of_ble_eq_true rfl) (wc_c_s3 E _ _) dn_X2_forget_17 ?_
  refine zz_aload_n cx dn_X2_forget_20 rfl rfl ?_
  refine zz_get cx zi_X2 (v := .ref (ad_p E 22)) (ci := 2) rfl 1 5 rfl (by decide) zk_X2_31 rfl dn_X2_forget_21 ?_
  refine zz_iconst cx dn_X2_forget_24 (v := (0 : Int32)) (by decide) ?_
  refine zf_fill cx 22 rfl rfl (by decide) (ws2 := (wc_c E (gs_sf (gs_sv (gs_sv (gs_sv (gs_sv G 0 (0 : Int32)) 1 (0 : Int32)) 2 (-1 : Int32)) 3 (0 : Int32)) 19 (0 : Int32)))) (wc_c_f19 E _ _) zk_X2_77 (by decide) (Nat.le_of_ble_eq_true rfl) (by decide) dn_X2_forget_25 ?_
  refine zz_aload_n cx dn_X2_forget_28 rfl rfl ?_
  refine zz_get cx zi_X2 (v := .ref (ad_p E 23)) (ci := 2) rfl 1 6 rfl (by decide) zk_X2_34 rfl dn_X2_forget_29 ?_
  refine zz_iconst cx dn_X2_forget_32 (v := (0 : Int32)) (by decide) ?_
  refine zf_fill cx 23 rfl rfl (by decide) (ws2 := (wc_c E (gs_sf (gs_sf (gs_sv (gs_sv (gs_sv (gs_sv G 0 (0 : Int32)) 1 (0 : Int32)) 2 (-1 : Int32)) 3 (0 : Int32)) 19 (0 : Int32)) 20 (0 : Int32)))) (wc_c_f20 E _ _) zk_X2_77 (by decide) (Nat.le_of_ble_eq_true rfl) (by decide) dn_X2_forget_33 ?_
  refine zz_iconst cx dn_X2_forget_36 (v := (0 : Int32)) (by decide) ?_
  refine zz_istore_n cx dn_X2_forget_37 rfl (by decide) rfl ?_
  exact z_cW_forget_38 E n _ X cx cq n (0 : Int32) (gs_sf (gs_sf (gs_sv (gs_sv (gs_sv (gs_sv G 0 (0 : Int32)) 1 (0 : Int32)) 2 (-1 : Int32)) 3 (0 : Int32)) 19 (0 : Int32)) 20 (0 : Int32)) h
set_option maxHeartbeats 4000000 in
set_option maxRecDepth 100000 in
theorem z_cW_setFault (E : ze_T) (G : gs_T) (x1 x2 : Int32) (r : gs_T) (h : cW_setFault G x1 x2 = some r) : zc_v (zF E) (wc_c E G) (wc_c E r) yn_X2_setFault cn_X2_setFault 3 { frames := 0, cells := 0, slots := 0, locals := 0 } [.ref (ad_p E 1), .int x1, .int x2] := by
  unfold cW_setFault at h
  refine zc_v_of (by decide) rfl (Nat.le_of_ble_eq_true rfl) (fun X cx cq => ?_)
  refine zz_aload_n cx dn_X2_setFault_0 rfl rfl ?_
  refine zz_iload_n cx dn_X2_setFault_1 rfl rfl ?_
  refine zz_put cx (ws2 := (wc_c E (gs_sv G 4 x1))) (ty := .int) (ci := 2) zi_X2 fk_X2 nm_X2 rfl 1 13 rfl (by decide) zk_X2_48 rfl (by decide +kernel) rfl rfl (Nat.le_of_ble_eq_true rfl) (wc_c_s4 E _ _) dn_X2_setFault_2 ?_
  refine zz_aload_n cx dn_X2_setFault_5 rfl rfl ?_
  refine zz_iload_n cx dn_X2_setFault_6 rfl rfl ?_
  refine zz_put cx (ws2 := (wc_c E (gs_sv (gs_sv G 4 x1) 5 x2))) (ty := .int) (ci := 2) zi_X2 fk_X2 nm_X2 rfl 1 14 rfl (by decide) zk_X2_51 rfl (by decide +kernel) rfl rfl (Nat.le_of_ble_eq_true rfl) (wc_c_s5 E _ _) dn_X2_setFault_7 ?_
  obtain rfl := Option.some.inj h
  exact zz_vret cx cq (by decide) (by decide) dn_X2_setFault_10
set_option maxHeartbeats 4000000 in
set_option maxRecDepth 100000 in
theorem z_cW_findFaultOfJumps_2 (E : ze_T) (n : Nat) (r : gs_T) (X : zx_T) (cx : zx (zF E) X cn_X2_findFaultOfJumps yn_X2_findFaultOfJumps.cls { frames := 2, cells := 0, slots := 0, locals := 42 } 3) (cq : zq_v (zF E) X (wc_c E r)) : ∀ (k : Nat) (x1 : Int32) (G : gs_T), cW_findFaultOfJumps_2 n k x1 G = some r → zj (zF E) X 0 0 (wc_c E G) 2 [some (.ref (ad_p E 1)), some (.int x1), none] [] := by
  intro k
  induction k with
  | zero => intro x1 G h; cases h
  | succ k ih =>
    intro x1 G h
    rw [cW_findFaultOfJumps_2] at h
    refine zz_iload_n cx dn_X2_findFaultOfJumps_2 rfl rfl ?_
    refine zz_aload_n cx dn_X2_findFaultOfJumps_3 rfl rfl ?_
    refine zz_get cx zi_X2 (v := .ref (ad_p E 2)) (ci := 2) rfl 1 0 rfl (by decide) zk_X2_12 rfl dn_X2_findFaultOfJumps_4 ?_
    refine zz_getN cx zi_X1 (v := .int (G.1 6)) (ci := 1) rfl 2 15 rfl (by decide) zk_X2_86 rfl dn_X2_findFaultOfJumps_7 ?_
    refine zz_icmp_ge cx (tgt := 60) dn_X2_findFaultOfJumps_10 (by decide) h (fun h => ?_) (fun h => ?_)
    · obtain rfl := Option.some.inj h
      exact zz_vret cx cq (by decide) (by decide) dn_X2_findFaultOfJumps_60
    · refine zz_aload_n cx dn_X2_findFaultOfJumps_13 rfl rfl ?_
      refine zz_get cx zi_X2 (v := .int (G.1 4)) (ci := 2) rfl 1 13 rfl (by decide) zk_X2_48 rfl dn_X2_findFaultOfJumps_14 ?_
      refine zz_if_ne cx (tgt := 60) dn_X2_findFaultOfJumps_17 (by decide) h (fun h => ?_) (fun h => ?_)
      · refine zz_aload_n cx dn_X2_findFaultOfJumps_20 rfl rfl ?_
        refine zz_get cx zi_X2 (v := .ref (ad_p E 2)) (ci := 2) rfl 1 0 rfl (by decide) zk_X2_12 rfl dn_X2_findFaultOfJumps_21 ?_
        refine zz_iload_n cx dn_X2_findFaultOfJumps_24 rfl rfl ?_
        refine gs_bind h (fun q1 e_q1 h => ?_)
        refine zz_callVNi cx (As := [.int x1]) (rest := []) (c2 := 0) (s2 := 0) (z_cS_hasJump E G x1 _ e_q1) zm_X1_hasJump zk_X2_89 zv_X1_hasJump 2 rfl rfl (by decide) rfl (Nat.le_of_ble_eq_true rfl) rfl rfl (by decide) (wc_c_addr E _ _) dn_X2_findFaultOfJumps_25 ?_
        refine zz_if_eq cx (tgt := 54) dn_X2_findFaultOfJumps_28 (by decide) h (fun h => ?_) (fun h => ?_)
        · refine zz_iinc cx dn_X2_findFaultOfJumps_54 (d := (1 : Int32)) rfl (by decide) (by decide) rfl ?_
          refine zz_goto cx dn_X2_findFaultOfJumps_57 (tgt := 2) (by decide) ?_
          exact ih (x1 + (1 : Int32)) G h
        · refine zz_aload_n cx dn_X2_findFaultOfJumps_31 rfl rfl ?_
          refine zz_get cx zi_X2 (v := .ref (ad_p E 2)) (ci := 2) rfl 1 0 rfl (by decide) zk_X2_12 rfl dn_X2_findFaultOfJumps_32 ?_
          refine zz_iload_n cx dn_X2_findFaultOfJumps_35 rfl rfl ?_
          refine gs_bind h (fun q2 e_q2 h => ?_)
          refine zz_callVNi cx (As := [.int x1]) (rest := []) (c2 := 0) (s2 := 0) (z_cS_faultOfJump E G x1 _ e_q2) zm_X1_faultOfJump zk_X2_93 zv_X1_faultOfJump 2 rfl rfl (by decide) rfl (Nat.le_of_ble_eq_true rfl) rfl rfl (by decide) (wc_c_addr E _ _) dn_X2_findFaultOfJumps_36 ?_
          refine zz_istore_n cx dn_X2_findFaultOfJumps_39 rfl (by decide) rfl ?_
          refine zz_aload_n cx dn_X2_findFaultOfJumps_40 rfl rfl ?_
          refine zz_iload_n cx dn_X2_findFaultOfJumps_41 rfl rfl ?_
          refine zz_iload_n cx dn_X2_findFaultOfJumps_42 rfl rfl ?_
          refine zz_if_ne cx (tgt := 50) dn_X2_findFaultOfJumps_43 (by decide) h (fun h => ?_) (fun h => ?_)
          · refine zz_iconst cx dn_X2_findFaultOfJumps_46 (v := (-1 : Int32)) (by decide) ?_
            refine zz_goto cx dn_X2_findFaultOfJumps_47 (tgt := 51) (by decide) ?_
            refine gs_bind h (fun q4 e_q4 h => ?_)
            refine zz_callVv cx (As := [.int q2, .int (-1 : Int32)]) (rest := []) (c2 := 0) (s2 := 0) (z_cW_setFault E G q2 (-1 : Int32) _ e_q4) zm_X2_setFault zk_X2_57 zv_X2_setFault 1 rfl rfl (by decide) rfl (Nat.le_of_ble_eq_true rfl) rfl rfl (by decide) (wc_c_addr E _ _) dn_X2_findFaultOfJumps_51 ?_
            refine zz_iinc cx dn_X2_findFaultOfJumps_54 (d := (1 : Int32)) rfl (by decide) (by decide) rfl ?_
            refine zz_goto cx dn_X2_findFaultOfJumps_57 (tgt := 2) (by decide) ?_
            refine zz_less (L2 := [some (.ref (ad_p E 1)), some (.int (x1 + (1 : Int32))), none]) (⟨rfl, rfl, trivial⟩) ?_
            exact ih (x1 + (1 : Int32)) q4 h
          · refine zz_iload_n cx dn_X2_findFaultOfJumps_50 rfl rfl ?_
            refine gs_bind h (fun q3 e_q3 h => ?_)
            refine zz_callVv cx (As := [.int q2, .int x1]) (rest := []) (c2 := 0) (s2 := 0) (z_cW_setFault E G q2 x1 _ e_q3) zm_X2_setFault zk_X2_57 zv_X2_setFault 1 rfl rfl (by decide) rfl (Nat.le_of_ble_eq_true rfl) rfl rfl (by decide) (wc_c_addr E _ _) dn_X2_findFaultOfJumps_51 ?_
            refine zz_iinc cx dn_X2_findFaultOfJumps_54 (d := (1 : Int32)) rfl (by decide) (by decide) rfl ?_
            refine zz_goto cx dn_X2_findFaultOfJumps_57 (tgt := 2) (by decide) ?_
            refine zz_less (L2 := [some (.ref (ad_p E 1)), some (.int (x1 + (1 : Int32))), none]) (⟨rfl, rfl, trivial⟩) ?_
            exact ih (x1 + (1 : Int32)) q3 h
      · obtain rfl := Option.some.inj h
        exact zz_vret cx cq (by decide) (by decide) dn_X2_findFaultOfJumps_60
set_option maxHeartbeats 4000000 in
set_option maxRecDepth 100000 in
theorem z_cW_findFaultOfJumps (E : ze_T) (n : Nat) (G : gs_T) (r : gs_T) (h : cW_findFaultOfJumps n G = some r) : zc_v (zF E) (wc_c E G) (wc_c E r) yn_X2_findFaultOfJumps cn_X2_findFaultOfJumps 3 { frames := 2, cells := 0, slots := 0, locals := 42 } [.ref (ad_p E 1)] := by
  unfold cW_findFaultOfJumps at h
  refine zc_v_of (by decide) rfl (Nat.le_of_ble_eq_true rfl) (fun X cx cq => ?_)
  refine zz_iconst cx dn_X2_findFaultOfJumps_0 (v := (0 : Int32)) (by decide) ?_
  refine zz_istore_n cx dn_X2_findFaultOfJumps_1 rfl (by decide) rfl ?_
  exact z_cW_findFaultOfJumps_2 E n _ X cx cq n (0 : Int32) G h
set_option maxHeartbeats 4000000 in
set_option maxRecDepth 100000 in
theorem z_cW_openAround_31 (E : ze_T) (n : Nat) (x1 x2 : Int32) (r : gs_T) (X : zx_T) (cx : zx (zF E) X cn_X2_openAround yn_X2_openAround.cls { frames := 1, cells := 0, slots := 0, locals := 22 } 5) (cq : zq_v (zF E) X (wc_c E r)) : ∀ (k : Nat) (x3 : Int32) (G : gs_T), cW_openAround_31 n x1 x2 k x3 G = some r → zj (zF E) X 0 0 (wc_c E G) 31 [some (.ref (ad_p E 1)), some (.int x1), some (.int x2), some (.int x3), none] [] := by
  intro k
  induction k with
  | zero => intro x3 G h; cases h
  | succ k ih =>
    intro x3 G h
    rw [cW_openAround_31] at h
    refine zz_iload_n cx dn_X2_openAround_31 rfl rfl ?_
    refine zz_aload_n cx dn_X2_openAround_32 rfl rfl ?_
    refine zz_get cx zi_X2 (v := .ref (ad_p E 2)) (ci := 2) rfl 1 0 rfl (by decide) zk_X2_12 rfl dn_X2_openAround_33 ?_
    refine zz_getN cx zi_X1 (v := .ref (ad_p E 16)) (ci := 1) rfl 2 13 rfl (by decide) zk_X2_129 rfl dn_X2_openAround_36 ?_
    refine zz_iload_n cx dn_X2_openAround_39 rfl rfl ?_
    refine zz_iald cx 16 0 rfl rfl h (v := (gs_a G 13 x1)) rfl dn_X2_openAround_40 (fun h => ?_)
    refine zz_icmp_ge cx (tgt := 96) dn_X2_openAround_41 (by decide) h (fun h => ?_) (fun h => ?_)
    · obtain rfl := Option.some.inj h
      exact zz_vret cx cq (by decide) (by decide) dn_X2_openAround_96
    · refine zz_aload_n cx dn_X2_openAround_44 rfl rfl ?_
      refine zz_get cx zi_X2 (v := .ref (ad_p E 2)) (ci := 2) rfl 1 0 rfl (by decide) zk_X2_12 rfl dn_X2_openAround_45 ?_
      refine zz_iload_n cx dn_X2_openAround_48 rfl rfl ?_
      refine zz_iload_n cx dn_X2_openAround_49 rfl rfl ?_
      refine gs_bind h (fun q1 e_q1 h => ?_)
      refine zz_callVNi cx (As := [.int x1, .int x3]) (rest := []) (c2 := 0) (s2 := 0) (z_cS_repeatAround E G x1 x3 _ e_q1) zm_X1_repeatAround zk_X2_132 zv_X1_repeatAround 2 rfl rfl (by decide) rfl (Nat.le_of_ble_eq_true rfl) rfl rfl (by decide) (wc_c_addr E _ _) dn_X2_openAround_50 ?_
      refine zz_istore cx dn_X2_openAround_53 (by decide) rfl ?_
      refine zz_aload_n cx dn_X2_openAround_55 rfl rfl ?_
      refine zz_get cx zi_X2 (v := .ref (ad_p E 24)) (ci := 2) rfl 1 7 rfl (by decide) zk_X2_37 rfl dn_X2_openAround_56 ?_
      refine zz_iload cx dn_X2_openAround_59 rfl ?_
      refine zz_iald cx 24 0 rfl rfl h (v := (gs_a G 21 q1)) rfl dn_X2_openAround_61 (fun h => ?_)
      refine zz_if_ne cx (tgt := 90) dn_X2_openAround_62 (by decide) h (fun h => ?_) (fun h => ?_)
      · refine zz_aload_n cx dn_X2_openAround_65 rfl rfl ?_
        refine zz_get cx zi_X2 (v := .ref (ad_p E 24)) (ci := 2) rfl 1 7 rfl (by decide) zk_X2_37 rfl dn_X2_openAround_66 ?_
        refine zz_iload cx dn_X2_openAround_69 rfl ?_
        refine zz_iload_n cx dn_X2_openAround_71 rfl rfl ?_
        refine zz_if_eq cx (tgt := 88) dn_X2_openAround_72 (by decide) h (fun h => ?_) (fun h => ?_)
        · refine zz_iconst cx dn_X2_openAround_88 (v := (1 : Int32)) (by decide) ?_
          refine zz_iast cx 24 0 rfl rfl h (ws2 := (wc_c E (gs_sa G 21 q1 (1 : Int32)))) (wc_c_a21 E _ _ _) dn_X2_openAround_89 (fun h => ?_)
          refine zz_iinc cx dn_X2_openAround_90 (d := (1 : Int32)) rfl (by decide) (by decide) rfl ?_
          refine zz_goto cx dn_X2_openAround_93 (tgt := 31) (by decide) ?_
          refine zz_less (L2 := [some (.ref (ad_p E 1)), some (.int x1), some (.int x2), some (.int (x3 + (1 : Int32))), none]) (⟨rfl, rfl, rfl, rfl, trivial⟩) ?_
          exact ih (x3 + (1 : Int32)) (gs_sa G 21 q1 (1 : Int32)) h
        · refine zz_aload_n cx dn_X2_openAround_75 rfl rfl ?_
          refine zz_get cx zi_X2 (v := .ref (ad_p E 2)) (ci := 2) rfl 1 0 rfl (by decide) zk_X2_12 rfl dn_X2_openAround_76 ?_
          refine zz_getN cx zi_X1 (v := .ref (ad_p E 6)) (ci := 1) rfl 2 3 rfl (by decide) zk_X2_136 rfl dn_X2_openAround_79 ?_
          refine zz_iload cx dn_X2_openAround_82 rfl ?_
          refine zz_iald cx 6 0 rfl rfl h (v := (gs_a G 3 q1)) rfl dn_X2_openAround_84 (fun h => ?_)
          refine zz_goto cx dn_X2_openAround_85 (tgt := 89) (by decide) ?_
          refine zz_iast cx 24 0 rfl rfl h (ws2 := (wc_c E (gs_sa G 21 q1 (gs_a G 3 q1)))) (wc_c_a21 E _ _ _) dn_X2_openAround_89 (fun h => ?_)
          refine zz_iinc cx dn_X2_openAround_90 (d := (1 : Int32)) rfl (by decide) (by decide) rfl ?_
          refine zz_goto cx dn_X2_openAround_93 (tgt := 31) (by decide) ?_
          refine zz_less (L2 := [some (.ref (ad_p E 1)), some (.int x1), some (.int x2), some (.int (x3 + (1 : Int32))), none]) (⟨rfl, rfl, rfl, rfl, trivial⟩) ?_
          exact ih (x3 + (1 : Int32)) (gs_sa G 21 q1 (gs_a G 3 q1)) h
      · refine zz_iinc cx dn_X2_openAround_90 (d := (1 : Int32)) rfl (by decide) (by decide) rfl ?_
        refine zz_goto cx dn_X2_openAround_93 (tgt := 31) (by decide) ?_
        refine zz_less (L2 := [some (.ref (ad_p E 1)), some (.int x1), some (.int x2), some (.int (x3 + (1 : Int32))), none]) (⟨rfl, rfl, rfl, rfl, trivial⟩) ?_
        exact ih (x3 + (1 : Int32)) G h
set_option maxHeartbeats 4000000 in
set_option maxRecDepth 100000 in
theorem z_cW_openAround_j28 (E : ze_T) (n : Nat) (G : gs_T) (x1 s0 : Int32) (r : gs_T) (X : zx_T) (cx : zx (zF E) X cn_X2_openAround yn_X2_openAround.cls { frames := 1, cells := 0, slots := 0, locals := 22 } 5) (cq : zq_v (zF E) X (wc_c E r)) (h : cW_openAround_j28 n G x1 s0 = some r) : zj (zF E) X 0 0 (wc_c E G) 28 [some (.ref (ad_p E 1)), some (.int x1), none, none, none] [.int s0] := by
  unfold cW_openAround_j28 at h
  refine zz_istore_n cx dn_X2_openAround_28 rfl (by decide) rfl ?_
  refine zz_iconst cx dn_X2_openAround_29 (v := (0 : Int32)) (by decide) ?_
  refine zz_istore_n cx dn_X2_openAround_30 rfl (by decide) rfl ?_
  exact z_cW_openAround_31 E n x1 s0 _ X cx cq n (0 : Int32) G h
set_option maxHeartbeats 4000000 in
set_option maxRecDepth 100000 in
theorem z_cW_openAround_j27 (E : ze_T) (n : Nat) (G : gs_T) (x1 : Int32) (r : gs_T) (X : zx_T) (cx : zx (zF E) X cn_X2_openAround yn_X2_openAround.cls { frames := 1, cells := 0, slots := 0, locals := 22 } 5) (cq : zq_v (zF E) X (wc_c E r)) (h : cW_openAround_j27 n G x1 = some r) : zj (zF E) X 0 0 (wc_c E G) 27 [some (.ref (ad_p E 1)), some (.int x1), none, none, none] [] := by
  unfold cW_openAround_j27 at h
  refine zz_iconst cx dn_X2_openAround_27 (v := (0 : Int32)) (by decide) ?_
  exact z_cW_openAround_j28 E n G x1 (0 : Int32) _ X cx cq h
set_option maxHeartbeats 4000000 in
set_option maxRecDepth 100000 in
theorem z_cW_openAround (E : ze_T) (n : Nat) (G : gs_T) (x1 : Int32) (r : gs_T) (h : cW_openAround n G x1 = some r) : zc_v (zF E) (wc_c E G) (wc_c E r) yn_X2_openAround cn_X2_openAround 5 { frames := 1, cells := 0, slots := 0, locals := 22 } [.ref (ad_p E 1), .int x1] := by
  unfold cW_openAround at h
  refine zc_v_of (by decide) rfl (Nat.le_of_ble_eq_true rfl) (fun X cx cq => ?_)
  refine zz_aload_n cx dn_X2_openAround_0 rfl rfl ?_
  refine zz_get cx zi_X2 (v := .int (G.1 2)) (ci := 2) rfl 1 11 rfl (by decide) zk_X2_44 rfl dn_X2_openAround_1 ?_
  refine zz_iconst cx dn_X2_openAround_4 (v := (-1 : Int32)) (by decide) ?_
  refine zz_icmp_eq cx (tgt := 27) dn_X2_openAround_5 (by decide) h (fun h => ?_) (fun h => ?_)
  · exact z_cW_openAround_j27 E n G x1 _ X cx cq h
  · refine zz_aload_n cx dn_X2_openAround_8 rfl rfl ?_
    refine zz_get cx zi_X2 (v := .ref (ad_p E 2)) (ci := 2) rfl 1 0 rfl (by decide) zk_X2_12 rfl dn_X2_openAround_9 ?_
    refine zz_getN cx zi_X1 (v := .ref (ad_p E 14)) (ci := 1) rfl 2 11 rfl (by decide) zk_X2_126 rfl dn_X2_openAround_12 ?_
    refine zz_aload_n cx dn_X2_openAround_15 rfl rfl ?_
    refine zz_get cx zi_X2 (v := .int (G.1 2)) (ci := 2) rfl 1 11 rfl (by decide) zk_X2_44 rfl dn_X2_openAround_16 ?_
    refine zz_zald cx 14 1 rfl rfl h (v := (gs_a G 11 (G.1 2))) rfl dn_X2_openAround_19 (fun h => ?_)
    refine zz_if_ne cx (tgt := 27) dn_X2_openAround_20 (by decide) h (fun h => ?_) (fun h => ?_)
    · refine zz_iconst cx dn_X2_openAround_23 (v := (1 : Int32)) (by decide) ?_
      refine zz_goto cx dn_X2_openAround_24 (tgt := 28) (by decide) ?_
      exact z_cW_openAround_j28 E n G x1 (1 : Int32) _ X cx cq h
    · exact z_cW_openAround_j27 E n G x1 _ X cx cq h
set_option maxHeartbeats 4000000 in
set_option maxRecDepth 100000 in
theorem z_cW_isLeftOut (E : ze_T) (G : gs_T) (x1 : Int32) (r : Int32) (h : cW_isLeftOut G x1 = some r) : zc_i (zF E) (wc_c E G) (wc_c E G) yn_X2_isLeftOut cn_X2_isLeftOut 3 .boolean { frames := 0, cells := 0, slots := 0, locals := 0 } [.ref (ad_p E 1), .int x1] r := by
  unfold cW_isLeftOut at h
  refine zc_i_of (by decide) rfl (Nat.le_of_ble_eq_true rfl) (fun X cx cq => ?_)
  refine zz_iconst cx dn_X2_isLeftOut_0 (v := (1 : Int32)) (by decide) ?_
  refine zz_aload_n cx dn_X2_isLeftOut_1 rfl rfl ?_
  refine zz_get cx zi_X2 (v := .ref (ad_p E 24)) (ci := 2) rfl 1 7 rfl (by decide) zk_X2_37 rfl dn_X2_isLeftOut_2 ?_
  refine zz_aload_n cx dn_X2_isLeftOut_5 rfl rfl ?_
  refine zz_get cx zi_X2 (v := .ref (ad_p E 2)) (ci := 2) rfl 1 0 rfl (by decide) zk_X2_12 rfl dn_X2_isLeftOut_6 ?_
  refine zz_getN cx zi_X1 (v := .ref (ad_p E 7)) (ci := 1) rfl 2 4 rfl (by decide) zk_X2_139 rfl dn_X2_isLeftOut_9 ?_
  refine zz_iload_n cx dn_X2_isLeftOut_12 rfl rfl ?_
  refine zz_iald cx 7 0 rfl rfl h (v := (gs_a G 4 x1)) rfl dn_X2_isLeftOut_13 (fun h => ?_)
  refine zz_iald cx 24 0 rfl rfl h (v := (gs_a G 21 (gs_a G 4 x1))) rfl dn_X2_isLeftOut_14 (fun h => ?_)
  refine zz_iconst cx dn_X2_isLeftOut_15 (v := (1 : Int32)) (by decide) ?_
  refine zz_isub cx dn_X2_isLeftOut_16 ?_
  refine zz_ishl cx dn_X2_isLeftOut_17 ?_
  refine zz_istore_n cx dn_X2_isLeftOut_18 rfl (by decide) rfl ?_
  refine zz_aload_n cx dn_X2_isLeftOut_19 rfl rfl ?_
  refine zz_get cx zi_X2 (v := .ref (ad_p E 2)) (ci := 2) rfl 1 0 rfl (by decide) zk_X2_12 rfl dn_X2_isLeftOut_20 ?_
  refine zz_getN cx zi_X1 (v := .ref (ad_p E 10)) (ci := 1) rfl 2 7 rfl (by decide) zk_X2_142 rfl dn_X2_isLeftOut_23 ?_
  refine zz_iload_n cx dn_X2_isLeftOut_26 rfl rfl ?_
  refine zz_iald cx 10 0 rfl rfl h (v := (gs_a G 7 x1)) rfl dn_X2_isLeftOut_27 (fun h => ?_)
  refine zz_iload_n cx dn_X2_isLeftOut_28 rfl rfl ?_
  refine zz_iand cx dn_X2_isLeftOut_29 ?_
  refine zz_if_ne cx (tgt := 37) dn_X2_isLeftOut_30 (by decide) h (fun h => ?_) (fun h => ?_)
  · refine zz_iconst cx dn_X2_isLeftOut_33 (v := (1 : Int32)) (by decide) ?_
    refine zz_goto cx dn_X2_isLeftOut_34 (tgt := 38) (by decide) ?_
    obtain rfl := Option.some.inj h
    exact zz_zret cx cq rfl (by decide) (by decide) dn_X2_isLeftOut_38
  · refine zz_iconst cx dn_X2_isLeftOut_37 (v := (0 : Int32)) (by decide) ?_
    obtain rfl := Option.some.inj h
    exact zz_zret cx cq rfl (by decide) (by decide) dn_X2_isLeftOut_38
set_option maxHeartbeats 4000000 in
set_option maxRecDepth 100000 in
theorem z_cW_leaveWithin_2 (E : ze_T) (n : Nat) (x1 : Int32) (r : gs_T) (X : zx_T) (cx : zx (zF E) X cn_X2_leaveWithin yn_X2_leaveWithin.cls { frames := 2, cells := 0, slots := 0, locals := 45 } 3) (cq : zq_v (zF E) X (wc_c E r)) : ∀ (k : Nat) (x2 : Int32) (G : gs_T), cW_leaveWithin_2 n x1 k x2 G = some r → zj (zF E) X 0 0 (wc_c E G) 2 [some (.ref (ad_p E 1)), some (.int x1), some (.int x2)] [] := by
  intro k
  induction k with
  | zero => intro x2 G h; cases h
  | succ k ih =>
    intro x2 G h
    rw [cW_leaveWithin_2] at h
    refine zz_iload_n cx dn_X2_leaveWithin_2 rfl rfl ?_
    refine zz_aload_n cx dn_X2_leaveWithin_3 rfl rfl ?_
    refine zz_get cx zi_X2 (v := .ref (ad_p E 2)) (ci := 2) rfl 1 0 rfl (by decide) zk_X2_12 rfl dn_X2_leaveWithin_4 ?_
    refine zz_getN cx zi_X1 (v := .int (G.1 7)) (ci := 1) rfl 2 16 rfl (by decide) zk_X2_145 rfl dn_X2_leaveWithin_7 ?_
    refine zz_icmp_ge cx (tgt := 51) dn_X2_leaveWithin_10 (by decide) h (fun h => ?_) (fun h => ?_)
    · obtain rfl := Option.some.inj h
      exact zz_vret cx cq (by decide) (by decide) dn_X2_leaveWithin_51
    · refine zz_iload_n cx dn_X2_leaveWithin_13 rfl rfl ?_
      refine zz_aload_n cx dn_X2_leaveWithin_14 rfl rfl ?_
      refine zz_get cx zi_X2 (v := .ref (ad_p E 2)) (ci := 2) rfl 1 0 rfl (by decide) zk_X2_12 rfl dn_X2_leaveWithin_15 ?_
      refine zz_getN cx zi_X1 (v := .ref (ad_p E 7)) (ci := 1) rfl 2 4 rfl (by decide) zk_X2_139 rfl dn_X2_leaveWithin_18 ?_
      refine zz_iload_n cx dn_X2_leaveWithin_21 rfl rfl ?_
      refine zz_iald cx 7 0 rfl rfl h (v := (gs_a G 4 x1)) rfl dn_X2_leaveWithin_22 (fun h => ?_)
      refine zz_icmp_eq cx (tgt := 45) dn_X2_leaveWithin_23 (by decide) h (fun h => ?_) (fun h => ?_)
      · refine zz_iinc cx dn_X2_leaveWithin_45 (d := (1 : Int32)) rfl (by decide) (by decide) rfl ?_
        refine zz_goto cx dn_X2_leaveWithin_48 (tgt := 2) (by decide) ?_
        exact ih (x2 + (1 : Int32)) G h
      · refine zz_aload_n cx dn_X2_leaveWithin_26 rfl rfl ?_
        refine zz_get cx zi_X2 (v := .ref (ad_p E 2)) (ci := 2) rfl 1 0 rfl (by decide) zk_X2_12 rfl dn_X2_leaveWithin_27 ?_
        refine zz_iload_n cx dn_X2_leaveWithin_30 rfl rfl ?_
        refine zz_iload_n cx dn_X2_leaveWithin_31 rfl rfl ?_
        refine gs_bind h (fun q1 e_q1 h => ?_)
        refine zz_callVNi cx (As := [.int x2, .int x1]) (rest := []) (c2 := 0) (s2 := 0) (z_cS_isRepeatWithinEnding E G x2 x1 _ e_q1) zm_X1_isRepeatWithinEnding zk_X2_148 zv_X1_isRepeatWithinEnding 2 rfl rfl (by decide) rfl (Nat.le_of_ble_eq_true rfl) rfl rfl (by decide) (wc_c_addr E _ _) dn_X2_leaveWithin_32 ?_
        refine zz_if_eq cx (tgt := 45) dn_X2_leaveWithin_35 (by decide) h (fun h => ?_) (fun h => ?_)
        · refine zz_iinc cx dn_X2_leaveWithin_45 (d := (1 : Int32)) rfl (by decide) (by decide) rfl ?_
          refine zz_goto cx dn_X2_leaveWithin_48 (tgt := 2) (by decide) ?_
          exact ih (x2 + (1 : Int32)) G h
        · refine zz_aload_n cx dn_X2_leaveWithin_38 rfl rfl ?_
          refine zz_get cx zi_X2 (v := .ref (ad_p E 24)) (ci := 2) rfl 1 7 rfl (by decide) zk_X2_37 rfl dn_X2_leaveWithin_39 ?_
          refine zz_iload_n cx dn_X2_leaveWithin_42 rfl rfl ?_
          refine zz_iconst cx dn_X2_leaveWithin_43 (v := (0 : Int32)) (by decide) ?_
          refine zz_iast cx 24 0 rfl rfl h (ws2 := (wc_c E (gs_sa G 21 x2 (0 : Int32)))) (wc_c_a21 E _ _ _) dn_X2_leaveWithin_44 (fun h => ?_)
          refine zz_iinc cx dn_X2_leaveWithin_45 (d := (1 : Int32)) rfl (by decide) (by decide) rfl ?_
          refine zz_goto cx dn_X2_leaveWithin_48 (tgt := 2) (by decide) ?_
          exact ih (x2 + (1 : Int32)) (gs_sa G 21 x2 (0 : Int32)) h
set_option maxHeartbeats 4000000 in
set_option maxRecDepth 100000 in
theorem z_cW_leaveWithin (E : ze_T) (n : Nat) (G : gs_T) (x1 : Int32) (r : gs_T) (h : cW_leaveWithin n G x1 = some r) : zc_v (zF E) (wc_c E G) (wc_c E r) yn_X2_leaveWithin cn_X2_leaveWithin 3 { frames := 2, cells := 0, slots := 0, locals := 45 } [.ref (ad_p E 1), .int x1] := by
  unfold cW_leaveWithin at h
  refine zc_v_of (by decide) rfl (Nat.le_of_ble_eq_true rfl) (fun X cx cq => ?_)
  refine zz_iconst cx dn_X2_leaveWithin_0 (v := (0 : Int32)) (by decide) ?_
  refine zz_istore_n cx dn_X2_leaveWithin_1 rfl (by decide) rfl ?_
  exact z_cW_leaveWithin_2 E n x1 _ X cx cq n (0 : Int32) G h
set_option maxHeartbeats 4000000 in
set_option maxRecDepth 100000 in
theorem z_cW_endOf_12 (E : ze_T) (n : Nat) (x1 : Int32) (r : (Int32 × gs_T)) (X : zx_T) (cx : zx (zF E) X cn_X2_endOf yn_X2_endOf.cls { frames := 1, cells := 0, slots := 0, locals := 22 } 4) (cq : zq_i (zF E) X (wc_c E r.2) .int r.1) : ∀ (k : Nat) (x2 : Int32) (G : gs_T), cW_endOf_12 n x1 k x2 G = some r → zj (zF E) X 0 0 (wc_c E G) 12 [some (.ref (ad_p E 1)), some (.int x1), some (.int x2), none] [] := by
  intro k
  induction k with
  | zero => intro x2 G h; cases h
  | succ k ih =>
    intro x2 G h
    rw [cW_endOf_12] at h
    refine zz_iload_n cx dn_X2_endOf_12 rfl rfl ?_
    refine zz_if_lt cx (tgt := 99) dn_X2_endOf_13 (by decide) h (fun h => ?_) (fun h => ?_)
    · refine zz_iload_n cx dn_X2_endOf_99 rfl rfl ?_
      refine zz_iconst cx dn_X2_endOf_100 (v := (1 : Int32)) (by decide) ?_
      refine zz_iadd cx dn_X2_endOf_101 ?_
      refine zz_aload_n cx dn_X2_endOf_102 rfl rfl ?_
      refine zz_get cx zi_X2 (v := .ref (ad_p E 2)) (ci := 2) rfl 1 0 rfl (by decide) zk_X2_12 rfl dn_X2_endOf_103 ?_
      refine zz_getN cx zi_X1 (v := .int (G.1 6)) (ci := 1) rfl 2 15 rfl (by decide) zk_X2_86 rfl dn_X2_endOf_106 ?_
      refine zz_icmp_ge cx (tgt := 118) dn_X2_endOf_109 (by decide) h (fun h => ?_) (fun h => ?_)
      · refine zz_iconst cx dn_X2_endOf_118 (v := (-1 : Int32)) (by decide) ?_
        obtain rfl := Option.some.inj h
        exact zz_iret cx cq (by decide) (by decide) dn_X2_endOf_119
      · refine zz_iload_n cx dn_X2_endOf_112 rfl rfl ?_
        refine zz_iconst cx dn_X2_endOf_113 (v := (1 : Int32)) (by decide) ?_
        refine zz_iadd cx dn_X2_endOf_114 ?_
        refine zz_goto cx dn_X2_endOf_115 (tgt := 119) (by decide) ?_
        obtain rfl := Option.some.inj h
        exact zz_iret cx cq (by decide) (by decide) dn_X2_endOf_119
    · refine zz_aload_n cx dn_X2_endOf_16 rfl rfl ?_
      refine zz_get cx zi_X2 (v := .ref (ad_p E 2)) (ci := 2) rfl 1 0 rfl (by decide) zk_X2_12 rfl dn_X2_endOf_17 ?_
      refine zz_iload_n cx dn_X2_endOf_20 rfl rfl ?_
      refine zz_iload_n cx dn_X2_endOf_21 rfl rfl ?_
      refine gs_bind h (fun q1 e_q1 h => ?_)
      refine zz_callVNi cx (As := [.int x1, .int x2]) (rest := []) (c2 := 0) (s2 := 0) (z_cS_repeatAround E G x1 x2 _ e_q1) zm_X1_repeatAround zk_X2_132 zv_X1_repeatAround 2 rfl rfl (by decide) rfl (Nat.le_of_ble_eq_true rfl) rfl rfl (by decide) (wc_c_addr E _ _) dn_X2_endOf_22 ?_
      refine zz_istore_n cx dn_X2_endOf_25 rfl (by decide) rfl ?_
      refine zz_aload_n cx dn_X2_endOf_26 rfl rfl ?_
      refine zz_get cx zi_X2 (v := .ref (ad_p E 2)) (ci := 2) rfl 1 0 rfl (by decide) zk_X2_12 rfl dn_X2_endOf_27 ?_
      refine zz_getN cx zi_X1 (v := .ref (ad_p E 5)) (ci := 1) rfl 2 2 rfl (by decide) zk_X2_170 rfl dn_X2_endOf_30 ?_
      refine zz_iload_n cx dn_X2_endOf_33 rfl rfl ?_
      refine zz_iald cx 5 0 rfl rfl h (v := (gs_a G 2 q1)) rfl dn_X2_endOf_34 (fun h => ?_)
      refine zz_iload_n cx dn_X2_endOf_35 rfl rfl ?_
      refine zz_icmp_ne cx (tgt := 93) dn_X2_endOf_36 (by decide) h (fun h => ?_) (fun h => ?_)
      · refine zz_aload_n cx dn_X2_endOf_39 rfl rfl ?_
        refine zz_get cx zi_X2 (v := .ref (ad_p E 24)) (ci := 2) rfl 1 7 rfl (by decide) zk_X2_37 rfl dn_X2_endOf_40 ?_
        refine zz_iload_n cx dn_X2_endOf_43 rfl rfl ?_
        refine zz_iald cx 24 0 rfl rfl h (v := (gs_a G 21 q1)) rfl dn_X2_endOf_44 (fun h => ?_)
        refine zz_if_eq cx (tgt := 93) dn_X2_endOf_45 (by decide) h (fun h => ?_) (fun h => ?_)
        · refine zz_iinc cx dn_X2_endOf_93 (d := (-1 : Int32)) rfl (by decide) (by decide) rfl ?_
          refine zz_goto cx dn_X2_endOf_96 (tgt := 12) (by decide) ?_
          refine zz_less (L2 := [some (.ref (ad_p E 1)), some (.int x1), some (.int (x2 + (-1 : Int32))), none]) (⟨rfl, rfl, rfl, trivial⟩) ?_
          exact ih (x2 + (-1 : Int32)) G h
        · refine zz_aload_n cx dn_X2_endOf_48 rfl rfl ?_
          refine zz_get cx zi_X2 (v := .ref (ad_p E 24)) (ci := 2) rfl 1 7 rfl (by decide) zk_X2_37 rfl dn_X2_endOf_49 ?_
          refine zz_iload_n cx dn_X2_endOf_52 rfl rfl ?_
          refine zz_iald cx 24 0 rfl rfl h (v := (gs_a G 21 q1)) rfl dn_X2_endOf_53 (fun h => ?_)
          refine zz_aload_n cx dn_X2_endOf_54 rfl rfl ?_
          refine zz_get cx zi_X2 (v := .ref (ad_p E 2)) (ci := 2) rfl 1 0 rfl (by decide) zk_X2_12 rfl dn_X2_endOf_55 ?_
          refine zz_getN cx zi_X1 (v := .ref (ad_p E 6)) (ci := 1) rfl 2 3 rfl (by decide) zk_X2_136 rfl dn_X2_endOf_58 ?_
          refine zz_iload_n cx dn_X2_endOf_61 rfl rfl ?_
          refine zz_iald cx 6 0 rfl rfl h (v := (gs_a G 3 q1)) rfl dn_X2_endOf_62 (fun h => ?_)
          refine zz_icmp_ge cx (tgt := 86) dn_X2_endOf_63 (by decide) h (fun h => ?_) (fun h => ?_)
          · refine zz_aload_n cx dn_X2_endOf_86 rfl rfl ?_
            refine zz_get cx zi_X2 (v := .ref (ad_p E 24)) (ci := 2) rfl 1 7 rfl (by decide) zk_X2_37 rfl dn_X2_endOf_87 ?_
            refine zz_iload_n cx dn_X2_endOf_90 rfl rfl ?_
            refine zz_iconst cx dn_X2_endOf_91 (v := (0 : Int32)) (by decide) ?_
            refine zz_iast cx 24 0 rfl rfl h (ws2 := (wc_c E (gs_sa G 21 q1 (0 : Int32)))) (wc_c_a21 E _ _ _) dn_X2_endOf_92 (fun h => ?_)
            refine zz_iinc cx dn_X2_endOf_93 (d := (-1 : Int32)) rfl (by decide) (by decide) rfl ?_
            refine zz_goto cx dn_X2_endOf_96 (tgt := 12) (by decide) ?_
            refine zz_less (L2 := [some (.ref (ad_p E 1)), some (.int x1), some (.int (x2 + (-1 : Int32))), none]) (⟨rfl, rfl, rfl, trivial⟩) ?_
            exact ih (x2 + (-1 : Int32)) (gs_sa G 21 q1 (0 : Int32)) h
          · refine zz_aload_n cx dn_X2_endOf_66 rfl rfl ?_
            refine zz_get cx zi_X2 (v := .ref (ad_p E 24)) (ci := 2) rfl 1 7 rfl (by decide) zk_X2_37 rfl dn_X2_endOf_67 ?_
            refine zz_iload_n cx dn_X2_endOf_70 rfl rfl ?_
            refine zz_dup2 cx dn_X2_endOf_71 rfl rfl ?_
            refine zz_iald cx 24 0 rfl rfl h (v := (gs_a G 21 q1)) rfl dn_X2_endOf_72 (fun h => ?_)
            refine zz_iconst cx dn_X2_endOf_73 (v := (1 : Int32)) (by decide) ?_
            refine zz_iadd cx dn_X2_endOf_74 ?_
            refine zz_iast cx 24 0 rfl rfl h (ws2 := (wc_c E (gs_sa G 21 q1 ((gs_a G 21 q1) + (1 : Int32))))) (wc_c_a21 E _ _ _) dn_X2_endOf_75 (fun h => ?_)
            refine zz_aload_n cx dn_X2_endOf_76 rfl rfl ?_
            refine zz_get cx zi_X2 (v := .ref (ad_p E 2)) (ci := 2) rfl 1 0 rfl (by decide) zk_X2_12 rfl dn_X2_endOf_77 ?_
            refine zz_getN cx zi_X1 (v := .ref (ad_p E 4)) (ci := 1) rfl 2 1 rfl (by decide) zk_X2_173 rfl dn_X2_endOf_80 ?_
            refine zz_iload_n cx dn_X2_endOf_83 rfl rfl ?_
            refine zz_iald cx 4 0 rfl rfl h (v := (gs_a G 1 q1)) rfl dn_X2_endOf_84 (fun h => ?_)
            obtain rfl := Option.some.inj h
            exact zz_iret cx cq (by decide) (by decide) dn_X2_endOf_85
      · refine zz_iinc cx dn_X2_endOf_93 (d := (-1 : Int32)) rfl (by decide) (by decide) rfl ?_
        refine zz_goto cx dn_X2_endOf_96 (tgt := 12) (by decide) ?_
        refine zz_less (L2 := [some (.ref (ad_p E 1)), some (.int x1), some (.int (x2 + (-1 : Int32))), none]) (⟨rfl, rfl, rfl, trivial⟩) ?_
        exact ih (x2 + (-1 : Int32)) G h
set_option maxHeartbeats 4000000 in
set_option maxRecDepth 100000 in
theorem z_cW_endOf (E : ze_T) (n : Nat) (G : gs_T) (x1 : Int32) (r : (Int32 × gs_T)) (h : cW_endOf n G x1 = some r) : zc_i (zF E) (wc_c E G) (wc_c E r.2) yn_X2_endOf cn_X2_endOf 4 .int { frames := 1, cells := 0, slots := 0, locals := 22 } [.ref (ad_p E 1), .int x1] r.1 := by
  unfold cW_endOf at h
  refine zc_i_of (by decide) rfl (Nat.le_of_ble_eq_true rfl) (fun X cx cq => ?_)
  refine zz_aload_n cx dn_X2_endOf_0 rfl rfl ?_
  refine zz_get cx zi_X2 (v := .ref (ad_p E 2)) (ci := 2) rfl 1 0 rfl (by decide) zk_X2_12 rfl dn_X2_endOf_1 ?_
  refine zz_getN cx zi_X1 (v := .ref (ad_p E 16)) (ci := 1) rfl 2 13 rfl (by decide) zk_X2_129 rfl dn_X2_endOf_4 ?_
  refine zz_iload_n cx dn_X2_endOf_7 rfl rfl ?_
  refine zz_iald cx 16 0 rfl rfl h (v := (gs_a G 13 x1)) rfl dn_X2_endOf_8 (fun h => ?_)
  refine zz_iconst cx dn_X2_endOf_9 (v := (1 : Int32)) (by decide) ?_
  refine zz_isub cx dn_X2_endOf_10 ?_
  refine zz_istore_n cx dn_X2_endOf_11 rfl (by decide) rfl ?_
  exact z_cW_endOf_12 E n x1 _ X cx cq n ((gs_a G 13 x1) - (1 : Int32)) G h
set_option maxHeartbeats 4000000 in
set_option maxRecDepth 100000 in
theorem z_cW_play_j96 (E : ze_T) (G : gs_T) (x1 s0 s1 : Int32) (r : gs_T) (X : zx_T) (cx : zx (zF E) X cn_X2_play yn_X2_play.cls { frames := 1, cells := 0, slots := 0, locals := 22 } 3) (cq : zq_v (zF E) X (wc_c E r)) (h : cW_play_j96 G x1 s0 s1 = some r) : zj (zF E) X 0 0 (wc_c E G) 96 [some (.ref (ad_p E 1)), some (.int x1), none] [.int s1, .int s0, .ref (ad_p E 21)] := by
  unfold cW_play_j96 at h
  refine zz_iast cx 21 0 rfl rfl h (ws2 := (wc_c E (gs_sa G 18 s0 s1))) (wc_c_a18 E _ _ _) dn_X2_play_96 (fun h => ?_)
  refine zz_aload_n cx dn_X2_play_97 rfl rfl ?_
  refine zz_dup cx dn_X2_play_98 rfl ?_
  refine zz_get cx zi_X2 (v := .int (G.1 0)) (ci := 2) rfl 1 9 rfl (by decide) zk_X2_67 rfl dn_X2_play_99 ?_
  refine zz_iconst cx dn_X2_play_102 (v := (1 : Int32)) (by decide) ?_
  refine zz_iadd cx dn_X2_play_103 ?_
  refine zz_put cx (ws2 := (wc_c E (gs_sv (gs_sa G 18 s0 s1) 0 ((G.1 0) + (1 : Int32))))) (ty := .int) (ci := 2) zi_X2 fk_X2 nm_X2 rfl 1 9 rfl (by decide) zk_X2_67 rfl (by decide +kernel) rfl rfl (Nat.le_of_ble_eq_true rfl) (wc_c_s0 E _ _) dn_X2_play_104 ?_
  refine zz_aload_n cx dn_X2_play_107 rfl rfl ?_
  refine zz_get cx zi_X2 (v := .ref (ad_p E 22)) (ci := 2) rfl 1 5 rfl (by decide) zk_X2_31 rfl dn_X2_play_108 ?_
  refine zz_iload_n cx dn_X2_play_111 rfl rfl ?_
  refine zz_dup2 cx dn_X2_play_112 rfl rfl ?_
  refine zz_iald cx 22 0 rfl rfl h (v := (gs_a G 19 x1)) rfl dn_X2_play_113 (fun h => ?_)
  refine zz_iconst cx dn_X2_play_114 (v := (1 : Int32)) (by decide) ?_
  refine zz_iadd cx dn_X2_play_115 ?_
  refine zz_iast cx 22 0 rfl rfl h (ws2 := (wc_c E (gs_sa (gs_sv (gs_sa G 18 s0 s1) 0 ((G.1 0) + (1 : Int32))) 19 x1 ((gs_a G 19 x1) + (1 : Int32))))) (wc_c_a19 E _ _ _) dn_X2_play_116 (fun h => ?_)
  obtain rfl := Option.some.inj h
  exact zz_vret cx cq (by decide) (by decide) dn_X2_play_117
set_option maxHeartbeats 4000000 in
set_option maxRecDepth 100000 in
theorem z_cW_play_j65 (E : ze_T) (G : gs_T) (x1 x2 s0 s1 : Int32) (r : gs_T) (X : zx_T) (cx : zx (zF E) X cn_X2_play yn_X2_play.cls { frames := 1, cells := 0, slots := 0, locals := 22 } 3) (cq : zq_v (zF E) X (wc_c E r)) (h : cW_play_j65 G x1 x2 s0 s1 = some r) : zj (zF E) X 0 0 (wc_c E G) 65 [some (.ref (ad_p E 1)), some (.int x1), some (.int x2)] [.int s1, .int s0, .ref (ad_p E 20)] := by
  unfold cW_play_j65 at h
  refine zz_iast cx 20 0 rfl rfl h (ws2 := (wc_c E (gs_sa G 17 s0 s1))) (wc_c_a17 E _ _ _) dn_X2_play_65 (fun h => ?_)
  refine zz_aload_n cx dn_X2_play_66 rfl rfl ?_
  refine zz_get cx zi_X2 (v := .ref (ad_p E 21)) (ci := 2) rfl 1 4 rfl (by decide) zk_X2_28 rfl dn_X2_play_67 ?_
  refine zz_aload_n cx dn_X2_play_70 rfl rfl ?_
  refine zz_get cx zi_X2 (v := .int (G.1 0)) (ci := 2) rfl 1 9 rfl (by decide) zk_X2_67 rfl dn_X2_play_71 ?_
  refine zz_iload_n cx dn_X2_play_74 rfl rfl ?_
  refine zz_if_ne cx (tgt := 82) dn_X2_play_75 (by decide) h (fun h => ?_) (fun h => ?_)
  · refine zz_iconst cx dn_X2_play_78 (v := (0 : Int32)) (by decide) ?_
    refine zz_goto cx dn_X2_play_79 (tgt := 96) (by decide) ?_
    refine zz_less (L2 := [some (.ref (ad_p E 1)), some (.int x1), none]) (⟨rfl, rfl, trivial⟩) ?_
    exact z_cW_play_j96 E (gs_sa G 17 s0 s1) x1 (G.1 0) (0 : Int32) _ X cx cq h
  · refine zz_aload_n cx dn_X2_play_82 rfl rfl ?_
    refine zz_get cx zi_X2 (v := .ref (ad_p E 24)) (ci := 2) rfl 1 7 rfl (by decide) zk_X2_37 rfl dn_X2_play_83 ?_
    refine zz_aload_n cx dn_X2_play_86 rfl rfl ?_
    refine zz_get cx zi_X2 (v := .ref (ad_p E 2)) (ci := 2) rfl 1 0 rfl (by decide) zk_X2_12 rfl dn_X2_play_87 ?_
    refine zz_iload_n cx dn_X2_play_90 rfl rfl ?_
    refine zz_iconst cx dn_X2_play_91 (v := (0 : Int32)) (by decide) ?_
    refine gs_bind h (fun q1 e_q1 h => ?_)
    refine zz_callVNi cx (As := [.int x1, .int (0 : Int32)]) (rest := [.ref (ad_p E 24), .int (G.1 0), .ref (ad_p E 21)]) (c2 := 0) (s2 := 0) (z_cS_repeatAround E (gs_sa G 17 s0 s1) x1 (0 : Int32) _ e_q1) zm_X1_repeatAround zk_X2_132 zv_X1_repeatAround 2 rfl rfl (by decide) rfl (Nat.le_of_ble_eq_true rfl) rfl rfl (by decide) (wc_c_addr E _ _) dn_X2_play_92 ?_
    refine zz_iald cx 24 0 rfl rfl h (v := (gs_a G 21 q1)) rfl dn_X2_play_95 (fun h => ?_)
    refine zz_less (L2 := [some (.ref (ad_p E 1)), some (.int x1), none]) (⟨rfl, rfl, trivial⟩) ?_
    exact z_cW_play_j96 E (gs_sa G 17 s0 s1) x1 (G.1 0) (gs_a G 21 q1) _ X cx cq h
set_option maxHeartbeats 4000000 in
set_option maxRecDepth 100000 in
theorem z_cW_play (E : ze_T) (G : gs_T) (x1 : Int32) (r : gs_T) (h : cW_play G x1 = some r) : zc_v (zF E) (wc_c E G) (wc_c E r) yn_X2_play cn_X2_play 3 { frames := 1, cells := 0, slots := 0, locals := 22 } [.ref (ad_p E 1), .int x1] := by
  unfold cW_play at h
  refine zc_v_of (by decide) rfl (Nat.le_of_ble_eq_true rfl) (fun X cx cq => ?_)
  refine zz_aload_n cx dn_X2_play_0 rfl rfl ?_
  refine zz_get cx zi_X2 (v := .ref (ad_p E 2)) (ci := 2) rfl 1 0 rfl (by decide) zk_X2_12 rfl dn_X2_play_1 ?_
  refine zz_getN cx zi_X1 (v := .ref (ad_p E 16)) (ci := 1) rfl 2 13 rfl (by decide) zk_X2_129 rfl dn_X2_play_4 ?_
  refine zz_iload_n cx dn_X2_play_7 rfl rfl ?_
  refine zz_iald cx 16 0 rfl rfl h (v := (gs_a G 13 x1)) rfl dn_X2_play_8 (fun h => ?_)
  refine zz_istore_n cx dn_X2_play_9 rfl (by decide) rfl ?_
  refine zz_aload_n cx dn_X2_play_10 rfl rfl ?_
  refine zz_get cx zi_X2 (v := .ref (ad_p E 18)) (ci := 2) rfl 1 1 rfl (by decide) zk_X2_18 rfl dn_X2_play_11 ?_
  refine zz_aload_n cx dn_X2_play_14 rfl rfl ?_
  refine zz_get cx zi_X2 (v := .int (G.1 0)) (ci := 2) rfl 1 9 rfl (by decide) zk_X2_67 rfl dn_X2_play_15 ?_
  refine zz_iload_n cx dn_X2_play_18 rfl rfl ?_
  refine zz_iast cx 18 0 rfl rfl h (ws2 := (wc_c E (gs_sa G 15 (G.1 0) x1))) (wc_c_a15 E _ _ _) dn_X2_play_19 (fun h => ?_)
  refine zz_aload_n cx dn_X2_play_20 rfl rfl ?_
  refine zz_get cx zi_X2 (v := .ref (ad_p E 19)) (ci := 2) rfl 1 2 rfl (by decide) zk_X2_22 rfl dn_X2_play_21 ?_
  refine zz_aload_n cx dn_X2_play_24 rfl rfl ?_
  refine zz_get cx zi_X2 (v := .int (G.1 0)) (ci := 2) rfl 1 9 rfl (by decide) zk_X2_67 rfl dn_X2_play_25 ?_
  refine zz_aload_n cx dn_X2_play_28 rfl rfl ?_
  refine zz_get cx zi_X2 (v := .int (G.1 1)) (ci := 2) rfl 1 10 rfl (by decide) zk_X2_70 rfl dn_X2_play_29 ?_
  refine zz_iast cx 19 0 rfl rfl h (ws2 := (wc_c E (gs_sa (gs_sa G 15 (G.1 0) x1) 16 (G.1 0) (G.1 1)))) (wc_c_a16 E _ _ _) dn_X2_play_32 (fun h => ?_)
  refine zz_aload_n cx dn_X2_play_33 rfl rfl ?_
  refine zz_get cx zi_X2 (v := .ref (ad_p E 20)) (ci := 2) rfl 1 3 rfl (by decide) zk_X2_25 rfl dn_X2_play_34 ?_
  refine zz_aload_n cx dn_X2_play_37 rfl rfl ?_
  refine zz_get cx zi_X2 (v := .int (G.1 0)) (ci := 2) rfl 1 9 rfl (by decide) zk_X2_67 rfl dn_X2_play_38 ?_
  refine zz_iload_n cx dn_X2_play_41 rfl rfl ?_
  refine zz_if_ne cx (tgt := 49) dn_X2_play_42 (by decide) h (fun h => ?_) (fun h => ?_)
  · refine zz_iconst cx dn_X2_play_45 (v := (0 : Int32)) (by decide) ?_
    refine zz_goto cx dn_X2_play_46 (tgt := 65) (by decide) ?_
    exact z_cW_play_j65 E (gs_sa (gs_sa G 15 (G.1 0) x1) 16 (G.1 0) (G.1 1)) x1 (gs_a G 13 x1) (G.1 0) (0 : Int32) _ X cx cq h
  · refine zz_aload_n cx dn_X2_play_49 rfl rfl ?_
    refine zz_get cx zi_X2 (v := .ref (ad_p E 24)) (ci := 2) rfl 1 7 rfl (by decide) zk_X2_37 rfl dn_X2_play_50 ?_
    refine zz_aload_n cx dn_X2_play_53 rfl rfl ?_
    refine zz_get cx zi_X2 (v := .ref (ad_p E 2)) (ci := 2) rfl 1 0 rfl (by decide) zk_X2_12 rfl dn_X2_play_54 ?_
    refine zz_iload_n cx dn_X2_play_57 rfl rfl ?_
    refine zz_iload_n cx dn_X2_play_58 rfl rfl ?_
    refine zz_iconst cx dn_X2_play_59 (v := (1 : Int32)) (by decide) ?_
    refine zz_isub cx dn_X2_play_60 ?_
    refine gs_bind h (fun q1 e_q1 h => ?_)
    refine zz_callVNi cx (As := [.int x1, .int ((gs_a G 13 x1) - (1 : Int32))]) (rest := [.ref (ad_p E 24), .int (G.1 0), .ref (ad_p E 20)]) (c2 := 0) (s2 := 0) (z_cS_repeatAround E (gs_sa (gs_sa G 15 (G.1 0) x1) 16 (G.1 0) (G.1 1)) x1 ((gs_a G 13 x1) - (1 : Int32)) _ e_q1) zm_X1_repeatAround zk_X2_132 zv_X1_repeatAround 2 rfl rfl (by decide) rfl (Nat.le_of_ble_eq_true rfl) rfl rfl (by decide) (wc_c_addr E _ _) dn_X2_play_61 ?_
    refine zz_iald cx 24 0 rfl rfl h (v := (gs_a G 21 q1)) rfl dn_X2_play_64 (fun h => ?_)
    exact z_cW_play_j65 E (gs_sa (gs_sa G 15 (G.1 0) x1) 16 (G.1 0) (G.1 1)) x1 (gs_a G 13 x1) (G.1 0) (gs_a G 21 q1) _ X cx cq h
set_option maxHeartbeats 4000000 in
set_option maxRecDepth 100000 in
theorem z_cW_isInLastPasses_2 (E : ze_T) (n : Nat) (G : gs_T) (x1 : Int32) (r : Int32) (X : zx_T) (cx : zx (zF E) X cn_X2_isInLastPasses yn_X2_isInLastPasses.cls { frames := 1, cells := 0, slots := 0, locals := 22 } 4) (cq : zq_i (zF E) X (wc_c E G) .boolean r) : ∀ (k : Nat) (x2 : Int32), cW_isInLastPasses_2 n G x1 k x2 = some r → zj (zF E) X 0 0 (wc_c E G) 2 [some (.ref (ad_p E 1)), some (.int x1), some (.int x2), none] [] := by
  intro k
  induction k with
  | zero => intro x2 h; cases h
  | succ k ih =>
    intro x2 h
    rw [cW_isInLastPasses_2] at h
    refine zz_iload_n cx dn_X2_isInLastPasses_2 rfl rfl ?_
    refine zz_aload_n cx dn_X2_isInLastPasses_3 rfl rfl ?_
    refine zz_get cx zi_X2 (v := .ref (ad_p E 2)) (ci := 2) rfl 1 0 rfl (by decide) zk_X2_12 rfl dn_X2_isInLastPasses_4 ?_
    refine zz_getN cx zi_X1 (v := .ref (ad_p E 16)) (ci := 1) rfl 2 13 rfl (by decide) zk_X2_129 rfl dn_X2_isInLastPasses_7 ?_
    refine zz_iload_n cx dn_X2_isInLastPasses_10 rfl rfl ?_
    refine zz_iald cx 16 0 rfl rfl h (v := (gs_a G 13 x1)) rfl dn_X2_isInLastPasses_11 (fun h => ?_)
    refine zz_icmp_ge cx (tgt := 51) dn_X2_isInLastPasses_12 (by decide) h (fun h => ?_) (fun h => ?_)
    · refine zz_iconst cx dn_X2_isInLastPasses_51 (v := (1 : Int32)) (by decide) ?_
      obtain rfl := Option.some.inj h
      exact zz_zret cx cq rfl (by decide) (by decide) dn_X2_isInLastPasses_52
    · refine zz_aload_n cx dn_X2_isInLastPasses_15 rfl rfl ?_
      refine zz_get cx zi_X2 (v := .ref (ad_p E 2)) (ci := 2) rfl 1 0 rfl (by decide) zk_X2_12 rfl dn_X2_isInLastPasses_16 ?_
      refine zz_iload_n cx dn_X2_isInLastPasses_19 rfl rfl ?_
      refine zz_iload_n cx dn_X2_isInLastPasses_20 rfl rfl ?_
      refine gs_bind h (fun q1 e_q1 h => ?_)
      refine zz_callVNi cx (As := [.int x1, .int x2]) (rest := []) (c2 := 0) (s2 := 0) (z_cS_repeatAround E G x1 x2 _ e_q1) zm_X1_repeatAround zk_X2_132 zv_X1_repeatAround 2 rfl rfl (by decide) rfl (Nat.le_of_ble_eq_true rfl) rfl rfl (by decide) (wc_c_addr E _ _) dn_X2_isInLastPasses_21 ?_
      refine zz_istore_n cx dn_X2_isInLastPasses_24 rfl (by decide) rfl ?_
      refine zz_aload_n cx dn_X2_isInLastPasses_25 rfl rfl ?_
      refine zz_get cx zi_X2 (v := .ref (ad_p E 24)) (ci := 2) rfl 1 7 rfl (by decide) zk_X2_37 rfl dn_X2_isInLastPasses_26 ?_
      refine zz_iload_n cx dn_X2_isInLastPasses_29 rfl rfl ?_
      refine zz_iald cx 24 0 rfl rfl h (v := (gs_a G 21 q1)) rfl dn_X2_isInLastPasses_30 (fun h => ?_)
      refine zz_aload_n cx dn_X2_isInLastPasses_31 rfl rfl ?_
      refine zz_get cx zi_X2 (v := .ref (ad_p E 2)) (ci := 2) rfl 1 0 rfl (by decide) zk_X2_12 rfl dn_X2_isInLastPasses_32 ?_
      refine zz_getN cx zi_X1 (v := .ref (ad_p E 6)) (ci := 1) rfl 2 3 rfl (by decide) zk_X2_136 rfl dn_X2_isInLastPasses_35 ?_
      refine zz_iload_n cx dn_X2_isInLastPasses_38 rfl rfl ?_
      refine zz_iald cx 6 0 rfl rfl h (v := (gs_a G 3 q1)) rfl dn_X2_isInLastPasses_39 (fun h => ?_)
      refine zz_icmp_ge cx (tgt := 45) dn_X2_isInLastPasses_40 (by decide) h (fun h => ?_) (fun h => ?_)
      · refine zz_iinc cx dn_X2_isInLastPasses_45 (d := (1 : Int32)) rfl (by decide) (by decide) rfl ?_
        refine zz_goto cx dn_X2_isInLastPasses_48 (tgt := 2) (by decide) ?_
        refine zz_less (L2 := [some (.ref (ad_p E 1)), some (.int x1), some (.int (x2 + (1 : Int32))), none]) (⟨rfl, rfl, rfl, trivial⟩) ?_
        exact ih (x2 + (1 : Int32)) h
      · refine zz_iconst cx dn_X2_isInLastPasses_43 (v := (0 : Int32)) (by decide) ?_
        obtain rfl := Option.some.inj h
        exact zz_zret cx cq rfl (by decide) (by decide) dn_X2_isInLastPasses_44
set_option maxHeartbeats 4000000 in
set_option maxRecDepth 100000 in
theorem z_cW_isInLastPasses (E : ze_T) (n : Nat) (G : gs_T) (x1 : Int32) (r : Int32) (h : cW_isInLastPasses n G x1 = some r) : zc_i (zF E) (wc_c E G) (wc_c E G) yn_X2_isInLastPasses cn_X2_isInLastPasses 4 .boolean { frames := 1, cells := 0, slots := 0, locals := 22 } [.ref (ad_p E 1), .int x1] r := by
  unfold cW_isInLastPasses at h
  refine zc_i_of (by decide) rfl (Nat.le_of_ble_eq_true rfl) (fun X cx cq => ?_)
  refine zz_iconst cx dn_X2_isInLastPasses_0 (v := (0 : Int32)) (by decide) ?_
  refine zz_istore_n cx dn_X2_isInLastPasses_1 rfl (by decide) rfl ?_
  exact z_cW_isInLastPasses_2 E n G x1 _ X cx cq n (0 : Int32) h
set_option maxHeartbeats 4000000 in
set_option maxRecDepth 100000 in
theorem z_cW_isLatestJumpTill (E : ze_T) (G : gs_T) (x1 : Int32) (r : Int32) (h : cW_isLatestJumpTill G x1 = some r) : zc_i (zF E) (wc_c E G) (wc_c E G) yn_X2_isLatestJumpTill cn_X2_isLatestJumpTill 2 .boolean { frames := 0, cells := 0, slots := 0, locals := 0 } [.ref (ad_p E 1), .int x1] r := by
  unfold cW_isLatestJumpTill at h
  refine zc_i_of (by decide) rfl (Nat.le_of_ble_eq_true rfl) (fun X cx cq => ?_)
  refine zz_aload_n cx dn_X2_isLatestJumpTill_0 rfl rfl ?_
  refine zz_get cx zi_X2 (v := .int (G.1 2)) (ci := 2) rfl 1 11 rfl (by decide) zk_X2_44 rfl dn_X2_isLatestJumpTill_1 ?_
  refine zz_iconst cx dn_X2_isLatestJumpTill_4 (v := (-1 : Int32)) (by decide) ?_
  refine zz_icmp_eq cx (tgt := 28) dn_X2_isLatestJumpTill_5 (by decide) h (fun h => ?_) (fun h => ?_)
  · refine zz_iconst cx dn_X2_isLatestJumpTill_28 (v := (0 : Int32)) (by decide) ?_
    obtain rfl := Option.some.inj h
    exact zz_zret cx cq rfl (by decide) (by decide) dn_X2_isLatestJumpTill_29
  · refine zz_aload_n cx dn_X2_isLatestJumpTill_8 rfl rfl ?_
    refine zz_get cx zi_X2 (v := .ref (ad_p E 2)) (ci := 2) rfl 1 0 rfl (by decide) zk_X2_12 rfl dn_X2_isLatestJumpTill_9 ?_
    refine zz_getN cx zi_X1 (v := .ref (ad_p E 13)) (ci := 1) rfl 2 10 rfl (by decide) zk_X2_164 rfl dn_X2_isLatestJumpTill_12 ?_
    refine zz_aload_n cx dn_X2_isLatestJumpTill_15 rfl rfl ?_
    refine zz_get cx zi_X2 (v := .int (G.1 2)) (ci := 2) rfl 1 11 rfl (by decide) zk_X2_44 rfl dn_X2_isLatestJumpTill_16 ?_
    refine zz_iald cx 13 0 rfl rfl h (v := (gs_a G 10 (G.1 2))) rfl dn_X2_isLatestJumpTill_19 (fun h => ?_)
    refine zz_iload_n cx dn_X2_isLatestJumpTill_20 rfl rfl ?_
    refine zz_icmp_ne cx (tgt := 28) dn_X2_isLatestJumpTill_21 (by decide) h (fun h => ?_) (fun h => ?_)
    · refine zz_iconst cx dn_X2_isLatestJumpTill_24 (v := (1 : Int32)) (by decide) ?_
      refine zz_goto cx dn_X2_isLatestJumpTill_25 (tgt := 29) (by decide) ?_
      obtain rfl := Option.some.inj h
      exact zz_zret cx cq rfl (by decide) (by decide) dn_X2_isLatestJumpTill_29
    · refine zz_iconst cx dn_X2_isLatestJumpTill_28 (v := (0 : Int32)) (by decide) ?_
      obtain rfl := Option.some.inj h
      exact zz_zret cx cq rfl (by decide) (by decide) dn_X2_isLatestJumpTill_29
set_option maxHeartbeats 4000000 in
set_option maxRecDepth 100000 in
theorem z_cW_act (E : ze_T) (G : gs_T) (x1 : Int32) (r : (Int32 × gs_T)) (h : cW_act G x1 = some r) : zc_i (zF E) (wc_c E G) (wc_c E r.2) yn_X2_act cn_X2_act 2 .int { frames := 2, cells := 0, slots := 0, locals := 43 } [.ref (ad_p E 1), .int x1] r.1 := by
  unfold cW_act at h
  refine zc_i_of (by decide) rfl (Nat.le_of_ble_eq_true rfl) (fun X cx cq => ?_)
  refine zz_aload_n cx dn_X2_act_0 rfl rfl ?_
  refine zz_get cx zi_X2 (v := .ref (ad_p E 25)) (ci := 2) rfl 1 8 rfl (by decide) zk_X2_40 rfl dn_X2_act_1 ?_
  refine zz_iload_n cx dn_X2_act_4 rfl rfl ?_
  refine zz_iconst cx dn_X2_act_5 (v := (1 : Int32)) (by decide) ?_
  refine zz_zast cx 25 1 rfl rfl h (ws2 := (wc_c E (gs_sa G 22 x1 (vp_nar .boolean (1 : Int32))))) (wc_c_a22 E _ _ _) dn_X2_act_6 (fun h => ?_)
  refine zz_aload_n cx dn_X2_act_7 rfl rfl ?_
  refine zz_iload_n cx dn_X2_act_8 rfl rfl ?_
  refine zz_put cx (ws2 := (wc_c E (gs_sv (gs_sa G 22 x1 (vp_nar .boolean (1 : Int32))) 2 x1))) (ty := .int) (ci := 2) zi_X2 fk_X2 nm_X2 rfl 1 11 rfl (by decide) zk_X2_44 rfl (by decide +kernel) rfl rfl (Nat.le_of_ble_eq_true rfl) (wc_c_s2 E _ _) dn_X2_act_9 ?_
  refine zz_aload_n cx dn_X2_act_12 rfl rfl ?_
  refine zz_iconst cx dn_X2_act_13 (v := (0 : Int32)) (by decide) ?_
  refine zz_put cx (ws2 := (wc_c E (gs_sv (gs_sv (gs_sa G 22 x1 (vp_nar .boolean (1 : Int32))) 2 x1) 3 (0 : Int32)))) (ty := .boolean) (ci := 2) zi_X2 fk_X2 nm_X2 rfl 1 12 rfl (by decide) zk_X2_73 rfl (by decide +kernel) rfl rfl (Nat.le_of_ble_eq_true rfl) (wc_c_s3 E _ _) dn_X2_act_14 ?_
  refine zz_aload_n cx dn_X2_act_17 rfl rfl ?_
  refine zz_dup cx dn_X2_act_18 rfl ?_
  refine zz_get cx zi_X2 (v := .int (G.1 1)) (ci := 2) rfl 1 10 rfl (by decide) zk_X2_70 rfl dn_X2_act_19 ?_
  refine zz_iconst cx dn_X2_act_22 (v := (1 : Int32)) (by decide) ?_
  refine zz_iadd cx dn_X2_act_23 ?_
  refine zz_put cx (ws2 := (wc_c E (gs_sv (gs_sv (gs_sv (gs_sa G 22 x1 (vp_nar .boolean (1 : Int32))) 2 x1) 3 (0 : Int32)) 1 ((G.1 1) + (1 : Int32))))) (ty := .int) (ci := 2) zi_X2 fk_X2 nm_X2 rfl 1 10 rfl (by decide) zk_X2_70 rfl (by decide +kernel) rfl rfl (Nat.le_of_ble_eq_true rfl) (wc_c_s1 E _ _) dn_X2_act_24 ?_
  refine zz_aload_n cx dn_X2_act_27 rfl rfl ?_
  refine gs_bind h (fun q1 e_q1 h => ?_)
  refine zz_callVv cx (As := []) (rest := []) (c2 := 0) (s2 := 0) (z_cW_leaveAll E (gs_sv (gs_sv (gs_sv (gs_sa G 22 x1 (vp_nar .boolean (1 : Int32))) 2 x1) 3 (0 : Int32)) 1 ((G.1 1) + (1 : Int32))) _ e_q1) zm_X2_leaveAll zk_X2_83 zv_X2_leaveAll 1 rfl rfl (by decide) rfl (Nat.le_of_ble_eq_true rfl) rfl rfl (by decide) (wc_c_addr E _ _) dn_X2_act_28 ?_
  refine zz_aload_n cx dn_X2_act_31 rfl rfl ?_
  refine zz_get cx zi_X2 (v := .ref (ad_p E 2)) (ci := 2) rfl 1 0 rfl (by decide) zk_X2_12 rfl dn_X2_act_32 ?_
  refine zz_getN cx zi_X1 (v := .ref (ad_p E 12)) (ci := 1) rfl 2 9 rfl (by decide) zk_X2_167 rfl dn_X2_act_35 ?_
  refine zz_iload_n cx dn_X2_act_38 rfl rfl ?_
  refine zz_iald cx 12 0 rfl rfl h (v := (gs_a q1 9 x1)) rfl dn_X2_act_39 (fun h => ?_)
  refine zz_iconst cx dn_X2_act_40 (v := (1 : Int32)) (by decide) ?_
  refine zz_icmp_ne cx (tgt := 56) dn_X2_act_41 (by decide) h (fun h => ?_) (fun h => ?_)
  · refine zz_aload_n cx dn_X2_act_44 rfl rfl ?_
    refine zz_get cx zi_X2 (v := .ref (ad_p E 2)) (ci := 2) rfl 1 0 rfl (by decide) zk_X2_12 rfl dn_X2_act_45 ?_
    refine zz_getN cx zi_X1 (v := .ref (ad_p E 11)) (ci := 1) rfl 2 8 rfl (by decide) zk_X2_155 rfl dn_X2_act_48 ?_
    refine zz_iconst cx dn_X2_act_51 (v := (0 : Int32)) (by decide) ?_
    refine zz_iald cx 11 0 rfl rfl h (v := (gs_a q1 8 (0 : Int32))) rfl dn_X2_act_52 (fun h => ?_)
    refine zz_goto cx dn_X2_act_53 (tgt := 57) (by decide) ?_
    obtain rfl := Option.some.inj h
    exact zz_iret cx cq (by decide) (by decide) dn_X2_act_57
  · refine zz_iconst cx dn_X2_act_56 (v := (0 : Int32)) (by decide) ?_
    obtain rfl := Option.some.inj h
    exact zz_iret cx cq (by decide) (by decide) dn_X2_act_57
set_option maxHeartbeats 4000000 in
set_option maxRecDepth 100000 in
theorem z_cW_behind_j84 (E : ze_T) (n : Nat) (G : gs_T) (x1 : Int32) (r : (Int32 × gs_T)) (X : zx_T) (cx : zx (zF E) X cn_X2_behind yn_X2_behind.cls { frames := 3, cells := 0, slots := 0, locals := 64 } 2) (cq : zq_i (zF E) X (wc_c E r.2) .int r.1) (h : cW_behind_j84 n G x1 = some r) : zj (zF E) X 0 0 (wc_c E G) 84 [some (.ref (ad_p E 1)), some (.int x1)] [] := by
  unfold cW_behind_j84 at h
  refine zz_aload_n cx dn_X2_behind_84 rfl rfl ?_
  refine zz_get cx zi_X2 (v := .ref (ad_p E 2)) (ci := 2) rfl 1 0 rfl (by decide) zk_X2_12 rfl dn_X2_behind_85 ?_
  refine zz_iload_n cx dn_X2_behind_88 rfl rfl ?_
  refine gs_bind h (fun q1 e_q1 h => ?_)
  refine zz_callVNi cx (As := [.int x1]) (rest := []) (c2 := 0) (s2 := 0) (z_cS_hasJump E G x1 _ e_q1) zm_X1_hasJump zk_X2_89 zv_X1_hasJump 2 rfl rfl (by decide) rfl (Nat.le_of_ble_eq_true rfl) rfl rfl (by decide) (wc_c_addr E _ _) dn_X2_behind_89 ?_
  refine zz_if_eq cx (tgt := 110) dn_X2_behind_92 (by decide) h (fun h => ?_) (fun h => ?_)
  · refine zz_aload_n cx dn_X2_behind_110 rfl rfl ?_
    refine zz_iload_n cx dn_X2_behind_111 rfl rfl ?_
    refine gs_bind h (fun q2 e_q2 h => ?_)
    refine zz_callVi cx (As := [.int x1]) (rest := []) (c2 := 0) (s2 := 0) (z_cW_endOf E n G x1 _ e_q2) zm_X2_endOf zk_X2_117 zv_X2_endOf 1 rfl rfl (by decide) rfl (Nat.le_of_ble_eq_true rfl) rfl rfl (by decide) (wc_c_addr E _ _) dn_X2_behind_112 ?_
    obtain rfl := Option.some.inj h
    exact zz_iret cx cq (by decide) (by decide) dn_X2_behind_115
  · refine zz_aload_n cx dn_X2_behind_95 rfl rfl ?_
    refine zz_get cx zi_X2 (v := .ref (ad_p E 25)) (ci := 2) rfl 1 8 rfl (by decide) zk_X2_40 rfl dn_X2_behind_96 ?_
    refine zz_iload_n cx dn_X2_behind_99 rfl rfl ?_
    refine zz_zald cx 25 1 rfl rfl h (v := (gs_a G 22 x1)) rfl dn_X2_behind_100 (fun h => ?_)
    refine zz_if_ne cx (tgt := 110) dn_X2_behind_101 (by decide) h (fun h => ?_) (fun h => ?_)
    · refine zz_aload_n cx dn_X2_behind_104 rfl rfl ?_
      refine zz_iload_n cx dn_X2_behind_105 rfl rfl ?_
      refine gs_bind h (fun q4 e_q4 h => ?_)
      refine zz_callVi cx (As := [.int x1]) (rest := []) (c2 := 0) (s2 := 0) (z_cW_act E G x1 _ e_q4) zm_X2_act zk_X2_161 zv_X2_act 1 rfl rfl (by decide) rfl (Nat.le_of_ble_eq_true rfl) rfl rfl (by decide) (wc_c_addr E _ _) dn_X2_behind_106 ?_
      obtain rfl := Option.some.inj h
      exact zz_iret cx cq (by decide) (by decide) dn_X2_behind_109
    · refine zz_aload_n cx dn_X2_behind_110 rfl rfl ?_
      refine zz_iload_n cx dn_X2_behind_111 rfl rfl ?_
      refine gs_bind h (fun q3 e_q3 h => ?_)
      refine zz_callVi cx (As := [.int x1]) (rest := []) (c2 := 0) (s2 := 0) (z_cW_endOf E n G x1 _ e_q3) zm_X2_endOf zk_X2_117 zv_X2_endOf 1 rfl rfl (by decide) rfl (Nat.le_of_ble_eq_true rfl) rfl rfl (by decide) (wc_c_addr E _ _) dn_X2_behind_112 ?_
      obtain rfl := Option.some.inj h
      exact zz_iret cx cq (by decide) (by decide) dn_X2_behind_115
set_option maxHeartbeats 4000000 in
set_option maxRecDepth 100000 in
theorem z_cW_behind_j37 (E : ze_T) (n : Nat) (G : gs_T) (x1 : Int32) (r : (Int32 × gs_T)) (X : zx_T) (cx : zx (zF E) X cn_X2_behind yn_X2_behind.cls { frames := 3, cells := 0, slots := 0, locals := 64 } 2) (cq : zq_i (zF E) X (wc_c E r.2) .int r.1) (h : cW_behind_j37 n G x1 = some r) : zj (zF E) X 0 0 (wc_c E G) 37 [some (.ref (ad_p E 1)), some (.int x1)] [] := by
  unfold cW_behind_j37 at h
  refine zz_aload_n cx dn_X2_behind_37 rfl rfl ?_
  refine zz_get cx zi_X2 (v := .ref (ad_p E 2)) (ci := 2) rfl 1 0 rfl (by decide) zk_X2_12 rfl dn_X2_behind_38 ?_
  refine zz_getN cx zi_X1 (v := .ref (ad_p E 11)) (ci := 1) rfl 2 8 rfl (by decide) zk_X2_155 rfl dn_X2_behind_41 ?_
  refine zz_iconst cx dn_X2_behind_44 (v := (2 : Int32)) (by decide) ?_
  refine zz_iald cx 11 0 rfl rfl h (v := (gs_a G 8 (2 : Int32))) rfl dn_X2_behind_45 (fun h => ?_)
  refine zz_iload_n cx dn_X2_behind_46 rfl rfl ?_
  refine zz_icmp_ne cx (tgt := 84) dn_X2_behind_47 (by decide) h (fun h => ?_) (fun h => ?_)
  · refine zz_aload_n cx dn_X2_behind_50 rfl rfl ?_
    refine zz_iconst cx dn_X2_behind_51 (v := (2 : Int32)) (by decide) ?_
    refine gs_bind h (fun q1 e_q1 h => ?_)
    refine zz_callVi cx (As := [.int (2 : Int32)]) (rest := []) (c2 := 0) (s2 := 0) (z_cW_isLatestJumpTill E G (2 : Int32) _ e_q1) zm_X2_isLatestJumpTill zk_X2_158 zv_X2_isLatestJumpTill 1 rfl rfl (by decide) rfl (Nat.le_of_ble_eq_true rfl) rfl rfl (by decide) (wc_c_addr E _ _) dn_X2_behind_52 ?_
    refine zz_if_eq cx (tgt := 84) dn_X2_behind_55 (by decide) h (fun h => ?_) (fun h => ?_)
    · exact z_cW_behind_j84 E n G x1 _ X cx cq h
    · refine zz_aload_n cx dn_X2_behind_58 rfl rfl ?_
      refine zz_get cx zi_X2 (v := .int (G.1 3)) (ci := 2) rfl 1 12 rfl (by decide) zk_X2_73 rfl dn_X2_behind_59 ?_
      refine zz_if_ne cx (tgt := 84) dn_X2_behind_62 (by decide) h (fun h => ?_) (fun h => ?_)
      · refine zz_aload_n cx dn_X2_behind_65 rfl rfl ?_
        refine gs_bind h (fun q2 e_q2 h => ?_)
        refine zz_callVv cx (As := []) (rest := []) (c2 := 0) (s2 := 0) (z_cW_leaveAll E G _ e_q2) zm_X2_leaveAll zk_X2_83 zv_X2_leaveAll 1 rfl rfl (by decide) rfl (Nat.le_of_ble_eq_true rfl) rfl rfl (by decide) (wc_c_addr E _ _) dn_X2_behind_66 ?_
        refine zz_aload_n cx dn_X2_behind_69 rfl rfl ?_
        refine zz_iconst cx dn_X2_behind_70 (v := (1 : Int32)) (by decide) ?_
        refine zz_put cx (ws2 := (wc_c E (gs_sv q2 3 (1 : Int32)))) (ty := .boolean) (ci := 2) zi_X2 fk_X2 nm_X2 rfl 1 12 rfl (by decide) zk_X2_73 rfl (by decide +kernel) rfl rfl (Nat.le_of_ble_eq_true rfl) (wc_c_s3 E _ _) dn_X2_behind_71 ?_
        refine zz_aload_n cx dn_X2_behind_74 rfl rfl ?_
        refine zz_get cx zi_X2 (v := .ref (ad_p E 2)) (ci := 2) rfl 1 0 rfl (by decide) zk_X2_12 rfl dn_X2_behind_75 ?_
        refine zz_getN cx zi_X1 (v := .ref (ad_p E 11)) (ci := 1) rfl 2 8 rfl (by decide) zk_X2_155 rfl dn_X2_behind_78 ?_
        refine zz_iconst cx dn_X2_behind_81 (v := (1 : Int32)) (by decide) ?_
        refine zz_iald cx 11 0 rfl rfl h (v := (gs_a q2 8 (1 : Int32))) rfl dn_X2_behind_82 (fun h => ?_)
        obtain rfl := Option.some.inj h
        exact zz_iret cx cq (by decide) (by decide) dn_X2_behind_83
      · exact z_cW_behind_j84 E n G x1 _ X cx cq h
  · exact z_cW_behind_j84 E n G x1 _ X cx cq h
set_option maxHeartbeats 4000000 in
set_option maxRecDepth 100000 in
theorem z_cW_behind (E : ze_T) (n : Nat) (G : gs_T) (x1 : Int32) (r : (Int32 × gs_T)) (h : cW_behind n G x1 = some r) : zc_i (zF E) (wc_c E G) (wc_c E r.2) yn_X2_behind cn_X2_behind 2 .int { frames := 3, cells := 0, slots := 0, locals := 64 } [.ref (ad_p E 1), .int x1] r.1 := by
  unfold cW_behind at h
  refine zc_i_of (by decide) rfl (Nat.le_of_ble_eq_true rfl) (fun X cx cq => ?_)
  refine zz_aload_n cx dn_X2_behind_0 rfl rfl ?_
  refine zz_iload_n cx dn_X2_behind_1 rfl rfl ?_
  refine gs_bind h (fun q1 e_q1 h => ?_)
  refine zz_callVi cx (As := [.int x1]) (rest := []) (c2 := 0) (s2 := 0) (z_cW_isInLastPasses E n G x1 _ e_q1) zm_X2_isInLastPasses zk_X2_152 zv_X2_isInLastPasses 1 rfl rfl (by decide) rfl (Nat.le_of_ble_eq_true rfl) rfl rfl (by decide) (wc_c_addr E _ _) dn_X2_behind_2 ?_
  refine zz_if_ne cx (tgt := 14) dn_X2_behind_5 (by decide) h (fun h => ?_) (fun h => ?_)
  · refine zz_aload_n cx dn_X2_behind_8 rfl rfl ?_
    refine zz_iload_n cx dn_X2_behind_9 rfl rfl ?_
    refine gs_bind h (fun q3 e_q3 h => ?_)
    refine zz_callVi cx (As := [.int x1]) (rest := []) (c2 := 0) (s2 := 0) (z_cW_endOf E n G x1 _ e_q3) zm_X2_endOf zk_X2_117 zv_X2_endOf 1 rfl rfl (by decide) rfl (Nat.le_of_ble_eq_true rfl) rfl rfl (by decide) (wc_c_addr E _ _) dn_X2_behind_10 ?_
    obtain rfl := Option.some.inj h
    exact zz_iret cx cq (by decide) (by decide) dn_X2_behind_13
  · refine zz_aload_n cx dn_X2_behind_14 rfl rfl ?_
    refine zz_get cx zi_X2 (v := .ref (ad_p E 2)) (ci := 2) rfl 1 0 rfl (by decide) zk_X2_12 rfl dn_X2_behind_15 ?_
    refine zz_getN cx zi_X1 (v := .ref (ad_p E 11)) (ci := 1) rfl 2 8 rfl (by decide) zk_X2_155 rfl dn_X2_behind_18 ?_
    refine zz_iconst cx dn_X2_behind_21 (v := (3 : Int32)) (by decide) ?_
    refine zz_iald cx 11 0 rfl rfl h (v := (gs_a G 8 (3 : Int32))) rfl dn_X2_behind_22 (fun h => ?_)
    refine zz_iload_n cx dn_X2_behind_23 rfl rfl ?_
    refine zz_icmp_ne cx (tgt := 37) dn_X2_behind_24 (by decide) h (fun h => ?_) (fun h => ?_)
    · refine zz_aload_n cx dn_X2_behind_27 rfl rfl ?_
      refine zz_iconst cx dn_X2_behind_28 (v := (1 : Int32)) (by decide) ?_
      refine gs_bind h (fun q2 e_q2 h => ?_)
      refine zz_callVi cx (As := [.int (1 : Int32)]) (rest := []) (c2 := 0) (s2 := 0) (z_cW_isLatestJumpTill E G (1 : Int32) _ e_q2) zm_X2_isLatestJumpTill zk_X2_158 zv_X2_isLatestJumpTill 1 rfl rfl (by decide) rfl (Nat.le_of_ble_eq_true rfl) rfl rfl (by decide) (wc_c_addr E _ _) dn_X2_behind_29 ?_
      refine zz_if_eq cx (tgt := 37) dn_X2_behind_32 (by decide) h (fun h => ?_) (fun h => ?_)
      · exact z_cW_behind_j37 E n G x1 _ X cx cq h
      · refine zz_iconst cx dn_X2_behind_35 (v := (-1 : Int32)) (by decide) ?_
        obtain rfl := Option.some.inj h
        exact zz_iret cx cq (by decide) (by decide) dn_X2_behind_36
    · exact z_cW_behind_j37 E n G x1 _ X cx cq h
set_option maxHeartbeats 4000000 in
set_option maxRecDepth 100000 in
theorem z_cW_comeTo_j57 (E : ze_T) (n : Nat) (G : gs_T) (x1 : Int32) (r : (Int32 × gs_T)) (X : zx_T) (cx : zx (zF E) X cn_X2_comeTo yn_X2_comeTo.cls { frames := 4, cells := 0, slots := 0, locals := 85 } 3) (cq : zq_i (zF E) X (wc_c E r.2) .int r.1) (h : cW_comeTo_j57 n G x1 = some r) : zj (zF E) X 0 0 (wc_c E G) 57 [some (.ref (ad_p E 1)), some (.int x1), none] [] := by
  unfold cW_comeTo_j57 at h
  refine zz_aload_n cx dn_X2_comeTo_57 rfl rfl ?_
  refine zz_get cx zi_X2 (v := .int (G.1 0)) (ci := 2) rfl 1 9 rfl (by decide) zk_X2_67 rfl dn_X2_comeTo_58 ?_
  refine zz_sipush cx dn_X2_comeTo_61 (v := (1000 : Int32)) (by decide) ?_
  refine zz_icmp_lt cx (tgt := 75) dn_X2_comeTo_64 (by decide) h (fun h => ?_) (fun h => ?_)
  · refine zz_aload_n cx dn_X2_comeTo_75 rfl rfl ?_
    refine zz_iload_n cx dn_X2_comeTo_76 rfl rfl ?_
    refine gs_bind h (fun q1 e_q1 h => ?_)
    refine zz_callVv cx (As := [.int x1]) (rest := []) (c2 := 0) (s2 := 0) (z_cW_play E G x1 _ e_q1) zm_X2_play zk_X2_120 zv_X2_play 1 rfl rfl (by decide) rfl (Nat.le_of_ble_eq_true rfl) rfl rfl (by decide) (wc_c_addr E _ _) dn_X2_comeTo_77 ?_
    refine zz_aload_n cx dn_X2_comeTo_80 rfl rfl ?_
    refine zz_iload_n cx dn_X2_comeTo_81 rfl rfl ?_
    refine gs_bind h (fun q2 e_q2 h => ?_)
    refine zz_callVi cx (As := [.int x1]) (rest := []) (c2 := 0) (s2 := 0) (z_cW_behind E n q1 x1 _ e_q2) zm_X2_behind zk_X2_123 zv_X2_behind 1 rfl rfl (by decide) rfl (Nat.le_of_ble_eq_true rfl) rfl rfl (by decide) (wc_c_addr E _ _) dn_X2_comeTo_82 ?_
    obtain rfl := Option.some.inj h
    exact zz_iret cx cq (by decide) (by decide) dn_X2_comeTo_85
  · refine zz_aload_n cx dn_X2_comeTo_67 rfl rfl ?_
    refine zz_iconst cx dn_X2_comeTo_68 (v := (4 : Int32)) (by decide) ?_
    refine zz_iload_n cx dn_X2_comeTo_69 rfl rfl ?_
    refine gs_bind h (fun q3 e_q3 h => ?_)
    refine zz_callVv cx (As := [.int (4 : Int32), .int x1]) (rest := []) (c2 := 0) (s2 := 0) (z_cW_setFault E G (4 : Int32) x1 _ e_q3) zm_X2_setFault zk_X2_57 zv_X2_setFault 1 rfl rfl (by decide) rfl (Nat.le_of_ble_eq_true rfl) rfl rfl (by decide) (wc_c_addr E _ _) dn_X2_comeTo_70 ?_
    refine zz_iconst cx dn_X2_comeTo_73 (v := (-1 : Int32)) (by decide) ?_
    obtain rfl := Option.some.inj h
    exact zz_iret cx cq (by decide) (by decide) dn_X2_comeTo_74
set_option maxHeartbeats 4000000 in
set_option maxRecDepth 100000 in
theorem z_cW_comeTo (E : ze_T) (n : Nat) (G : gs_T) (x1 : Int32) (r : (Int32 × gs_T)) (h : cW_comeTo n G x1 = some r) : zc_i (zF E) (wc_c E G) (wc_c E r.2) yn_X2_comeTo cn_X2_comeTo 3 .int { frames := 4, cells := 0, slots := 0, locals := 85 } [.ref (ad_p E 1), .int x1] r.1 := by
  unfold cW_comeTo at h
  refine zc_i_of (by decide) rfl (Nat.le_of_ble_eq_true rfl) (fun X cx cq => ?_)
  refine zz_aload_n cx dn_X2_comeTo_0 rfl rfl ?_
  refine zz_get cx zi_X2 (v := .ref (ad_p E 23)) (ci := 2) rfl 1 6 rfl (by decide) zk_X2_34 rfl dn_X2_comeTo_1 ?_
  refine zz_iload_n cx dn_X2_comeTo_4 rfl rfl ?_
  refine zz_dup2 cx dn_X2_comeTo_5 rfl rfl ?_
  refine zz_iald cx 23 0 rfl rfl h (v := (gs_a G 20 x1)) rfl dn_X2_comeTo_6 (fun h => ?_)
  refine zz_iconst cx dn_X2_comeTo_7 (v := (1 : Int32)) (by decide) ?_
  refine zz_iadd cx dn_X2_comeTo_8 ?_
  refine zz_iast cx 23 0 rfl rfl h (ws2 := (wc_c E (gs_sa G 20 x1 ((gs_a G 20 x1) + (1 : Int32))))) (wc_c_a20 E _ _ _) dn_X2_comeTo_9 (fun h => ?_)
  refine zz_aload_n cx dn_X2_comeTo_10 rfl rfl ?_
  refine zz_iload_n cx dn_X2_comeTo_11 rfl rfl ?_
  refine gs_bind h (fun q1 e_q1 h => ?_)
  refine zz_callVv cx (As := [.int x1]) (rest := []) (c2 := 0) (s2 := 0) (z_cW_openAround E n (gs_sa G 20 x1 ((gs_a G 20 x1) + (1 : Int32))) x1 _ e_q1) zm_X2_openAround zk_X2_101 zv_X2_openAround 1 rfl rfl (by decide) rfl (Nat.le_of_ble_eq_true rfl) rfl rfl (by decide) (wc_c_addr E _ _) dn_X2_comeTo_12 ?_
  refine zz_aload_n cx dn_X2_comeTo_15 rfl rfl ?_
  refine zz_get cx zi_X2 (v := .ref (ad_p E 2)) (ci := 2) rfl 1 0 rfl (by decide) zk_X2_12 rfl dn_X2_comeTo_16 ?_
  refine zz_getN cx zi_X1 (v := .ref (ad_p E 17)) (ci := 1) rfl 2 14 rfl (by decide) zk_X2_105 rfl dn_X2_comeTo_19 ?_
  refine zz_iload_n cx dn_X2_comeTo_22 rfl rfl ?_
  refine zz_iald cx 17 0 rfl rfl h (v := (gs_a q1 14 x1)) rfl dn_X2_comeTo_23 (fun h => ?_)
  refine zz_istore_n cx dn_X2_comeTo_24 rfl (by decide) rfl ?_
  refine zz_iload_n cx dn_X2_comeTo_25 rfl rfl ?_
  refine zz_iconst cx dn_X2_comeTo_26 (v := (-1 : Int32)) (by decide) ?_
  refine zz_icmp_eq cx (tgt := 57) dn_X2_comeTo_27 (by decide) h (fun h => ?_) (fun h => ?_)
  · refine zz_less (L2 := [some (.ref (ad_p E 1)), some (.int x1), none]) (⟨rfl, rfl, trivial⟩) ?_
    exact z_cW_comeTo_j57 E n q1 x1 _ X cx cq h
  · refine zz_aload_n cx dn_X2_comeTo_30 rfl rfl ?_
    refine zz_iload_n cx dn_X2_comeTo_31 rfl rfl ?_
    refine gs_bind h (fun q2 e_q2 h => ?_)
    refine zz_callVi cx (As := [.int (gs_a q1 14 x1)]) (rest := []) (c2 := 0) (s2 := 0) (z_cW_isLeftOut E q1 (gs_a q1 14 x1) _ e_q2) zm_X2_isLeftOut zk_X2_108 zv_X2_isLeftOut 1 rfl rfl (by decide) rfl (Nat.le_of_ble_eq_true rfl) rfl rfl (by decide) (wc_c_addr E _ _) dn_X2_comeTo_32 ?_
    refine zz_if_eq cx (tgt := 57) dn_X2_comeTo_35 (by decide) h (fun h => ?_) (fun h => ?_)
    · refine zz_less (L2 := [some (.ref (ad_p E 1)), some (.int x1), none]) (⟨rfl, rfl, trivial⟩) ?_
      exact z_cW_comeTo_j57 E n q1 x1 _ X cx cq h
    · refine zz_aload_n cx dn_X2_comeTo_38 rfl rfl ?_
      refine zz_iload_n cx dn_X2_comeTo_39 rfl rfl ?_
      refine gs_bind h (fun q3 e_q3 h => ?_)
      refine zz_callVv cx (As := [.int (gs_a q1 14 x1)]) (rest := []) (c2 := 0) (s2 := 0) (z_cW_leaveWithin E n q1 (gs_a q1 14 x1) _ e_q3) zm_X2_leaveWithin zk_X2_111 zv_X2_leaveWithin 1 rfl rfl (by decide) rfl (Nat.le_of_ble_eq_true rfl) rfl rfl (by decide) (wc_c_addr E _ _) dn_X2_comeTo_40 ?_
      refine zz_aload_n cx dn_X2_comeTo_43 rfl rfl ?_
      refine zz_aload_n cx dn_X2_comeTo_44 rfl rfl ?_
      refine zz_get cx zi_X2 (v := .ref (ad_p E 2)) (ci := 2) rfl 1 0 rfl (by decide) zk_X2_12 rfl dn_X2_comeTo_45 ?_
      refine zz_getN cx zi_X1 (v := .ref (ad_p E 9)) (ci := 1) rfl 2 6 rfl (by decide) zk_X2_114 rfl dn_X2_comeTo_48 ?_
      refine zz_iload_n cx dn_X2_comeTo_51 rfl rfl ?_
      refine zz_iald cx 9 0 rfl rfl h (v := (gs_a q3 6 (gs_a q1 14 x1))) rfl dn_X2_comeTo_52 (fun h => ?_)
      refine gs_bind h (fun q4 e_q4 h => ?_)
      refine zz_callVi cx (As := [.int (gs_a q3 6 (gs_a q1 14 x1))]) (rest := []) (c2 := 0) (s2 := 0) (z_cW_endOf E n q3 (gs_a q3 6 (gs_a q1 14 x1)) _ e_q4) zm_X2_endOf zk_X2_117 zv_X2_endOf 1 rfl rfl (by decide) rfl (Nat.le_of_ble_eq_true rfl) rfl rfl (by decide) (wc_c_addr E _ _) dn_X2_comeTo_53 ?_
      obtain rfl := Option.some.inj h
      exact zz_iret cx cq (by decide) (by decide) dn_X2_comeTo_56
set_option maxHeartbeats 4000000 in
set_option maxRecDepth 100000 in
theorem z_cW_playFromFirstBar_18 (E : ze_T) (n : Nat) (r : gs_T) (X : zx_T) (cx : zx (zF E) X cn_X2_playFromFirstBar yn_X2_playFromFirstBar.cls { frames := 5, cells := 0, slots := 0, locals := 107 } 3) (cq : zq_v (zF E) X (wc_c E r)) : ∀ (k : Nat) (x1 : Int32) (x2 : Int32) (G : gs_T), cW_playFromFirstBar_18 n k x1 x2 G = some r → zj (zF E) X 0 0 (wc_c E G) 18 [some (.ref (ad_p E 1)), some (.int x1), some (.int x2)] [] := by
  intro k
  induction k with
  | zero => intro x1 x2 G h; cases h
  | succ k ih =>
    intro x1 x2 G h
    rw [cW_playFromFirstBar_18] at h
    refine zz_iload_n cx dn_X2_playFromFirstBar_18 rfl rfl ?_
    refine zz_ldc cx zk_X2_97 dn_X2_playFromFirstBar_19 ?_
    refine zz_icmp_ge cx (tgt := 41) dn_X2_playFromFirstBar_21 (by decide) h (fun h => ?_) (fun h => ?_)
    · obtain rfl := Option.some.inj h
      exact zz_vret cx cq (by decide) (by decide) dn_X2_playFromFirstBar_41
    · refine zz_iload_n cx dn_X2_playFromFirstBar_24 rfl rfl ?_
      refine zz_iconst cx dn_X2_playFromFirstBar_25 (v := (-1 : Int32)) (by decide) ?_
      refine zz_icmp_eq cx (tgt := 41) dn_X2_playFromFirstBar_26 (by decide) h (fun h => ?_) (fun h => ?_)
      · obtain rfl := Option.some.inj h
        exact zz_vret cx cq (by decide) (by decide) dn_X2_playFromFirstBar_41
      · refine zz_aload_n cx dn_X2_playFromFirstBar_29 rfl rfl ?_
        refine zz_iload_n cx dn_X2_playFromFirstBar_30 rfl rfl ?_
        refine gs_bind h (fun q1 e_q1 h => ?_)
        refine zz_callVi cx (As := [.int x1]) (rest := []) (c2 := 0) (s2 := 0) (z_cW_comeTo E n G x1 _ e_q1) zm_X2_comeTo zk_X2_98 zv_X2_comeTo 1 rfl rfl (by decide) rfl (Nat.le_of_ble_eq_true rfl) rfl rfl (by decide) (wc_c_addr E _ _) dn_X2_playFromFirstBar_31 ?_
        refine zz_istore_n cx dn_X2_playFromFirstBar_34 rfl (by decide) rfl ?_
        refine zz_iinc cx dn_X2_playFromFirstBar_35 (d := (1 : Int32)) rfl (by decide) (by decide) rfl ?_
        refine zz_goto cx dn_X2_playFromFirstBar_38 (tgt := 18) (by decide) ?_
        exact ih q1.1 (x2 + (1 : Int32)) q1.2 h
set_option maxHeartbeats 4000000 in
set_option maxRecDepth 100000 in
theorem z_cW_playFromFirstBar_j15 (E : ze_T) (n : Nat) (G : gs_T) (s0 : Int32) (r : gs_T) (X : zx_T) (cx : zx (zF E) X cn_X2_playFromFirstBar yn_X2_playFromFirstBar.cls { frames := 5, cells := 0, slots := 0, locals := 107 } 3) (cq : zq_v (zF E) X (wc_c E r)) (h : cW_playFromFirstBar_j15 n G s0 = some r) : zj (zF E) X 0 0 (wc_c E G) 15 [some (.ref (ad_p E 1)), none, none] [.int s0] := by
  unfold cW_playFromFirstBar_j15 at h
  refine zz_istore_n cx dn_X2_playFromFirstBar_15 rfl (by decide) rfl ?_
  refine zz_iconst cx dn_X2_playFromFirstBar_16 (v := (0 : Int32)) (by decide) ?_
  refine zz_istore_n cx dn_X2_playFromFirstBar_17 rfl (by decide) rfl ?_
  exact z_cW_playFromFirstBar_18 E n _ X cx cq n s0 (0 : Int32) G h
set_option maxHeartbeats 4000000 in
set_option maxRecDepth 100000 in
theorem z_cW_playFromFirstBar (E : ze_T) (n : Nat) (G : gs_T) (r : gs_T) (h : cW_playFromFirstBar n G = some r) : zc_v (zF E) (wc_c E G) (wc_c E r) yn_X2_playFromFirstBar cn_X2_playFromFirstBar 3 { frames := 5, cells := 0, slots := 0, locals := 107 } [.ref (ad_p E 1)] := by
  unfold cW_playFromFirstBar at h
  refine zc_v_of (by decide) rfl (Nat.le_of_ble_eq_true rfl) (fun X cx cq => ?_)
  refine zz_aload_n cx dn_X2_playFromFirstBar_0 rfl rfl ?_
  refine zz_get cx zi_X2 (v := .ref (ad_p E 2)) (ci := 2) rfl 1 0 rfl (by decide) zk_X2_12 rfl dn_X2_playFromFirstBar_1 ?_
  refine zz_getN cx zi_X1 (v := .int (G.1 6)) (ci := 1) rfl 2 15 rfl (by decide) zk_X2_86 rfl dn_X2_playFromFirstBar_4 ?_
  refine zz_if_le cx (tgt := 14) dn_X2_playFromFirstBar_7 (by decide) h (fun h => ?_) (fun h => ?_)
  · refine zz_iconst cx dn_X2_playFromFirstBar_14 (v := (-1 : Int32)) (by decide) ?_
    exact z_cW_playFromFirstBar_j15 E n G (-1 : Int32) _ X cx cq h
  · refine zz_iconst cx dn_X2_playFromFirstBar_10 (v := (0 : Int32)) (by decide) ?_
    refine zz_goto cx dn_X2_playFromFirstBar_11 (tgt := 15) (by decide) ?_
    exact z_cW_playFromFirstBar_j15 E n G (0 : Int32) _ X cx cq h
set_option maxHeartbeats 4000000 in
set_option maxRecDepth 100000 in
theorem z_cW_go_j25 (E : ze_T) (n : Nat) (G : gs_T) (r : (Int32 × gs_T)) (X : zx_T) (cx : zx (zF E) X cn_X2_go yn_X2_go.cls { frames := 6, cells := 0, slots := 0, locals := 129 } 1) (cq : zq_i (zF E) X (wc_c E r.2) .int r.1) (h : cW_go_j25 n G = some r) : zj (zF E) X 0 0 (wc_c E G) 25 [some (.ref (ad_p E 1))] [] := by
  unfold cW_go_j25 at h
  refine zz_aload_n cx dn_X2_go_25 rfl rfl ?_
  refine zz_get cx zi_X2 (v := .int (G.1 4)) (ci := 2) rfl 1 13 rfl (by decide) zk_X2_48 rfl dn_X2_go_26 ?_
  refine zz_if_eq cx (tgt := 43) dn_X2_go_29 (by decide) h (fun h => ?_) (fun h => ?_)
  · refine zz_aload_n cx dn_X2_go_43 rfl rfl ?_
    refine zz_get cx zi_X2 (v := .int (G.1 0)) (ci := 2) rfl 1 9 rfl (by decide) zk_X2_67 rfl dn_X2_go_44 ?_
    obtain rfl := Option.some.inj h
    exact zz_iret cx cq (by decide) (by decide) dn_X2_go_47
  · refine zz_aload_n cx dn_X2_go_32 rfl rfl ?_
    refine gs_bind h (fun q1 e_q1 h => ?_)
    refine zz_callVv cx (As := []) (rest := []) (c2 := 0) (s2 := 0) (z_cW_forget E n G _ e_q1) zm_X2_forget zk_X2_54 zv_X2_forget 1 rfl rfl (by decide) rfl (Nat.le_of_ble_eq_true rfl) rfl rfl (by decide) (wc_c_addr E _ _) dn_X2_go_33 ?_
    refine zz_iconst cx dn_X2_go_36 (v := (-1 : Int32)) (by decide) ?_
    refine zz_aload_n cx dn_X2_go_37 rfl rfl ?_
    refine zz_get cx zi_X2 (v := .int (q1.1 4)) (ci := 2) rfl 1 13 rfl (by decide) zk_X2_48 rfl dn_X2_go_38 ?_
    refine zz_isub cx dn_X2_go_41 ?_
    obtain rfl := Option.some.inj h
    exact zz_iret cx cq (by decide) (by decide) dn_X2_go_42
set_option maxHeartbeats 4000000 in
set_option maxRecDepth 100000 in
theorem z_cW_go (E : ze_T) (n : Nat) (G : gs_T) (r : (Int32 × gs_T)) (h : cW_go n G = some r) : zc_i (zF E) (wc_c E G) (wc_c E r.2) yn_X2_go cn_X2_go 1 .int { frames := 6, cells := 0, slots := 0, locals := 129 } [.ref (ad_p E 1)] r.1 := by
  unfold cW_go at h
  refine zc_i_of (by decide) rfl (Nat.le_of_ble_eq_true rfl) (fun X cx cq => ?_)
  refine zz_aload_n cx dn_X2_go_0 rfl rfl ?_
  refine gs_bind h (fun q1 e_q1 h => ?_)
  refine zz_callVv cx (As := []) (rest := []) (c2 := 0) (s2 := 0) (z_cW_forget E n G _ e_q1) zm_X2_forget zk_X2_54 zv_X2_forget 1 rfl rfl (by decide) rfl (Nat.le_of_ble_eq_true rfl) rfl rfl (by decide) (wc_c_addr E _ _) dn_X2_go_1 ?_
  refine zz_aload_n cx dn_X2_go_4 rfl rfl ?_
  refine zz_iconst cx dn_X2_go_5 (v := (0 : Int32)) (by decide) ?_
  refine zz_iconst cx dn_X2_go_6 (v := (-1 : Int32)) (by decide) ?_
  refine gs_bind h (fun q2 e_q2 h => ?_)
  refine zz_callVv cx (As := [.int (0 : Int32), .int (-1 : Int32)]) (rest := []) (c2 := 0) (s2 := 0) (z_cW_setFault E q1 (0 : Int32) (-1 : Int32) _ e_q2) zm_X2_setFault zk_X2_57 zv_X2_setFault 1 rfl rfl (by decide) rfl (Nat.le_of_ble_eq_true rfl) rfl rfl (by decide) (wc_c_addr E _ _) dn_X2_go_7 ?_
  refine zz_aload_n cx dn_X2_go_10 rfl rfl ?_
  refine gs_bind h (fun q3 e_q3 h => ?_)
  refine zz_callVv cx (As := []) (rest := []) (c2 := 0) (s2 := 0) (z_cW_findFaultOfJumps E n q2 _ e_q3) zm_X2_findFaultOfJumps zk_X2_61 zv_X2_findFaultOfJumps 1 rfl rfl (by decide) rfl (Nat.le_of_ble_eq_true rfl) rfl rfl (by decide) (wc_c_addr E _ _) dn_X2_go_11 ?_
  refine zz_aload_n cx dn_X2_go_14 rfl rfl ?_
  refine zz_get cx zi_X2 (v := .int (q3.1 4)) (ci := 2) rfl 1 13 rfl (by decide) zk_X2_48 rfl dn_X2_go_15 ?_
  refine zz_if_ne cx (tgt := 25) dn_X2_go_18 (by decide) h (fun h => ?_) (fun h => ?_)
  · refine zz_aload_n cx dn_X2_go_21 rfl rfl ?_
    refine gs_bind h (fun q4 e_q4 h => ?_)
    refine zz_callVv cx (As := []) (rest := []) (c2 := 0) (s2 := 0) (z_cW_playFromFirstBar E n q3 _ e_q4) zm_X2_playFromFirstBar zk_X2_64 zv_X2_playFromFirstBar 1 rfl rfl (by decide) rfl (Nat.le_of_ble_eq_true rfl) rfl rfl (by decide) (wc_c_addr E _ _) dn_X2_go_22 ?_
    exact z_cW_go_j25 E n q4 _ X cx cq h
  · exact z_cW_go_j25 E n q3 _ X cx cq h
