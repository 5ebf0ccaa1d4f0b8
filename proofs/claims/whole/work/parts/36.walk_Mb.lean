set_option maxHeartbeats 4000000 in
set_option maxRecDepth 100000 in
theorem z_mM_forget_32 (E : ze_T) (n : Nat) (r : gs_T) (X : zx_T) (cx : zx (zF E) X cn_X4_forget yn_X4_forget.cls { frames := 1, cells := 0, slots := 0, locals := 21 } 2) (cq : zq_v (zF E) X (wc_m E r)) : ∀ (k : Nat) (x1 : Int32) (G : gs_T), mM_forget_32 n k x1 G = some r → zj (zF E) X 0 0 (wc_m E G) 32 [some (.ref (ad_p E 0)), some (.int x1)] [] := by
  intro k
  induction k with
  | zero => intro x1 G h; cases h
  | succ k ih =>
    intro x1 G h
    rw [mM_forget_32] at h
    refine zz_iload_n cx dn_X4_forget_32 rfl rfl ?_
    refine zz_bipush cx dn_X4_forget_33 (v := (60 : Int32)) (by decide) ?_
    refine zz_icmp_ge cx (tgt := 58) dn_X4_forget_35 (by decide) h (fun h => ?_) (fun h => ?_)
    · refine zz_aload_n cx dn_X4_forget_58 rfl rfl ?_
      refine gs_bind h (fun q1 e_q1 h => ?_)
      refine zz_callVv cx (As := []) (rest := []) (c2 := 0) (s2 := 0) (z_mM_leaveAll E n G _ e_q1) zm_X4_leaveAll zk_X4_156 zv_X4_leaveAll 0 rfl rfl (by decide) rfl (Nat.le_of_ble_eq_true rfl) rfl rfl (by decide) (wc_m_addr E _ _) dn_X4_forget_59 ?_
      obtain rfl := Option.some.inj h
      exact zz_vret cx cq (by decide) (by decide) dn_X4_forget_62
    · refine zz_aload_n cx dn_X4_forget_38 rfl rfl ?_
      refine zz_get cx zi_X4 (v := .ref (ad_p E 18)) (ci := 4) rfl 0 23 rfl (by decide) zk_X4_66 rfl dn_X4_forget_39 ?_
      refine zz_iload_n cx dn_X4_forget_42 rfl rfl ?_
      refine zz_iconst cx dn_X4_forget_43 (v := (0 : Int32)) (by decide) ?_
      refine zz_iast cx 18 0 rfl rfl h (ws2 := (wc_m E (gs_sa G 17 x1 (0 : Int32)))) (wc_m_a17 E _ _ _) dn_X4_forget_44 (fun h => ?_)
      refine zz_aload_n cx dn_X4_forget_45 rfl rfl ?_
      refine zz_get cx zi_X4 (v := .ref (ad_p E 20)) (ci := 4) rfl 0 26 rfl (by decide) zk_X4_72 rfl dn_X4_forget_46 ?_
      refine zz_iload_n cx dn_X4_forget_49 rfl rfl ?_
      refine zz_iconst cx dn_X4_forget_50 (v := (0 : Int32)) (by decide) ?_
      refine zz_zast cx 20 1 rfl rfl h (ws2 := (wc_m E (gs_sa (gs_sa G 17 x1 (0 : Int32)) 19 x1 (vp_nar .boolean (0 : Int32))))) (wc_m_a19 E _ _ _) dn_X4_forget_51 (fun h => ?_)
      refine zz_iinc cx dn_X4_forget_52 (d := (1 : Int32)) rfl (by decide) (by decide) rfl ?_
      refine zz_goto cx dn_X4_forget_55 (tgt := 32) (by decide) ?_
      exact ih (x1 + (1 : Int32)) (gs_sa (gs_sa G 17 x1 (0 : Int32)) 19 x1 (vp_nar .boolean (0 : Int32))) h
set_option maxHeartbeats 4000000 in
set_option maxRecDepth 100000 in
theorem z_mM_forget (E : ze_T) (n : Nat) (G : gs_T) (r : gs_T) (h : mM_forget n G = some r) : zc_v (zF E) (wc_m E G) (wc_m E r) yn_X4_forget cn_X4_forget 2 { frames := 1, cells := 0, slots := 0, locals := 21 } [.ref (ad_p E 0)] := by
  unfold mM_forget at h
  refine zc_v_of (by decide) rfl (Nat.le_of_ble_eq_true rfl) (fun X cx cq => ?_)
  refine zz_aload_n cx dn_X4_forget_0 rfl rfl ?_
  refine zz_iconst cx dn_X4_forget_1 (v := (-1 : Int32)) (by decide) ?_
  refine zz_put cx (ws2 := (wc_m E (gs_sv G 4 (-1 : Int32)))) (ty := .int) (ci := 4) zi_X4 fk_X4 nm_X4 rfl 0 17 rfl (by decide) zk_X4_50 rfl (by decide +kernel) rfl rfl (Nat.le_of_ble_eq_true rfl) (wc_m_s4 E _ _) dn_X4_forget_2 ?_
  refine zz_aload_n cx dn_X4_forget_5 rfl rfl ?_
  refine zz_iconst cx dn_X4_forget_6 (v := (0 : Int32)) (by decide) ?_
  refine zz_put cx (ws2 := (wc_m E (gs_sv (gs_sv G 4 (-1 : Int32)) 5 (0 : Int32)))) (ty := .int) (ci := 4) zi_X4 fk_X4 nm_X4 rfl 0 18 rfl (by decide) zk_X4_140 rfl (by decide +kernel) rfl rfl (Nat.le_of_ble_eq_true rfl) (wc_m_s5 E _ _) dn_X4_forget_7 ?_
  refine zz_aload_n cx dn_X4_forget_10 rfl rfl ?_
  refine zz_iconst cx dn_X4_forget_11 (v := (0 : Int32)) (by decide) ?_
  refine zz_put cx (ws2 := (wc_m E (gs_sv (gs_sv (gs_sv G 4 (-1 : Int32)) 5 (0 : Int32)) 6 (0 : Int32)))) (ty := .int) (ci := 4) zi_X4 fk_X4 nm_X4 rfl 0 24 rfl (by decide) zk_X4_143 rfl (by decide +kernel) rfl rfl (Nat.le_of_ble_eq_true rfl) (wc_m_s6 E _ _) dn_X4_forget_12 ?_
  refine zz_aload_n cx dn_X4_forget_15 rfl rfl ?_
  refine zz_iconst cx dn_X4_forget_16 (v := (-1 : Int32)) (by decide) ?_
  refine zz_put cx (ws2 := (wc_m E (gs_sv (gs_sv (gs_sv (gs_sv G 4 (-1 : Int32)) 5 (0 : Int32)) 6 (0 : Int32)) 7 (-1 : Int32)))) (ty := .int) (ci := 4) zi_X4 fk_X4 nm_X4 rfl 0 27 rfl (by decide) zk_X4_146 rfl (by decide +kernel) rfl rfl (Nat.le_of_ble_eq_true rfl) (wc_m_s7 E _ _) dn_X4_forget_17 ?_
  refine zz_aload_n cx dn_X4_forget_20 rfl rfl ?_
  refine zz_iconst cx dn_X4_forget_21 (v := (0 : Int32)) (by decide) ?_
  refine zz_put cx (ws2 := (wc_m E (gs_sv (gs_sv (gs_sv (gs_sv (gs_sv G 4 (-1 : Int32)) 5 (0 : Int32)) 6 (0 : Int32)) 7 (-1 : Int32)) 8 (0 : Int32)))) (ty := .boolean) (ci := 4) zi_X4 fk_X4 nm_X4 rfl 0 28 rfl (by decide) zk_X4_149 rfl (by decide +kernel) rfl rfl (Nat.le_of_ble_eq_true rfl) (wc_m_s8 E _ _) dn_X4_forget_22 ?_
  refine zz_aload_n cx dn_X4_forget_25 rfl rfl ?_
  refine zz_iconst cx dn_X4_forget_26 (v := (0 : Int32)) (by decide) ?_
  refine zz_put cx (ws2 := (wc_m E (gs_sv (gs_sv (gs_sv (gs_sv (gs_sv (gs_sv G 4 (-1 : Int32)) 5 (0 : Int32)) 6 (0 : Int32)) 7 (-1 : Int32)) 8 (0 : Int32)) 10 (0 : Int32)))) (ty := .boolean) (ci := 4) zi_X4 fk_X4 nm_X4 rfl 0 30 rfl (by decide) zk_X4_153 rfl (by decide +kernel) rfl rfl (Nat.le_of_ble_eq_true rfl) (wc_m_s10 E _ _) dn_X4_forget_27 ?_
  refine zz_iconst cx dn_X4_forget_30 (v := (0 : Int32)) (by decide) ?_
  refine zz_istore_n cx dn_X4_forget_31 rfl (by decide) rfl ?_
  exact z_mM_forget_32 E n _ X cx cq n (0 : Int32) (gs_sv (gs_sv (gs_sv (gs_sv (gs_sv (gs_sv G 4 (-1 : Int32)) 5 (0 : Int32)) 6 (0 : Int32)) 7 (-1 : Int32)) 8 (0 : Int32)) 10 (0 : Int32)) h
set_option maxHeartbeats 4000000 in
set_option maxRecDepth 100000 in
theorem z_mM_leaveWithin_3 (E : ze_T) (n : Nat) (x1 x2 x3 : Int32) (r : gs_T) (X : zx_T) (cx : zx (zF E) X cn_X4_leaveWithin yn_X4_leaveWithin.cls { frames := 1, cells := 0, slots := 0, locals := 23 } 5) (cq : zq_v (zF E) X (wc_m E r)) : ∀ (k : Nat) (x4 : Int32) (G : gs_T), mM_leaveWithin_3 n x1 x2 x3 k x4 G = some r → zj (zF E) X 0 0 (wc_m E G) 3 [some (.ref (ad_p E 0)), some (.int x1), some (.int x2), some (.int x3), some (.int x4)] [] := by
  intro k
  induction k with
  | zero => intro x4 G h; cases h
  | succ k ih =>
    intro x4 G h
    rw [mM_leaveWithin_3] at h
    refine zz_iload cx dn_X4_leaveWithin_3 rfl ?_
    refine zz_aload_n cx dn_X4_leaveWithin_5 rfl rfl ?_
    refine zz_get cx zi_X4 (v := .int (G.1 2)) (ci := 4) rfl 0 3 rfl (by decide) zk_X4_116 rfl dn_X4_leaveWithin_6 ?_
    refine zz_icmp_ge cx (tgt := 54) dn_X4_leaveWithin_9 (by decide) h (fun h => ?_) (fun h => ?_)
    · obtain rfl := Option.some.inj h
      exact zz_vret cx cq (by decide) (by decide) dn_X4_leaveWithin_54
    · refine zz_iload cx dn_X4_leaveWithin_12 rfl ?_
      refine zz_iload_n cx dn_X4_leaveWithin_14 rfl rfl ?_
      refine zz_icmp_eq cx (tgt := 48) dn_X4_leaveWithin_15 (by decide) h (fun h => ?_) (fun h => ?_)
      · refine zz_iinc cx dn_X4_leaveWithin_48 (d := (1 : Int32)) rfl (by decide) (by decide) rfl ?_
        refine zz_goto cx dn_X4_leaveWithin_51 (tgt := 3) (by decide) ?_
        exact ih (x4 + (1 : Int32)) G h
      · refine zz_aload_n cx dn_X4_leaveWithin_18 rfl rfl ?_
        refine zz_get cx zi_X4 (v := .ref (ad_p E 2)) (ci := 4) rfl 0 4 rfl (by decide) zk_X4_13 rfl dn_X4_leaveWithin_19 ?_
        refine zz_iload cx dn_X4_leaveWithin_22 rfl ?_
        refine zz_iald cx 2 0 rfl rfl h (v := (gs_a G 1 x4)) rfl dn_X4_leaveWithin_24 (fun h => ?_)
        refine zz_aload_n cx dn_X4_leaveWithin_25 rfl rfl ?_
        refine zz_get cx zi_X4 (v := .ref (ad_p E 3)) (ci := 4) rfl 0 5 rfl (by decide) zk_X4_16 rfl dn_X4_leaveWithin_26 ?_
        refine zz_iload cx dn_X4_leaveWithin_29 rfl ?_
        refine zz_iald cx 3 0 rfl rfl h (v := (gs_a G 2 x4)) rfl dn_X4_leaveWithin_31 (fun h => ?_)
        refine zz_iload_n cx dn_X4_leaveWithin_32 rfl rfl ?_
        refine zz_iload_n cx dn_X4_leaveWithin_33 rfl rfl ?_
        refine gs_bind h (fun q1 e_q1 h => ?_)
        refine zz_callSi cx (As := [.int (gs_a G 1 x4), .int (gs_a G 2 x4), .int x1, .int x2]) (rest := []) (c2 := 0) (s2 := 0) (z_mM_isWithin E G (gs_a G 1 x4) (gs_a G 2 x4) x1 x2 _ e_q1) zm_X4_isWithin zk_X4_113 zs_X4_isWithin (by decide) rfl (Nat.le_of_ble_eq_true rfl) rfl rfl (by decide) (wc_m_addr E _ _) dn_X4_leaveWithin_34 ?_
        refine zz_if_eq cx (tgt := 48) dn_X4_leaveWithin_37 (by decide) h (fun h => ?_) (fun h => ?_)
        · refine zz_iinc cx dn_X4_leaveWithin_48 (d := (1 : Int32)) rfl (by decide) (by decide) rfl ?_
          refine zz_goto cx dn_X4_leaveWithin_51 (tgt := 3) (by decide) ?_
          exact ih (x4 + (1 : Int32)) G h
        · refine zz_aload_n cx dn_X4_leaveWithin_40 rfl rfl ?_
          refine zz_get cx zi_X4 (v := .ref (ad_p E 19)) (ci := 4) rfl 0 25 rfl (by decide) zk_X4_69 rfl dn_X4_leaveWithin_41 ?_
          refine zz_iload cx dn_X4_leaveWithin_44 rfl ?_
          refine zz_iconst cx dn_X4_leaveWithin_46 (v := (0 : Int32)) (by decide) ?_
          refine zz_iast cx 19 0 rfl rfl h (ws2 := (wc_m E (gs_sa G 18 x4 (0 : Int32)))) (wc_m_a18 E _ _ _) dn_X4_leaveWithin_47 (fun h => ?_)
          refine zz_iinc cx dn_X4_leaveWithin_48 (d := (1 : Int32)) rfl (by decide) (by decide) rfl ?_
          refine zz_goto cx dn_X4_leaveWithin_51 (tgt := 3) (by decide) ?_
          exact ih (x4 + (1 : Int32)) (gs_sa G 18 x4 (0 : Int32)) h
set_option maxHeartbeats 4000000 in
set_option maxRecDepth 100000 in
theorem z_mM_leaveWithin (E : ze_T) (n : Nat) (G : gs_T) (x1 x2 x3 : Int32) (r : gs_T) (h : mM_leaveWithin n G x1 x2 x3 = some r) : zc_v (zF E) (wc_m E G) (wc_m E r) yn_X4_leaveWithin cn_X4_leaveWithin 5 { frames := 1, cells := 0, slots := 0, locals := 23 } [.ref (ad_p E 0), .int x1, .int x2, .int x3] := by
  unfold mM_leaveWithin at h
  refine zc_v_of (by decide) rfl (Nat.le_of_ble_eq_true rfl) (fun X cx cq => ?_)
  refine zz_iconst cx dn_X4_leaveWithin_0 (v := (0 : Int32)) (by decide) ?_
  refine zz_istore cx dn_X4_leaveWithin_1 (by decide) rfl ?_
  exact z_mM_leaveWithin_3 E n x1 x2 x3 _ X cx cq n (0 : Int32) G h
set_option maxHeartbeats 4000000 in
set_option maxRecDepth 100000 in
theorem z_mM_theEnd_10 (E : ze_T) (n : Nat) (x1 x2 : Int32) (K : gs_T → Option gs_T) (r : gs_T) (X : zx_T) (cx : zx (zF E) X cn_X4_theEnd yn_X4_theEnd.cls { frames := 2, cells := 0, slots := 0, locals := 47 } 4) (cq : zq_v (zF E) X (wc_m E r)) (hK : ∀ (G1 : gs_T), K G1 = some r → zj (zF E) X 0 0 (wc_m E G1) 120 [some (.ref (ad_p E 0)), some (.int x1), some (.int x2), none] []) : ∀ (k : Nat) (x3 : Int32) (G : gs_T), mM_theEnd_10 n x1 x2 K k x3 G = some r → zj (zF E) X 0 0 (wc_m E G) 10 [some (.ref (ad_p E 0)), some (.int x1), some (.int x2), some (.int x3)] [] := by
  intro k
  induction k with
  | zero => intro x3 G h; cases h
  | succ k ih =>
    intro x3 G h
    rw [mM_theEnd_10] at h
    refine zz_iload_n cx dn_X4_theEnd_10 rfl rfl ?_
    refine zz_aload_n cx dn_X4_theEnd_11 rfl rfl ?_
    refine zz_get cx zi_X4 (v := .int (G.1 2)) (ci := 4) rfl 0 3 rfl (by decide) zk_X4_116 rfl dn_X4_theEnd_12 ?_
    refine zz_icmp_ge cx (tgt := 120) dn_X4_theEnd_15 (by decide) h (fun h => ?_) (fun h => ?_)
    · refine zz_less (L2 := [some (.ref (ad_p E 0)), some (.int x1), some (.int x2), none]) (⟨rfl, rfl, rfl, trivial⟩) ?_
      exact hK G h
    · refine zz_aload_n cx dn_X4_theEnd_18 rfl rfl ?_
      refine zz_get cx zi_X4 (v := .ref (ad_p E 19)) (ci := 4) rfl 0 25 rfl (by decide) zk_X4_69 rfl dn_X4_theEnd_19 ?_
      refine zz_iload_n cx dn_X4_theEnd_22 rfl rfl ?_
      refine zz_iald cx 19 0 rfl rfl h (v := (gs_a G 18 x3)) rfl dn_X4_theEnd_23 (fun h => ?_)
      refine zz_if_le cx (tgt := 114) dn_X4_theEnd_24 (by decide) h (fun h => ?_) (fun h => ?_)
      · refine zz_iinc cx dn_X4_theEnd_114 (d := (1 : Int32)) rfl (by decide) (by decide) rfl ?_
        refine zz_goto cx dn_X4_theEnd_117 (tgt := 10) (by decide) ?_
        exact ih (x3 + (1 : Int32)) G h
      · refine zz_aload_n cx dn_X4_theEnd_27 rfl rfl ?_
        refine zz_get cx zi_X4 (v := .ref (ad_p E 3)) (ci := 4) rfl 0 5 rfl (by decide) zk_X4_16 rfl dn_X4_theEnd_28 ?_
        refine zz_iload_n cx dn_X4_theEnd_31 rfl rfl ?_
        refine zz_iald cx 3 0 rfl rfl h (v := (gs_a G 2 x3)) rfl dn_X4_theEnd_32 (fun h => ?_)
        refine zz_iload_n cx dn_X4_theEnd_33 rfl rfl ?_
        refine zz_icmp_ne cx (tgt := 114) dn_X4_theEnd_34 (by decide) h (fun h => ?_) (fun h => ?_)
        · refine zz_aload_n cx dn_X4_theEnd_37 rfl rfl ?_
          refine zz_get cx zi_X4 (v := .ref (ad_p E 3)) (ci := 4) rfl 0 5 rfl (by decide) zk_X4_16 rfl dn_X4_theEnd_38 ?_
          refine zz_iload_n cx dn_X4_theEnd_41 rfl rfl ?_
          refine zz_iald cx 3 0 rfl rfl h (v := (gs_a G 2 x3)) rfl dn_X4_theEnd_42 (fun h => ?_)
          refine zz_aload_n cx dn_X4_theEnd_43 rfl rfl ?_
          refine zz_get cx zi_X4 (v := .ref (ad_p E 2)) (ci := 4) rfl 0 4 rfl (by decide) zk_X4_13 rfl dn_X4_theEnd_44 ?_
          refine zz_iload_n cx dn_X4_theEnd_47 rfl rfl ?_
          refine zz_iald cx 2 0 rfl rfl h (v := (gs_a G 1 x3)) rfl dn_X4_theEnd_48 (fun h => ?_)
          refine zz_isub cx dn_X4_theEnd_49 ?_
          refine zz_iload_n cx dn_X4_theEnd_50 rfl rfl ?_
          refine zz_icmp_ne cx (tgt := 114) dn_X4_theEnd_51 (by decide) h (fun h => ?_) (fun h => ?_)
          · refine zz_aload_n cx dn_X4_theEnd_54 rfl rfl ?_
            refine zz_get cx zi_X4 (v := .ref (ad_p E 19)) (ci := 4) rfl 0 25 rfl (by decide) zk_X4_69 rfl dn_X4_theEnd_55 ?_
            refine zz_iload_n cx dn_X4_theEnd_58 rfl rfl ?_
            refine zz_iald cx 19 0 rfl rfl h (v := (gs_a G 18 x3)) rfl dn_X4_theEnd_59 (fun h => ?_)
            refine zz_aload_n cx dn_X4_theEnd_60 rfl rfl ?_
            refine zz_get cx zi_X4 (v := .ref (ad_p E 4)) (ci := 4) rfl 0 6 rfl (by decide) zk_X4_19 rfl dn_X4_theEnd_61 ?_
            refine zz_iload_n cx dn_X4_theEnd_64 rfl rfl ?_
            refine zz_iald cx 4 0 rfl rfl h (v := (gs_a G 3 x3)) rfl dn_X4_theEnd_65 (fun h => ?_)
            refine zz_icmp_ge cx (tgt := 107) dn_X4_theEnd_66 (by decide) h (fun h => ?_) (fun h => ?_)
            · refine zz_aload_n cx dn_X4_theEnd_107 rfl rfl ?_
              refine zz_get cx zi_X4 (v := .ref (ad_p E 19)) (ci := 4) rfl 0 25 rfl (by decide) zk_X4_69 rfl dn_X4_theEnd_108 ?_
              refine zz_iload_n cx dn_X4_theEnd_111 rfl rfl ?_
              refine zz_iconst cx dn_X4_theEnd_112 (v := (0 : Int32)) (by decide) ?_
              refine zz_iast cx 19 0 rfl rfl h (ws2 := (wc_m E (gs_sa G 18 x3 (0 : Int32)))) (wc_m_a18 E _ _ _) dn_X4_theEnd_113 (fun h => ?_)
              refine zz_iinc cx dn_X4_theEnd_114 (d := (1 : Int32)) rfl (by decide) (by decide) rfl ?_
              refine zz_goto cx dn_X4_theEnd_117 (tgt := 10) (by decide) ?_
              exact ih (x3 + (1 : Int32)) (gs_sa G 18 x3 (0 : Int32)) h
            · refine zz_aload_n cx dn_X4_theEnd_69 rfl rfl ?_
              refine zz_get cx zi_X4 (v := .ref (ad_p E 19)) (ci := 4) rfl 0 25 rfl (by decide) zk_X4_69 rfl dn_X4_theEnd_70 ?_
              refine zz_iload_n cx dn_X4_theEnd_73 rfl rfl ?_
              refine zz_dup2 cx dn_X4_theEnd_74 rfl rfl ?_
              refine zz_iald cx 19 0 rfl rfl h (v := (gs_a G 18 x3)) rfl dn_X4_theEnd_75 (fun h => ?_)
              refine zz_iconst cx dn_X4_theEnd_76 (v := (1 : Int32)) (by decide) ?_
              refine zz_iadd cx dn_X4_theEnd_77 ?_
              refine zz_iast cx 19 0 rfl rfl h (ws2 := (wc_m E (gs_sa G 18 x3 ((gs_a G 18 x3) + (1 : Int32))))) (wc_m_a18 E _ _ _) dn_X4_theEnd_78 (fun h => ?_)
              refine zz_aload_n cx dn_X4_theEnd_79 rfl rfl ?_
              refine zz_aload_n cx dn_X4_theEnd_80 rfl rfl ?_
              refine zz_get cx zi_X4 (v := .ref (ad_p E 2)) (ci := 4) rfl 0 4 rfl (by decide) zk_X4_13 rfl dn_X4_theEnd_81 ?_
              refine zz_iload_n cx dn_X4_theEnd_84 rfl rfl ?_
              refine zz_iald cx 2 0 rfl rfl h (v := (gs_a G 1 x3)) rfl dn_X4_theEnd_85 (fun h => ?_)
              refine zz_aload_n cx dn_X4_theEnd_86 rfl rfl ?_
              refine zz_get cx zi_X4 (v := .ref (ad_p E 3)) (ci := 4) rfl 0 5 rfl (by decide) zk_X4_16 rfl dn_X4_theEnd_87 ?_
              refine zz_iload_n cx dn_X4_theEnd_90 rfl rfl ?_
              refine zz_iald cx 3 0 rfl rfl h (v := (gs_a G 2 x3)) rfl dn_X4_theEnd_91 (fun h => ?_)
              refine zz_iload_n cx dn_X4_theEnd_92 rfl rfl ?_
              refine gs_bind h (fun q1 e_q1 h => ?_)
              refine zz_callVv cx (As := [.int (gs_a G 1 x3), .int (gs_a G 2 x3), .int x3]) (rest := []) (c2 := 0) (s2 := 0) (z_mM_leaveWithin E n (gs_sa G 18 x3 ((gs_a G 18 x3) + (1 : Int32))) (gs_a G 1 x3) (gs_a G 2 x3) x3 _ e_q1) zm_X4_leaveWithin zk_X4_173 zv_X4_leaveWithin 0 rfl rfl (by decide) rfl (Nat.le_of_ble_eq_true rfl) rfl rfl (by decide) (wc_m_addr E _ _) dn_X4_theEnd_93 ?_
              refine zz_aload_n cx dn_X4_theEnd_96 rfl rfl ?_
              refine zz_aload_n cx dn_X4_theEnd_97 rfl rfl ?_
              refine zz_get cx zi_X4 (v := .ref (ad_p E 2)) (ci := 4) rfl 0 4 rfl (by decide) zk_X4_13 rfl dn_X4_theEnd_98 ?_
              refine zz_iload_n cx dn_X4_theEnd_101 rfl rfl ?_
              refine zz_iald cx 2 0 rfl rfl h (v := (gs_a q1 1 x3)) rfl dn_X4_theEnd_102 (fun h => ?_)
              refine zz_put cx (ws2 := (wc_m E (gs_sv q1 9 (gs_a q1 1 x3)))) (ty := .int) (ci := 4) zi_X4 fk_X4 nm_X4 rfl 0 29 rfl (by decide) zk_X4_166 rfl (by decide +kernel) rfl rfl (Nat.le_of_ble_eq_true rfl) (wc_m_s9 E _ _) dn_X4_theEnd_103 ?_
              obtain rfl := Option.some.inj h
              exact zz_vret cx cq (by decide) (by decide) dn_X4_theEnd_106
          · refine zz_iinc cx dn_X4_theEnd_114 (d := (1 : Int32)) rfl (by decide) (by decide) rfl ?_
            refine zz_goto cx dn_X4_theEnd_117 (tgt := 10) (by decide) ?_
            exact ih (x3 + (1 : Int32)) G h
        · refine zz_iinc cx dn_X4_theEnd_114 (d := (1 : Int32)) rfl (by decide) (by decide) rfl ?_
          refine zz_goto cx dn_X4_theEnd_117 (tgt := 10) (by decide) ?_
          exact ih (x3 + (1 : Int32)) G h
set_option maxHeartbeats 4000000 in
set_option maxRecDepth 100000 in
theorem z_mM_theEnd_2 (E : ze_T) (n : Nat) (x1 : Int32) (r : gs_T) (X : zx_T) (cx : zx (zF E) X cn_X4_theEnd yn_X4_theEnd.cls { frames := 2, cells := 0, slots := 0, locals := 47 } 4) (cq : zq_v (zF E) X (wc_m E r)) : ∀ (k : Nat) (x2 : Int32) (G : gs_T), mM_theEnd_2 n x1 k x2 G = some r → zj (zF E) X 0 0 (wc_m E G) 2 [some (.ref (ad_p E 0)), some (.int x1), some (.int x2), none] [] := by
  intro k
  induction k with
  | zero => intro x2 G h; cases h
  | succ k ih =>
    intro x2 G h
    rw [mM_theEnd_2] at h
    refine zz_iload_n cx dn_X4_theEnd_2 rfl rfl ?_
    refine zz_bipush cx dn_X4_theEnd_3 (v := (60 : Int32)) (by decide) ?_
    refine zz_icmp_ge cx (tgt := 126) dn_X4_theEnd_5 (by decide) h (fun h => ?_) (fun h => ?_)
    · refine zz_aload_n cx dn_X4_theEnd_126 rfl rfl ?_
      refine zz_iload_n cx dn_X4_theEnd_127 rfl rfl ?_
      refine zz_iconst cx dn_X4_theEnd_128 (v := (1 : Int32)) (by decide) ?_
      refine zz_iadd cx dn_X4_theEnd_129 ?_
      refine zz_aload_n cx dn_X4_theEnd_130 rfl rfl ?_
      refine zz_get cx zi_X4 (v := .int (G.1 1)) (ci := 4) rfl 0 1 rfl (by decide) zk_X4_102 rfl dn_X4_theEnd_131 ?_
      refine zz_icmp_ge cx (tgt := 143) dn_X4_theEnd_134 (by decide) h (fun h => ?_) (fun h => ?_)
      · refine zz_iconst cx dn_X4_theEnd_143 (v := (-1 : Int32)) (by decide) ?_
        refine zz_put cx (ws2 := (wc_m E (gs_sv G 9 (-1 : Int32)))) (ty := .int) (ci := 4) zi_X4 fk_X4 nm_X4 rfl 0 29 rfl (by decide) zk_X4_166 rfl (by decide +kernel) rfl rfl (Nat.le_of_ble_eq_true rfl) (wc_m_s9 E _ _) dn_X4_theEnd_144 ?_
        obtain rfl := Option.some.inj h
        exact zz_vret cx cq (by decide) (by decide) dn_X4_theEnd_147
      · refine zz_iload_n cx dn_X4_theEnd_137 rfl rfl ?_
        refine zz_iconst cx dn_X4_theEnd_138 (v := (1 : Int32)) (by decide) ?_
        refine zz_iadd cx dn_X4_theEnd_139 ?_
        refine zz_goto cx dn_X4_theEnd_140 (tgt := 144) (by decide) ?_
        refine zz_put cx (ws2 := (wc_m E (gs_sv G 9 (x1 + (1 : Int32))))) (ty := .int) (ci := 4) zi_X4 fk_X4 nm_X4 rfl 0 29 rfl (by decide) zk_X4_166 rfl (by decide +kernel) rfl rfl (Nat.le_of_ble_eq_true rfl) (wc_m_s9 E _ _) dn_X4_theEnd_144 ?_
        obtain rfl := Option.some.inj h
        exact zz_vret cx cq (by decide) (by decide) dn_X4_theEnd_147
    · refine zz_iconst cx dn_X4_theEnd_8 (v := (0 : Int32)) (by decide) ?_
      refine zz_istore_n cx dn_X4_theEnd_9 rfl (by decide) rfl ?_
      refine z_mM_theEnd_10 E n x1 x2 _ _ X cx cq ?_ n (0 : Int32) G h
      intro G0 h
      refine zz_iinc cx dn_X4_theEnd_120 (d := (1 : Int32)) rfl (by decide) (by decide) rfl ?_
      refine zz_goto cx dn_X4_theEnd_123 (tgt := 2) (by decide) ?_
      exact ih (x2 + (1 : Int32)) G0 h
set_option maxHeartbeats 4000000 in
set_option maxRecDepth 100000 in
theorem z_mM_theEnd (E : ze_T) (n : Nat) (G : gs_T) (x1 : Int32) (r : gs_T) (h : mM_theEnd n G x1 = some r) : zc_v (zF E) (wc_m E G) (wc_m E r) yn_X4_theEnd cn_X4_theEnd 4 { frames := 2, cells := 0, slots := 0, locals := 47 } [.ref (ad_p E 0), .int x1] := by
  unfold mM_theEnd at h
  refine zc_v_of (by decide) rfl (Nat.le_of_ble_eq_true rfl) (fun X cx cq => ?_)
  refine zz_iconst cx dn_X4_theEnd_0 (v := (0 : Int32)) (by decide) ?_
  refine zz_istore_n cx dn_X4_theEnd_1 rfl (by decide) rfl ?_
  exact z_mM_theEnd_2 E n x1 _ X cx cq n (0 : Int32) G h
set_option maxHeartbeats 4000000 in
set_option maxRecDepth 100000 in
theorem z_mM_aroundIt_5 (E : ze_T) (n : Nat) (G : gs_T) (x1 x2 : Int32) (r : Int32) (X : zx_T) (cx : zx (zF E) X cn_X4_aroundIt yn_X4_aroundIt.cls { frames := 1, cells := 0, slots := 0, locals := 22 } 6) (cq : zq_i (zF E) X (wc_m E G) .int r) : ∀ (k : Nat) (x3 : Int32) (x4 : Int32), mM_aroundIt_5 n G x1 x2 k x3 x4 = some r → zj (zF E) X 0 0 (wc_m E G) 5 [some (.ref (ad_p E 0)), some (.int x1), some (.int x2), some (.int x3), some (.int x4), none] [] := by
  intro k
  induction k with
  | zero => intro x3 x4 h; cases h
  | succ k ih =>
    intro x3 x4 h
    rw [mM_aroundIt_5] at h
    refine zz_iload cx dn_X4_aroundIt_5 rfl ?_
    refine zz_aload_n cx dn_X4_aroundIt_7 rfl rfl ?_
    refine zz_get cx zi_X4 (v := .int (G.1 2)) (ci := 4) rfl 0 3 rfl (by decide) zk_X4_116 rfl dn_X4_aroundIt_8 ?_
    refine zz_icmp_ge cx (tgt := 94) dn_X4_aroundIt_11 (by decide) h (fun h => ?_) (fun h => ?_)
    · refine zz_iload_n cx dn_X4_aroundIt_94 rfl rfl ?_
      obtain rfl := Option.some.inj h
      exact zz_iret cx cq (by decide) (by decide) dn_X4_aroundIt_95
    · refine zz_aload_n cx dn_X4_aroundIt_14 rfl rfl ?_
      refine zz_iload cx dn_X4_aroundIt_15 rfl ?_
      refine zz_iload_n cx dn_X4_aroundIt_17 rfl rfl ?_
      refine gs_bind h (fun q1 e_q1 h => ?_)
      refine zz_callVi cx (As := [.int x4, .int x1]) (rest := []) (c2 := 0) (s2 := 0) (z_mM_isAround E G x4 x1 _ e_q1) zm_X4_isAround zk_X4_125 zv_X4_isAround 0 rfl rfl (by decide) rfl (Nat.le_of_ble_eq_true rfl) rfl rfl (by decide) (wc_m_addr E _ _) dn_X4_aroundIt_18 ?_
      refine zz_if_eq cx (tgt := 88) dn_X4_aroundIt_21 (by decide) h (fun h => ?_) (fun h => ?_)
      · refine zz_iinc cx dn_X4_aroundIt_88 (d := (1 : Int32)) rfl (by decide) (by decide) rfl ?_
        refine zz_goto cx dn_X4_aroundIt_91 (tgt := 5) (by decide) ?_
        exact ih x3 (x4 + (1 : Int32)) h
      · refine zz_iload_n cx dn_X4_aroundIt_24 rfl rfl ?_
        refine zz_iconst cx dn_X4_aroundIt_25 (v := (-1 : Int32)) (by decide) ?_
        refine zz_icmp_eq cx (tgt := 69) dn_X4_aroundIt_26 (by decide) h (fun h => ?_) (fun h => ?_)
        · refine zz_iconst cx dn_X4_aroundIt_69 (v := (1 : Int32)) (by decide) ?_
          refine zz_goto cx dn_X4_aroundIt_70 (tgt := 74) (by decide) ?_
          refine zz_istore cx dn_X4_aroundIt_74 (by decide) rfl ?_
          refine zz_iload cx dn_X4_aroundIt_76 rfl ?_
          refine zz_if_eq_f cx (tgt := 86) dn_X4_aroundIt_78 (by decide) (by decide) ?_
          refine zz_iload cx dn_X4_aroundIt_81 rfl ?_
          refine zz_goto cx dn_X4_aroundIt_83 (tgt := 87) (by decide) ?_
          refine zz_istore_n cx dn_X4_aroundIt_87 rfl (by decide) rfl ?_
          refine zz_iinc cx dn_X4_aroundIt_88 (d := (1 : Int32)) rfl (by decide) (by decide) rfl ?_
          refine zz_goto cx dn_X4_aroundIt_91 (tgt := 5) (by decide) ?_
          refine zz_less (L2 := [some (.ref (ad_p E 0)), some (.int x1), some (.int x2), some (.int x4), some (.int (x4 + (1 : Int32))), none]) (⟨rfl, rfl, rfl, rfl, rfl, trivial⟩) ?_
          exact ih x4 (x4 + (1 : Int32)) h
        · refine zz_iload_n cx dn_X4_aroundIt_29 rfl rfl ?_
          refine zz_aload_n cx dn_X4_aroundIt_30 rfl rfl ?_
          refine zz_get cx zi_X4 (v := .ref (ad_p E 3)) (ci := 4) rfl 0 5 rfl (by decide) zk_X4_16 rfl dn_X4_aroundIt_31 ?_
          refine zz_iload cx dn_X4_aroundIt_34 rfl ?_
          refine zz_iald cx 3 0 rfl rfl h (v := (gs_a G 2 x4)) rfl dn_X4_aroundIt_36 (fun h => ?_)
          refine zz_aload_n cx dn_X4_aroundIt_37 rfl rfl ?_
          refine zz_get cx zi_X4 (v := .ref (ad_p E 2)) (ci := 4) rfl 0 4 rfl (by decide) zk_X4_13 rfl dn_X4_aroundIt_38 ?_
          refine zz_iload cx dn_X4_aroundIt_41 rfl ?_
          refine zz_iald cx 2 0 rfl rfl h (v := (gs_a G 1 x4)) rfl dn_X4_aroundIt_43 (fun h => ?_)
          refine zz_isub cx dn_X4_aroundIt_44 ?_
          refine zz_aload_n cx dn_X4_aroundIt_45 rfl rfl ?_
          refine zz_get cx zi_X4 (v := .ref (ad_p E 3)) (ci := 4) rfl 0 5 rfl (by decide) zk_X4_16 rfl dn_X4_aroundIt_46 ?_
          refine zz_iload_n cx dn_X4_aroundIt_49 rfl rfl ?_
          refine zz_iald cx 3 0 rfl rfl h (v := (gs_a G 2 x3)) rfl dn_X4_aroundIt_50 (fun h => ?_)
          refine zz_aload_n cx dn_X4_aroundIt_51 rfl rfl ?_
          refine zz_get cx zi_X4 (v := .ref (ad_p E 2)) (ci := 4) rfl 0 4 rfl (by decide) zk_X4_13 rfl dn_X4_aroundIt_52 ?_
          refine zz_iload_n cx dn_X4_aroundIt_55 rfl rfl ?_
          refine zz_iald cx 2 0 rfl rfl h (v := (gs_a G 1 x3)) rfl dn_X4_aroundIt_56 (fun h => ?_)
          refine zz_isub cx dn_X4_aroundIt_57 ?_
          refine zz_icmp_ge cx (tgt := 65) dn_X4_aroundIt_58 (by decide) h (fun h => ?_) (fun h => ?_)
          · refine zz_iconst cx dn_X4_aroundIt_65 (v := (0 : Int32)) (by decide) ?_
            refine zz_icmp_ne cx (tgt := 73) dn_X4_aroundIt_66 (by decide) h (fun h => ?_) (fun h => ?_)
            · refine zz_iconst cx dn_X4_aroundIt_69 (v := (1 : Int32)) (by decide) ?_
              refine zz_goto cx dn_X4_aroundIt_70 (tgt := 74) (by decide) ?_
              refine zz_istore cx dn_X4_aroundIt_74 (by decide) rfl ?_
              refine zz_iload cx dn_X4_aroundIt_76 rfl ?_
              refine zz_if_eq_f cx (tgt := 86) dn_X4_aroundIt_78 (by decide) (by decide) ?_
              refine zz_iload cx dn_X4_aroundIt_81 rfl ?_
              refine zz_goto cx dn_X4_aroundIt_83 (tgt := 87) (by decide) ?_
              refine zz_istore_n cx dn_X4_aroundIt_87 rfl (by decide) rfl ?_
              refine zz_iinc cx dn_X4_aroundIt_88 (d := (1 : Int32)) rfl (by decide) (by decide) rfl ?_
              refine zz_goto cx dn_X4_aroundIt_91 (tgt := 5) (by decide) ?_
              refine zz_less (L2 := [some (.ref (ad_p E 0)), some (.int x1), some (.int x2), some (.int x4), some (.int (x4 + (1 : Int32))), none]) (⟨rfl, rfl, rfl, rfl, rfl, trivial⟩) ?_
              exact ih x4 (x4 + (1 : Int32)) h
            · refine zz_iconst cx dn_X4_aroundIt_73 (v := (0 : Int32)) (by decide) ?_
              refine zz_istore cx dn_X4_aroundIt_74 (by decide) rfl ?_
              refine zz_iload cx dn_X4_aroundIt_76 rfl ?_
              refine zz_if_eq_t cx (tgt := 86) dn_X4_aroundIt_78 (by decide) (by decide) ?_
              refine zz_iload_n cx dn_X4_aroundIt_86 rfl rfl ?_
              refine zz_istore_n cx dn_X4_aroundIt_87 rfl (by decide) rfl ?_
              refine zz_iinc cx dn_X4_aroundIt_88 (d := (1 : Int32)) rfl (by decide) (by decide) rfl ?_
              refine zz_goto cx dn_X4_aroundIt_91 (tgt := 5) (by decide) ?_
              refine zz_less (L2 := [some (.ref (ad_p E 0)), some (.int x1), some (.int x2), some (.int x3), some (.int (x4 + (1 : Int32))), none]) (⟨rfl, rfl, rfl, rfl, rfl, trivial⟩) ?_
              exact ih x3 (x4 + (1 : Int32)) h
          · refine zz_iconst cx dn_X4_aroundIt_61 (v := (1 : Int32)) (by decide) ?_
            refine zz_goto cx dn_X4_aroundIt_62 (tgt := 66) (by decide) ?_
            refine zz_icmp_ne cx (tgt := 73) dn_X4_aroundIt_66 (by decide) h (fun h => ?_) (fun h => ?_)
            · refine zz_iconst cx dn_X4_aroundIt_69 (v := (1 : Int32)) (by decide) ?_
              refine zz_goto cx dn_X4_aroundIt_70 (tgt := 74) (by decide) ?_
              refine zz_istore cx dn_X4_aroundIt_74 (by decide) rfl ?_
              refine zz_iload cx dn_X4_aroundIt_76 rfl ?_
              refine zz_if_eq_f cx (tgt := 86) dn_X4_aroundIt_78 (by decide) (by decide) ?_
              refine zz_iload cx dn_X4_aroundIt_81 rfl ?_
              refine zz_goto cx dn_X4_aroundIt_83 (tgt := 87) (by decide) ?_
              refine zz_istore_n cx dn_X4_aroundIt_87 rfl (by decide) rfl ?_
              refine zz_iinc cx dn_X4_aroundIt_88 (d := (1 : Int32)) rfl (by decide) (by decide) rfl ?_
              refine zz_goto cx dn_X4_aroundIt_91 (tgt := 5) (by decide) ?_
              refine zz_less (L2 := [some (.ref (ad_p E 0)), some (.int x1), some (.int x2), some (.int x4), some (.int (x4 + (1 : Int32))), none]) (⟨rfl, rfl, rfl, rfl, rfl, trivial⟩) ?_
              exact ih x4 (x4 + (1 : Int32)) h
            · refine zz_iconst cx dn_X4_aroundIt_73 (v := (0 : Int32)) (by decide) ?_
              refine zz_istore cx dn_X4_aroundIt_74 (by decide) rfl ?_
              refine zz_iload cx dn_X4_aroundIt_76 rfl ?_
              refine zz_if_eq_t cx (tgt := 86) dn_X4_aroundIt_78 (by decide) (by decide) ?_
              refine zz_iload_n cx dn_X4_aroundIt_86 rfl rfl ?_
              refine zz_istore_n cx dn_X4_aroundIt_87 rfl (by decide) rfl ?_
              refine zz_iinc cx dn_X4_aroundIt_88 (d := (1 : Int32)) rfl (by decide) (by decide) rfl ?_
              refine zz_goto cx dn_X4_aroundIt_91 (tgt := 5) (by decide) ?_
              refine zz_less (L2 := [some (.ref (ad_p E 0)), some (.int x1), some (.int x2), some (.int x3), some (.int (x4 + (1 : Int32))), none]) (⟨rfl, rfl, rfl, rfl, rfl, trivial⟩) ?_
              exact ih x3 (x4 + (1 : Int32)) h
set_option maxHeartbeats 4000000 in
set_option maxRecDepth 100000 in
theorem z_mM_aroundIt (E : ze_T) (n : Nat) (G : gs_T) (x1 x2 : Int32) (r : Int32) (h : mM_aroundIt n G x1 x2 = some r) : zc_i (zF E) (wc_m E G) (wc_m E G) yn_X4_aroundIt cn_X4_aroundIt 6 .int { frames := 1, cells := 0, slots := 0, locals := 22 } [.ref (ad_p E 0), .int x1, .int x2] r := by
  unfold mM_aroundIt at h
  refine zc_i_of (by decide) rfl (Nat.le_of_ble_eq_true rfl) (fun X cx cq => ?_)
  refine zz_iconst cx dn_X4_aroundIt_0 (v := (-1 : Int32)) (by decide) ?_
  refine zz_istore_n cx dn_X4_aroundIt_1 rfl (by decide) rfl ?_
  refine zz_iconst cx dn_X4_aroundIt_2 (v := (0 : Int32)) (by decide) ?_
  refine zz_istore cx dn_X4_aroundIt_3 (by decide) rfl ?_
  exact z_mM_aroundIt_5 E n G x1 x2 _ X cx cq n (-1 : Int32) (0 : Int32) h
set_option maxHeartbeats 4000000 in
set_option maxRecDepth 100000 in
theorem z_mM_play_101 (E : ze_T) (n : Nat) (G : gs_T) (x1 : Int32) (K : Int32 → Option gs_T) (r : gs_T) (X : zx_T) (cx : zx (zF E) X cn_X4_play yn_X4_play.cls { frames := 3, cells := 0, slots := 0, locals := 70 } 6) (cq : zq_v (zF E) X (wc_m E r)) (hK : ∀ (y4 : Int32), K y4 = some r → zj (zF E) X 0 0 (wc_m E G) 155 [some (.ref (ad_p E 0)), some (.int x1), none, none, some (.int y4), none] []) : ∀ (k : Nat) (x4 : Int32) (x5 : Int32), mM_play_101 n G x1 K k x4 x5 = some r → zj (zF E) X 0 0 (wc_m E G) 101 [some (.ref (ad_p E 0)), some (.int x1), none, none, some (.int x4), some (.int x5)] [] := by
  intro k
  induction k with
  | zero => intro x4 x5 h; cases h
  | succ k ih =>
    intro x4 x5 h
    rw [mM_play_101] at h
    refine zz_iload cx dn_X4_play_101 rfl ?_
    refine zz_aload_n cx dn_X4_play_103 rfl rfl ?_
    refine zz_get cx zi_X4 (v := .int (G.1 2)) (ci := 4) rfl 0 3 rfl (by decide) zk_X4_116 rfl dn_X4_play_104 ?_
    refine zz_icmp_ge cx (tgt := 155) dn_X4_play_107 (by decide) h (fun h => ?_) (fun h => ?_)
    · refine zz_less (L2 := [some (.ref (ad_p E 0)), some (.int x1), none, none, some (.int x4), none]) (⟨rfl, rfl, rfl, trivial⟩) ?_
      exact hK x4 h
    · refine zz_iload cx dn_X4_play_110 rfl ?_
      refine zz_if_eq cx (tgt := 146) dn_X4_play_112 (by decide) h (fun h => ?_) (fun h => ?_)
      · refine zz_iconst cx dn_X4_play_146 (v := (0 : Int32)) (by decide) ?_
        refine zz_istore cx dn_X4_play_147 (by decide) rfl ?_
        refine zz_iinc cx dn_X4_play_149 (d := (1 : Int32)) rfl (by decide) (by decide) rfl ?_
        refine zz_goto cx dn_X4_play_152 (tgt := 101) (by decide) ?_
        exact ih (0 : Int32) (x5 + (1 : Int32)) h
      · refine zz_aload_n cx dn_X4_play_115 rfl rfl ?_
        refine zz_iload cx dn_X4_play_116 rfl ?_
        refine zz_iload_n cx dn_X4_play_118 rfl rfl ?_
        refine gs_bind h (fun q1 e_q1 h => ?_)
        refine zz_callVi cx (As := [.int x5, .int x1]) (rest := []) (c2 := 0) (s2 := 0) (z_mM_isAround E G x5 x1 _ e_q1) zm_X4_isAround zk_X4_125 zv_X4_isAround 0 rfl rfl (by decide) rfl (Nat.le_of_ble_eq_true rfl) rfl rfl (by decide) (wc_m_addr E _ _) dn_X4_play_119 ?_
        refine zz_if_eq cx (tgt := 142) dn_X4_play_122 (by decide) h (fun h => ?_) (fun h => ?_)
        · refine zz_iconst cx dn_X4_play_142 (v := (1 : Int32)) (by decide) ?_
          refine zz_goto cx dn_X4_play_143 (tgt := 147) (by decide) ?_
          refine zz_istore cx dn_X4_play_147 (by decide) rfl ?_
          refine zz_iinc cx dn_X4_play_149 (d := (1 : Int32)) rfl (by decide) (by decide) rfl ?_
          refine zz_goto cx dn_X4_play_152 (tgt := 101) (by decide) ?_
          exact ih (1 : Int32) (x5 + (1 : Int32)) h
        · refine zz_aload_n cx dn_X4_play_125 rfl rfl ?_
          refine zz_get cx zi_X4 (v := .ref (ad_p E 19)) (ci := 4) rfl 0 25 rfl (by decide) zk_X4_69 rfl dn_X4_play_126 ?_
          refine zz_iload cx dn_X4_play_129 rfl ?_
          refine zz_iald cx 19 0 rfl rfl h (v := (gs_a G 18 x5)) rfl dn_X4_play_131 (fun h => ?_)
          refine zz_aload_n cx dn_X4_play_132 rfl rfl ?_
          refine zz_get cx zi_X4 (v := .ref (ad_p E 4)) (ci := 4) rfl 0 6 rfl (by decide) zk_X4_19 rfl dn_X4_play_133 ?_
          refine zz_iload cx dn_X4_play_136 rfl ?_
          refine zz_iald cx 4 0 rfl rfl h (v := (gs_a G 3 x5)) rfl dn_X4_play_138 (fun h => ?_)
          refine zz_icmp_ne cx (tgt := 146) dn_X4_play_139 (by decide) h (fun h => ?_) (fun h => ?_)
          · refine zz_iconst cx dn_X4_play_142 (v := (1 : Int32)) (by decide) ?_
            refine zz_goto cx dn_X4_play_143 (tgt := 147) (by decide) ?_
            refine zz_istore cx dn_X4_play_147 (by decide) rfl ?_
            refine zz_iinc cx dn_X4_play_149 (d := (1 : Int32)) rfl (by decide) (by decide) rfl ?_
            refine zz_goto cx dn_X4_play_152 (tgt := 101) (by decide) ?_
            exact ih (1 : Int32) (x5 + (1 : Int32)) h
          · refine zz_iconst cx dn_X4_play_146 (v := (0 : Int32)) (by decide) ?_
            refine zz_istore cx dn_X4_play_147 (by decide) rfl ?_
            refine zz_iinc cx dn_X4_play_149 (d := (1 : Int32)) rfl (by decide) (by decide) rfl ?_
            refine zz_goto cx dn_X4_play_152 (tgt := 101) (by decide) ?_
            exact ih (0 : Int32) (x5 + (1 : Int32)) h
set_option maxHeartbeats 4000000 in
set_option maxRecDepth 100000 in
theorem z_mM_play_j257 (E : ze_T) (n : Nat) (G : gs_T) (x1 x4 : Int32) (r : gs_T) (X : zx_T) (cx : zx (zF E) X cn_X4_play yn_X4_play.cls { frames := 3, cells := 0, slots := 0, locals := 70 } 6) (cq : zq_v (zF E) X (wc_m E r)) (h : mM_play_j257 n G x1 x4 = some r) : zj (zF E) X 0 0 (wc_m E G) 257 [some (.ref (ad_p E 0)), some (.int x1), none, none, some (.int x4), none] [] := by
  unfold mM_play_j257 at h
  refine zz_iload cx dn_X4_play_257 rfl ?_
  refine zz_if_eq cx (tgt := 338) dn_X4_play_259 (by decide) h (fun h => ?_) (fun h => ?_)
  · refine zz_aload_n cx dn_X4_play_338 rfl rfl ?_
    refine zz_iload_n cx dn_X4_play_339 rfl rfl ?_
    refine gs_bind h (fun q1 e_q1 h => ?_)
    refine zz_callVv cx (As := [.int x1]) (rest := []) (c2 := 0) (s2 := 0) (z_mM_theEnd E n G x1 _ e_q1) zm_X4_theEnd zk_X4_177 zv_X4_theEnd 0 rfl rfl (by decide) rfl (Nat.le_of_ble_eq_true rfl) rfl rfl (by decide) (wc_m_addr E _ _) dn_X4_play_340 ?_
    obtain rfl := Option.some.inj h
    exact zz_vret cx cq (by decide) (by decide) dn_X4_play_343
  · refine zz_aload_n cx dn_X4_play_262 rfl rfl ?_
    refine zz_get cx zi_X4 (v := .ref (ad_p E 10)) (ci := 4) rfl 0 13 rfl (by decide) zk_X4_37 rfl dn_X4_play_263 ?_
    refine zz_iload_n cx dn_X4_play_266 rfl rfl ?_
    refine zz_zald cx 10 1 rfl rfl h (v := (gs_a G 9 x1)) rfl dn_X4_play_267 (fun h => ?_)
    refine zz_if_eq cx (tgt := 338) dn_X4_play_268 (by decide) h (fun h => ?_) (fun h => ?_)
    · refine zz_aload_n cx dn_X4_play_338 rfl rfl ?_
      refine zz_iload_n cx dn_X4_play_339 rfl rfl ?_
      refine gs_bind h (fun q2 e_q2 h => ?_)
      refine zz_callVv cx (As := [.int x1]) (rest := []) (c2 := 0) (s2 := 0) (z_mM_theEnd E n G x1 _ e_q2) zm_X4_theEnd zk_X4_177 zv_X4_theEnd 0 rfl rfl (by decide) rfl (Nat.le_of_ble_eq_true rfl) rfl rfl (by decide) (wc_m_addr E _ _) dn_X4_play_340 ?_
      obtain rfl := Option.some.inj h
      exact zz_vret cx cq (by decide) (by decide) dn_X4_play_343
    · refine zz_aload_n cx dn_X4_play_271 rfl rfl ?_
      refine zz_get cx zi_X4 (v := .ref (ad_p E 20)) (ci := 4) rfl 0 26 rfl (by decide) zk_X4_72 rfl dn_X4_play_272 ?_
      refine zz_iload_n cx dn_X4_play_275 rfl rfl ?_
      refine zz_zald cx 20 1 rfl rfl h (v := (gs_a G 19 x1)) rfl dn_X4_play_276 (fun h => ?_)
      refine zz_if_ne cx (tgt := 338) dn_X4_play_277 (by decide) h (fun h => ?_) (fun h => ?_)
      · refine zz_aload_n cx dn_X4_play_280 rfl rfl ?_
        refine zz_get cx zi_X4 (v := .ref (ad_p E 20)) (ci := 4) rfl 0 26 rfl (by decide) zk_X4_72 rfl dn_X4_play_281 ?_
        refine zz_iload_n cx dn_X4_play_284 rfl rfl ?_
        refine zz_iconst cx dn_X4_play_285 (v := (1 : Int32)) (by decide) ?_
        refine zz_zast cx 20 1 rfl rfl h (ws2 := (wc_m E (gs_sa G 19 x1 (vp_nar .boolean (1 : Int32))))) (wc_m_a19 E _ _ _) dn_X4_play_286 (fun h => ?_)
        refine zz_aload_n cx dn_X4_play_287 rfl rfl ?_
        refine zz_dup cx dn_X4_play_288 rfl ?_
        refine zz_get cx zi_X4 (v := .int (G.1 6)) (ci := 4) rfl 0 24 rfl (by decide) zk_X4_143 rfl dn_X4_play_289 ?_
        refine zz_iconst cx dn_X4_play_292 (v := (1 : Int32)) (by decide) ?_
        refine zz_iadd cx dn_X4_play_293 ?_
        refine zz_put cx (ws2 := (wc_m E (gs_sv (gs_sa G 19 x1 (vp_nar .boolean (1 : Int32))) 6 ((G.1 6) + (1 : Int32))))) (ty := .int) (ci := 4) zi_X4 fk_X4 nm_X4 rfl 0 24 rfl (by decide) zk_X4_143 rfl (by decide +kernel) rfl rfl (Nat.le_of_ble_eq_true rfl) (wc_m_s6 E _ _) dn_X4_play_294 ?_
        refine zz_aload_n cx dn_X4_play_297 rfl rfl ?_
        refine zz_iload_n cx dn_X4_play_298 rfl rfl ?_
        refine zz_put cx (ws2 := (wc_m E (gs_sv (gs_sv (gs_sa G 19 x1 (vp_nar .boolean (1 : Int32))) 6 ((G.1 6) + (1 : Int32))) 7 x1))) (ty := .int) (ci := 4) zi_X4 fk_X4 nm_X4 rfl 0 27 rfl (by decide) zk_X4_146 rfl (by decide +kernel) rfl rfl (Nat.le_of_ble_eq_true rfl) (wc_m_s7 E _ _) dn_X4_play_299 ?_
        refine zz_aload_n cx dn_X4_play_302 rfl rfl ?_
        refine zz_iconst cx dn_X4_play_303 (v := (0 : Int32)) (by decide) ?_
        refine zz_put cx (ws2 := (wc_m E (gs_sv (gs_sv (gs_sv (gs_sa G 19 x1 (vp_nar .boolean (1 : Int32))) 6 ((G.1 6) + (1 : Int32))) 7 x1) 8 (0 : Int32)))) (ty := .boolean) (ci := 4) zi_X4 fk_X4 nm_X4 rfl 0 28 rfl (by decide) zk_X4_149 rfl (by decide +kernel) rfl rfl (Nat.le_of_ble_eq_true rfl) (wc_m_s8 E _ _) dn_X4_play_304 ?_
        refine zz_aload_n cx dn_X4_play_307 rfl rfl ?_
        refine gs_bind h (fun q4 e_q4 h => ?_)
        refine zz_callVv cx (As := []) (rest := []) (c2 := 0) (s2 := 0) (z_mM_leaveAll E n (gs_sv (gs_sv (gs_sv (gs_sa G 19 x1 (vp_nar .boolean (1 : Int32))) 6 ((G.1 6) + (1 : Int32))) 7 x1) 8 (0 : Int32)) _ e_q4) zm_X4_leaveAll zk_X4_156 zv_X4_leaveAll 0 rfl rfl (by decide) rfl (Nat.le_of_ble_eq_true rfl) rfl rfl (by decide) (wc_m_addr E _ _) dn_X4_play_308 ?_
        refine zz_aload_n cx dn_X4_play_311 rfl rfl ?_
        refine zz_aload_n cx dn_X4_play_312 rfl rfl ?_
        refine zz_get cx zi_X4 (v := .ref (ad_p E 11)) (ci := 4) rfl 0 14 rfl (by decide) zk_X4_41 rfl dn_X4_play_313 ?_
        refine zz_iload_n cx dn_X4_play_316 rfl rfl ?_
        refine zz_iald cx 11 0 rfl rfl h (v := (gs_a q4 10 x1)) rfl dn_X4_play_317 (fun h => ?_)
        refine zz_iconst cx dn_X4_play_318 (v := (1 : Int32)) (by decide) ?_
        refine zz_icmp_ne cx (tgt := 331) dn_X4_play_319 (by decide) h (fun h => ?_) (fun h => ?_)
        · refine zz_aload_n cx dn_X4_play_322 rfl rfl ?_
          refine zz_get cx zi_X4 (v := .ref (ad_p E 9)) (ci := 4) rfl 0 12 rfl (by decide) zk_X4_34 rfl dn_X4_play_323 ?_
          refine zz_iconst cx dn_X4_play_326 (v := (0 : Int32)) (by decide) ?_
          refine zz_iald cx 9 0 rfl rfl h (v := (gs_a q4 8 (0 : Int32))) rfl dn_X4_play_327 (fun h => ?_)
          refine zz_goto cx dn_X4_play_328 (tgt := 332) (by decide) ?_
          refine zz_put cx (ws2 := (wc_m E (gs_sv q4 9 (gs_a q4 8 (0 : Int32))))) (ty := .int) (ci := 4) zi_X4 fk_X4 nm_X4 rfl 0 29 rfl (by decide) zk_X4_166 rfl (by decide +kernel) rfl rfl (Nat.le_of_ble_eq_true rfl) (wc_m_s9 E _ _) dn_X4_play_332 ?_
          refine zz_goto cx dn_X4_play_335 (tgt := 343) (by decide) ?_
          obtain rfl := Option.some.inj h
          exact zz_vret cx cq (by decide) (by decide) dn_X4_play_343
        · refine zz_iconst cx dn_X4_play_331 (v := (0 : Int32)) (by decide) ?_
          refine zz_put cx (ws2 := (wc_m E (gs_sv q4 9 (0 : Int32)))) (ty := .int) (ci := 4) zi_X4 fk_X4 nm_X4 rfl 0 29 rfl (by decide) zk_X4_166 rfl (by decide +kernel) rfl rfl (Nat.le_of_ble_eq_true rfl) (wc_m_s9 E _ _) dn_X4_play_332 ?_
          refine zz_goto cx dn_X4_play_335 (tgt := 343) (by decide) ?_
          obtain rfl := Option.some.inj h
          exact zz_vret cx cq (by decide) (by decide) dn_X4_play_343
      · refine zz_aload_n cx dn_X4_play_338 rfl rfl ?_
        refine zz_iload_n cx dn_X4_play_339 rfl rfl ?_
        refine gs_bind h (fun q3 e_q3 h => ?_)
        refine zz_callVv cx (As := [.int x1]) (rest := []) (c2 := 0) (s2 := 0) (z_mM_theEnd E n G x1 _ e_q3) zm_X4_theEnd zk_X4_177 zv_X4_theEnd 0 rfl rfl (by decide) rfl (Nat.le_of_ble_eq_true rfl) rfl rfl (by decide) (wc_m_addr E _ _) dn_X4_play_340 ?_
        obtain rfl := Option.some.inj h
        exact zz_vret cx cq (by decide) (by decide) dn_X4_play_343
set_option maxHeartbeats 4000000 in
set_option maxRecDepth 100000 in
theorem z_mM_play_j207 (E : ze_T) (n : Nat) (G : gs_T) (x1 x4 x5 : Int32) (r : gs_T) (X : zx_T) (cx : zx (zF E) X cn_X4_play yn_X4_play.cls { frames := 3, cells := 0, slots := 0, locals := 70 } 6) (cq : zq_v (zF E) X (wc_m E r)) (h : mM_play_j207 n G x1 x4 x5 = some r) : zj (zF E) X 0 0 (wc_m E G) 207 [some (.ref (ad_p E 0)), some (.int x1), none, none, some (.int x4), some (.int x5)] [] := by
  unfold mM_play_j207 at h
  refine zz_iload cx dn_X4_play_207 rfl ?_
  refine zz_if_eq cx (tgt := 257) dn_X4_play_209 (by decide) h (fun h => ?_) (fun h => ?_)
  · refine zz_less (L2 := [some (.ref (ad_p E 0)), some (.int x1), none, none, some (.int x4), none]) (⟨rfl, rfl, rfl, trivial⟩) ?_
    exact z_mM_play_j257 E n G x1 x4 _ X cx cq h
  · refine zz_aload_n cx dn_X4_play_212 rfl rfl ?_
    refine zz_get cx zi_X4 (v := .ref (ad_p E 9)) (ci := 4) rfl 0 12 rfl (by decide) zk_X4_34 rfl dn_X4_play_213 ?_
    refine zz_iconst cx dn_X4_play_216 (v := (2 : Int32)) (by decide) ?_
    refine zz_iald cx 9 0 rfl rfl h (v := (gs_a G 8 (2 : Int32))) rfl dn_X4_play_217 (fun h => ?_)
    refine zz_iload_n cx dn_X4_play_218 rfl rfl ?_
    refine zz_icmp_ne cx (tgt := 257) dn_X4_play_219 (by decide) h (fun h => ?_) (fun h => ?_)
    · refine zz_iload cx dn_X4_play_222 rfl ?_
      refine zz_iconst cx dn_X4_play_224 (v := (2 : Int32)) (by decide) ?_
      refine zz_icmp_ne cx (tgt := 257) dn_X4_play_225 (by decide) h (fun h => ?_) (fun h => ?_)
      · refine zz_aload_n cx dn_X4_play_228 rfl rfl ?_
        refine zz_get cx zi_X4 (v := .int (G.1 8)) (ci := 4) rfl 0 28 rfl (by decide) zk_X4_149 rfl dn_X4_play_229 ?_
        refine zz_if_ne cx (tgt := 257) dn_X4_play_232 (by decide) h (fun h => ?_) (fun h => ?_)
        · refine zz_aload_n cx dn_X4_play_235 rfl rfl ?_
          refine zz_iconst cx dn_X4_play_236 (v := (1 : Int32)) (by decide) ?_
          refine zz_put cx (ws2 := (wc_m E (gs_sv G 8 (1 : Int32)))) (ty := .boolean) (ci := 4) zi_X4 fk_X4 nm_X4 rfl 0 28 rfl (by decide) zk_X4_149 rfl (by decide +kernel) rfl rfl (Nat.le_of_ble_eq_true rfl) (wc_m_s8 E _ _) dn_X4_play_237 ?_
          refine zz_aload_n cx dn_X4_play_240 rfl rfl ?_
          refine gs_bind h (fun q1 e_q1 h => ?_)
          refine zz_callVv cx (As := []) (rest := []) (c2 := 0) (s2 := 0) (z_mM_leaveAll E n (gs_sv G 8 (1 : Int32)) _ e_q1) zm_X4_leaveAll zk_X4_156 zv_X4_leaveAll 0 rfl rfl (by decide) rfl (Nat.le_of_ble_eq_true rfl) rfl rfl (by decide) (wc_m_addr E _ _) dn_X4_play_241 ?_
          refine zz_aload_n cx dn_X4_play_244 rfl rfl ?_
          refine zz_aload_n cx dn_X4_play_245 rfl rfl ?_
          refine zz_get cx zi_X4 (v := .ref (ad_p E 9)) (ci := 4) rfl 0 12 rfl (by decide) zk_X4_34 rfl dn_X4_play_246 ?_
          refine zz_iconst cx dn_X4_play_249 (v := (1 : Int32)) (by decide) ?_
          refine zz_iald cx 9 0 rfl rfl h (v := (gs_a q1 8 (1 : Int32))) rfl dn_X4_play_250 (fun h => ?_)
          refine zz_put cx (ws2 := (wc_m E (gs_sv q1 9 (gs_a q1 8 (1 : Int32))))) (ty := .int) (ci := 4) zi_X4 fk_X4 nm_X4 rfl 0 29 rfl (by decide) zk_X4_166 rfl (by decide +kernel) rfl rfl (Nat.le_of_ble_eq_true rfl) (wc_m_s9 E _ _) dn_X4_play_251 ?_
          refine zz_goto cx dn_X4_play_254 (tgt := 343) (by decide) ?_
          obtain rfl := Option.some.inj h
          exact zz_vret cx cq (by decide) (by decide) dn_X4_play_343
        · refine zz_less (L2 := [some (.ref (ad_p E 0)), some (.int x1), none, none, some (.int x4), none]) (⟨rfl, rfl, rfl, trivial⟩) ?_
          exact z_mM_play_j257 E n G x1 x4 _ X cx cq h
      · refine zz_less (L2 := [some (.ref (ad_p E 0)), some (.int x1), none, none, some (.int x4), none]) (⟨rfl, rfl, rfl, trivial⟩) ?_
        exact z_mM_play_j257 E n G x1 x4 _ X cx cq h
    · refine zz_less (L2 := [some (.ref (ad_p E 0)), some (.int x1), none, none, some (.int x4), none]) (⟨rfl, rfl, rfl, trivial⟩) ?_
      exact z_mM_play_j257 E n G x1 x4 _ X cx cq h
set_option maxHeartbeats 4000000 in
set_option maxRecDepth 100000 in
theorem z_mM_play_j176 (E : ze_T) (n : Nat) (G : gs_T) (x1 x4 s0 : Int32) (r : gs_T) (X : zx_T) (cx : zx (zF E) X cn_X4_play yn_X4_play.cls { frames := 3, cells := 0, slots := 0, locals := 70 } 6) (cq : zq_v (zF E) X (wc_m E r)) (h : mM_play_j176 n G x1 x4 s0 = some r) : zj (zF E) X 0 0 (wc_m E G) 176 [some (.ref (ad_p E 0)), some (.int x1), none, none, some (.int x4), none] [.int s0] := by
  unfold mM_play_j176 at h
  refine zz_istore cx dn_X4_play_176 (by decide) rfl ?_
  refine zz_iload cx dn_X4_play_178 rfl ?_
  refine zz_if_eq cx (tgt := 207) dn_X4_play_180 (by decide) h (fun h => ?_) (fun h => ?_)
  · exact z_mM_play_j207 E n G x1 x4 s0 _ X cx cq h
  · refine zz_aload_n cx dn_X4_play_183 rfl rfl ?_
    refine zz_get cx zi_X4 (v := .ref (ad_p E 9)) (ci := 4) rfl 0 12 rfl (by decide) zk_X4_34 rfl dn_X4_play_184 ?_
    refine zz_iconst cx dn_X4_play_187 (v := (3 : Int32)) (by decide) ?_
    refine zz_iald cx 9 0 rfl rfl h (v := (gs_a G 8 (3 : Int32))) rfl dn_X4_play_188 (fun h => ?_)
    refine zz_iload_n cx dn_X4_play_189 rfl rfl ?_
    refine zz_icmp_ne cx (tgt := 207) dn_X4_play_190 (by decide) h (fun h => ?_) (fun h => ?_)
    · refine zz_iload cx dn_X4_play_193 rfl ?_
      refine zz_iconst cx dn_X4_play_195 (v := (1 : Int32)) (by decide) ?_
      refine zz_icmp_ne cx (tgt := 207) dn_X4_play_196 (by decide) h (fun h => ?_) (fun h => ?_)
      · refine zz_aload_n cx dn_X4_play_199 rfl rfl ?_
        refine zz_iconst cx dn_X4_play_200 (v := (-1 : Int32)) (by decide) ?_
        refine zz_put cx (ws2 := (wc_m E (gs_sv G 9 (-1 : Int32)))) (ty := .int) (ci := 4) zi_X4 fk_X4 nm_X4 rfl 0 29 rfl (by decide) zk_X4_166 rfl (by decide +kernel) rfl rfl (Nat.le_of_ble_eq_true rfl) (wc_m_s9 E _ _) dn_X4_play_201 ?_
        refine zz_goto cx dn_X4_play_204 (tgt := 343) (by decide) ?_
        obtain rfl := Option.some.inj h
        exact zz_vret cx cq (by decide) (by decide) dn_X4_play_343
      · exact z_mM_play_j207 E n G x1 x4 s0 _ X cx cq h
    · exact z_mM_play_j207 E n G x1 x4 s0 _ X cx cq h
set_option maxHeartbeats 4000000 in
set_option maxRecDepth 100000 in
theorem z_mM_play_j84 (E : ze_T) (n : Nat) (G : gs_T) (x1 s0 s1 : Int32) (r : gs_T) (X : zx_T) (cx : zx (zF E) X cn_X4_play yn_X4_play.cls { frames := 3, cells := 0, slots := 0, locals := 70 } 6) (cq : zq_v (zF E) X (wc_m E r)) (h : mM_play_j84 n G x1 s0 s1 = some r) : zj (zF E) X 0 0 (wc_m E G) 84 [some (.ref (ad_p E 0)), some (.int x1), none, none, none, none] [.int s1, .int s0, .ref (ad_p E 17)] := by
  unfold mM_play_j84 at h
  refine zz_iast cx 17 0 rfl rfl h (ws2 := (wc_m E (gs_sa G 16 s0 s1))) (wc_m_a16 E _ _ _) dn_X4_play_84 (fun h => ?_)
  refine zz_aload_n cx dn_X4_play_85 rfl rfl ?_
  refine zz_dup cx dn_X4_play_86 rfl ?_
  refine zz_get cx zi_X4 (v := .int (G.1 5)) (ci := 4) rfl 0 18 rfl (by decide) zk_X4_140 rfl dn_X4_play_87 ?_
  refine zz_iconst cx dn_X4_play_90 (v := (1 : Int32)) (by decide) ?_
  refine zz_iadd cx dn_X4_play_91 ?_
  refine zz_put cx (ws2 := (wc_m E (gs_sv (gs_sa G 16 s0 s1) 5 ((G.1 5) + (1 : Int32))))) (ty := .int) (ci := 4) zi_X4 fk_X4 nm_X4 rfl 0 18 rfl (by decide) zk_X4_140 rfl (by decide +kernel) rfl rfl (Nat.le_of_ble_eq_true rfl) (wc_m_s5 E _ _) dn_X4_play_92 ?_
  refine zz_iconst cx dn_X4_play_95 (v := (1 : Int32)) (by decide) ?_
  refine zz_istore cx dn_X4_play_96 (by decide) rfl ?_
  refine zz_iconst cx dn_X4_play_98 (v := (0 : Int32)) (by decide) ?_
  refine zz_istore cx dn_X4_play_99 (by decide) rfl ?_
  refine z_mM_play_101 E n (gs_sv (gs_sa G 16 s0 s1) 5 ((G.1 5) + (1 : Int32))) x1 _ _ X cx cq ?_ n (1 : Int32) (0 : Int32) h
  intro y4_0 h
  refine zz_aload_n cx dn_X4_play_155 rfl rfl ?_
  refine zz_get cx zi_X4 (v := .int (G.1 7)) (ci := 4) rfl 0 27 rfl (by decide) zk_X4_146 rfl dn_X4_play_156 ?_
  refine zz_iconst cx dn_X4_play_159 (v := (-1 : Int32)) (by decide) ?_
  refine zz_icmp_ne cx (tgt := 167) dn_X4_play_160 (by decide) h (fun h => ?_) (fun h => ?_)
  · refine zz_iconst cx dn_X4_play_163 (v := (0 : Int32)) (by decide) ?_
    refine zz_goto cx dn_X4_play_164 (tgt := 176) (by decide) ?_
    exact z_mM_play_j176 E n (gs_sv (gs_sa G 16 s0 s1) 5 ((G.1 5) + (1 : Int32))) x1 y4_0 (0 : Int32) _ X cx cq h
  · refine zz_aload_n cx dn_X4_play_167 rfl rfl ?_
    refine zz_get cx zi_X4 (v := .ref (ad_p E 12)) (ci := 4) rfl 0 15 rfl (by decide) zk_X4_44 rfl dn_X4_play_168 ?_
    refine zz_aload_n cx dn_X4_play_171 rfl rfl ?_
    refine zz_get cx zi_X4 (v := .int (G.1 7)) (ci := 4) rfl 0 27 rfl (by decide) zk_X4_146 rfl dn_X4_play_172 ?_
    refine zz_iald cx 12 0 rfl rfl h (v := (gs_a G 11 (G.1 7))) rfl dn_X4_play_175 (fun h => ?_)
    exact z_mM_play_j176 E n (gs_sv (gs_sa G 16 s0 s1) 5 ((G.1 5) + (1 : Int32))) x1 y4_0 (gs_a G 11 (G.1 7)) _ X cx cq h
set_option maxHeartbeats 4000000 in
set_option maxRecDepth 100000 in
theorem z_mM_play_j60 (E : ze_T) (n : Nat) (G : gs_T) (x1 x3 s0 s1 : Int32) (r : gs_T) (X : zx_T) (cx : zx (zF E) X cn_X4_play yn_X4_play.cls { frames := 3, cells := 0, slots := 0, locals := 70 } 6) (cq : zq_v (zF E) X (wc_m E r)) (h : mM_play_j60 n G x1 x3 s0 s1 = some r) : zj (zF E) X 0 0 (wc_m E G) 60 [some (.ref (ad_p E 0)), some (.int x1), none, some (.int x3), none, none] [.int s1, .int s0, .ref (ad_p E 16)] := by
  unfold mM_play_j60 at h
  refine zz_iast cx 16 0 rfl rfl h (ws2 := (wc_m E (gs_sa G 15 s0 s1))) (wc_m_a15 E _ _ _) dn_X4_play_60 (fun h => ?_)
  refine zz_aload_n cx dn_X4_play_61 rfl rfl ?_
  refine zz_get cx zi_X4 (v := .ref (ad_p E 17)) (ci := 4) rfl 0 22 rfl (by decide) zk_X4_63 rfl dn_X4_play_62 ?_
  refine zz_aload_n cx dn_X4_play_65 rfl rfl ?_
  refine zz_get cx zi_X4 (v := .int (G.1 5)) (ci := 4) rfl 0 18 rfl (by decide) zk_X4_140 rfl dn_X4_play_66 ?_
  refine zz_iload_n cx dn_X4_play_69 rfl rfl ?_
  refine zz_iconst cx dn_X4_play_70 (v := (-1 : Int32)) (by decide) ?_
  refine zz_icmp_ne cx (tgt := 78) dn_X4_play_71 (by decide) h (fun h => ?_) (fun h => ?_)
  · refine zz_iconst cx dn_X4_play_74 (v := (0 : Int32)) (by decide) ?_
    refine zz_goto cx dn_X4_play_75 (tgt := 84) (by decide) ?_
    refine zz_less (L2 := [some (.ref (ad_p E 0)), some (.int x1), none, none, none, none]) (⟨rfl, rfl, trivial⟩) ?_
    exact z_mM_play_j84 E n (gs_sa G 15 s0 s1) x1 (G.1 5) (0 : Int32) _ X cx cq h
  · refine zz_aload_n cx dn_X4_play_78 rfl rfl ?_
    refine zz_get cx zi_X4 (v := .ref (ad_p E 19)) (ci := 4) rfl 0 25 rfl (by decide) zk_X4_69 rfl dn_X4_play_79 ?_
    refine zz_iload_n cx dn_X4_play_82 rfl rfl ?_
    refine zz_iald cx 19 0 rfl rfl h (v := (gs_a G 18 x3)) rfl dn_X4_play_83 (fun h => ?_)
    refine zz_less (L2 := [some (.ref (ad_p E 0)), some (.int x1), none, none, none, none]) (⟨rfl, rfl, trivial⟩) ?_
    exact z_mM_play_j84 E n (gs_sa G 15 s0 s1) x1 (G.1 5) (gs_a G 18 x3) _ X cx cq h
set_option maxHeartbeats 4000000 in
set_option maxRecDepth 100000 in
theorem z_mM_play (E : ze_T) (n : Nat) (G : gs_T) (x1 : Int32) (r : gs_T) (h : mM_play n G x1 = some r) : zc_v (zF E) (wc_m E G) (wc_m E r) yn_X4_play cn_X4_play 6 { frames := 3, cells := 0, slots := 0, locals := 70 } [.ref (ad_p E 0), .int x1] := by
  unfold mM_play at h
  refine zc_v_of (by decide) rfl (Nat.le_of_ble_eq_true rfl) (fun X cx cq => ?_)
  refine zz_aload_n cx dn_X4_play_0 rfl rfl ?_
  refine zz_iload_n cx dn_X4_play_1 rfl rfl ?_
  refine zz_iconst cx dn_X4_play_2 (v := (1 : Int32)) (by decide) ?_
  refine gs_bind h (fun q1 e_q1 h => ?_)
  refine zz_callVi cx (As := [.int x1, .int (1 : Int32)]) (rest := []) (c2 := 0) (s2 := 0) (z_mM_aroundIt E n G x1 (1 : Int32) _ e_q1) zm_X4_aroundIt zk_X4_183 zv_X4_aroundIt 0 rfl rfl (by decide) rfl (Nat.le_of_ble_eq_true rfl) rfl rfl (by decide) (wc_m_addr E _ _) dn_X4_play_3 ?_
  refine zz_istore_n cx dn_X4_play_6 rfl (by decide) rfl ?_
  refine zz_aload_n cx dn_X4_play_7 rfl rfl ?_
  refine zz_iload_n cx dn_X4_play_8 rfl rfl ?_
  refine zz_iconst cx dn_X4_play_9 (v := (0 : Int32)) (by decide) ?_
  refine gs_bind h (fun q2 e_q2 h => ?_)
  refine zz_callVi cx (As := [.int x1, .int (0 : Int32)]) (rest := []) (c2 := 0) (s2 := 0) (z_mM_aroundIt E n G x1 (0 : Int32) _ e_q2) zm_X4_aroundIt zk_X4_183 zv_X4_aroundIt 0 rfl rfl (by decide) rfl (Nat.le_of_ble_eq_true rfl) rfl rfl (by decide) (wc_m_addr E _ _) dn_X4_play_10 ?_
  refine zz_istore_n cx dn_X4_play_13 rfl (by decide) rfl ?_
  refine zz_aload_n cx dn_X4_play_14 rfl rfl ?_
  refine zz_get cx zi_X4 (v := .ref (ad_p E 14)) (ci := 4) rfl 0 19 rfl (by decide) zk_X4_54 rfl dn_X4_play_15 ?_
  refine zz_aload_n cx dn_X4_play_18 rfl rfl ?_
  refine zz_get cx zi_X4 (v := .int (G.1 5)) (ci := 4) rfl 0 18 rfl (by decide) zk_X4_140 rfl dn_X4_play_19 ?_
  refine zz_iload_n cx dn_X4_play_22 rfl rfl ?_
  refine zz_iast cx 14 0 rfl rfl h (ws2 := (wc_m E (gs_sa G 13 (G.1 5) x1))) (wc_m_a13 E _ _ _) dn_X4_play_23 (fun h => ?_)
  refine zz_aload_n cx dn_X4_play_24 rfl rfl ?_
  refine zz_get cx zi_X4 (v := .ref (ad_p E 15)) (ci := 4) rfl 0 20 rfl (by decide) zk_X4_57 rfl dn_X4_play_25 ?_
  refine zz_aload_n cx dn_X4_play_28 rfl rfl ?_
  refine zz_get cx zi_X4 (v := .int (G.1 5)) (ci := 4) rfl 0 18 rfl (by decide) zk_X4_140 rfl dn_X4_play_29 ?_
  refine zz_aload_n cx dn_X4_play_32 rfl rfl ?_
  refine zz_get cx zi_X4 (v := .int (G.1 6)) (ci := 4) rfl 0 24 rfl (by decide) zk_X4_143 rfl dn_X4_play_33 ?_
  refine zz_iast cx 15 0 rfl rfl h (ws2 := (wc_m E (gs_sa (gs_sa G 13 (G.1 5) x1) 14 (G.1 5) (G.1 6)))) (wc_m_a14 E _ _ _) dn_X4_play_36 (fun h => ?_)
  refine zz_aload_n cx dn_X4_play_37 rfl rfl ?_
  refine zz_get cx zi_X4 (v := .ref (ad_p E 16)) (ci := 4) rfl 0 21 rfl (by decide) zk_X4_60 rfl dn_X4_play_38 ?_
  refine zz_aload_n cx dn_X4_play_41 rfl rfl ?_
  refine zz_get cx zi_X4 (v := .int (G.1 5)) (ci := 4) rfl 0 18 rfl (by decide) zk_X4_140 rfl dn_X4_play_42 ?_
  refine zz_iload_n cx dn_X4_play_45 rfl rfl ?_
  refine zz_iconst cx dn_X4_play_46 (v := (-1 : Int32)) (by decide) ?_
  refine zz_icmp_ne cx (tgt := 54) dn_X4_play_47 (by decide) h (fun h => ?_) (fun h => ?_)
  · refine zz_iconst cx dn_X4_play_50 (v := (0 : Int32)) (by decide) ?_
    refine zz_goto cx dn_X4_play_51 (tgt := 60) (by decide) ?_
    refine zz_less (L2 := [some (.ref (ad_p E 0)), some (.int x1), none, some (.int q2), none, none]) (⟨rfl, rfl, rfl, trivial⟩) ?_
    exact z_mM_play_j60 E n (gs_sa (gs_sa G 13 (G.1 5) x1) 14 (G.1 5) (G.1 6)) x1 q2 (G.1 5) (0 : Int32) _ X cx cq h
  · refine zz_aload_n cx dn_X4_play_54 rfl rfl ?_
    refine zz_get cx zi_X4 (v := .ref (ad_p E 19)) (ci := 4) rfl 0 25 rfl (by decide) zk_X4_69 rfl dn_X4_play_55 ?_
    refine zz_iload_n cx dn_X4_play_58 rfl rfl ?_
    refine zz_iald cx 19 0 rfl rfl h (v := (gs_a G 18 q1)) rfl dn_X4_play_59 (fun h => ?_)
    refine zz_less (L2 := [some (.ref (ad_p E 0)), some (.int x1), none, some (.int q2), none, none]) (⟨rfl, rfl, rfl, trivial⟩) ?_
    exact z_mM_play_j60 E n (gs_sa (gs_sa G 13 (G.1 5) x1) 14 (G.1 5) (G.1 6)) x1 q2 (G.1 5) (gs_a G 18 q1) _ X cx cq h
set_option maxHeartbeats 4000000 in
set_option maxRecDepth 100000 in
theorem z_mM_comeTo_92 (E : ze_T) (n : Nat) (G : gs_T) (x1 : Int32) (K : Int32 → Option gs_T) (r : gs_T) (X : zx_T) (cx : zx (zF E) X cn_X4_comeTo yn_X4_comeTo.cls { frames := 4, cells := 0, slots := 0, locals := 95 } 4) (cq : zq_v (zF E) X (wc_m E r)) (hK : ∀ (y3 : Int32), K y3 = some r → zj (zF E) X 0 0 (wc_m E G) 116 [some (.ref (ad_p E 0)), some (.int x1), none, some (.int y3)] []) : ∀ (k : Nat) (x3 : Int32), mM_comeTo_92 n G x1 K k x3 = some r → zj (zF E) X 0 0 (wc_m E G) 92 [some (.ref (ad_p E 0)), some (.int x1), none, some (.int x3)] [] := by
  intro k
  induction k with
  | zero => intro x3 h; cases h
  | succ k ih =>
    intro x3 h
    rw [mM_comeTo_92] at h
    refine zz_iload_n cx dn_X4_comeTo_92 rfl rfl ?_
    refine zz_aload_n cx dn_X4_comeTo_93 rfl rfl ?_
    refine zz_get cx zi_X4 (v := .int (G.1 3)) (ci := 4) rfl 0 7 rfl (by decide) zk_X4_122 rfl dn_X4_comeTo_94 ?_
    refine zz_icmp_ge cx (tgt := 116) dn_X4_comeTo_97 (by decide) h (fun h => ?_) (fun h => ?_)
    · exact hK x3 h
    · refine zz_aload_n cx dn_X4_comeTo_100 rfl rfl ?_
      refine zz_get cx zi_X4 (v := .ref (ad_p E 6)) (ci := 4) rfl 0 9 rfl (by decide) zk_X4_25 rfl dn_X4_comeTo_101 ?_
      refine zz_iload_n cx dn_X4_comeTo_104 rfl rfl ?_
      refine zz_iald cx 6 0 rfl rfl h (v := (gs_a G 5 x3)) rfl dn_X4_comeTo_105 (fun h => ?_)
      refine zz_iload_n cx dn_X4_comeTo_106 rfl rfl ?_
      refine zz_icmp_eq cx (tgt := 116) dn_X4_comeTo_107 (by decide) h (fun h => ?_) (fun h => ?_)
      · exact hK x3 h
      · refine zz_iinc cx dn_X4_comeTo_110 (d := (1 : Int32)) rfl (by decide) (by decide) rfl ?_
        refine zz_goto cx dn_X4_comeTo_113 (tgt := 92) (by decide) ?_
        exact ih (x3 + (1 : Int32)) h
set_option maxHeartbeats 4000000 in
set_option maxRecDepth 100000 in
theorem z_mM_comeTo_38 (E : ze_T) (n : Nat) (x1 x2 : Int32) (K : gs_T → Option gs_T) (r : gs_T) (X : zx_T) (cx : zx (zF E) X cn_X4_comeTo yn_X4_comeTo.cls { frames := 4, cells := 0, slots := 0, locals := 95 } 4) (cq : zq_v (zF E) X (wc_m E r)) (hK : ∀ (G1 : gs_T), K G1 = some r → zj (zF E) X 0 0 (wc_m E G1) 90 [some (.ref (ad_p E 0)), some (.int x1), none, none] []) : ∀ (k : Nat) (x3 : Int32) (G : gs_T), mM_comeTo_38 n x1 x2 K k x3 G = some r → zj (zF E) X 0 0 (wc_m E G) 38 [some (.ref (ad_p E 0)), some (.int x1), some (.int x2), some (.int x3)] [] := by
  intro k
  induction k with
  | zero => intro x3 G h; cases h
  | succ k ih =>
    intro x3 G h
    rw [mM_comeTo_38] at h
    refine zz_iload_n cx dn_X4_comeTo_38 rfl rfl ?_
    refine zz_aload_n cx dn_X4_comeTo_39 rfl rfl ?_
    refine zz_get cx zi_X4 (v := .int (G.1 2)) (ci := 4) rfl 0 3 rfl (by decide) zk_X4_116 rfl dn_X4_comeTo_40 ?_
    refine zz_icmp_ge cx (tgt := 90) dn_X4_comeTo_43 (by decide) h (fun h => ?_) (fun h => ?_)
    · refine zz_less (L2 := [some (.ref (ad_p E 0)), some (.int x1), none, none]) (⟨rfl, rfl, trivial⟩) ?_
      exact hK G h
    · refine zz_aload_n cx dn_X4_comeTo_46 rfl rfl ?_
      refine zz_iload_n cx dn_X4_comeTo_47 rfl rfl ?_
      refine zz_iload_n cx dn_X4_comeTo_48 rfl rfl ?_
      refine gs_bind h (fun q1 e_q1 h => ?_)
      refine zz_callVi cx (As := [.int x3, .int x1]) (rest := []) (c2 := 0) (s2 := 0) (z_mM_isAround E G x3 x1 _ e_q1) zm_X4_isAround zk_X4_125 zv_X4_isAround 0 rfl rfl (by decide) rfl (Nat.le_of_ble_eq_true rfl) rfl rfl (by decide) (wc_m_addr E _ _) dn_X4_comeTo_49 ?_
      refine zz_if_eq cx (tgt := 84) dn_X4_comeTo_52 (by decide) h (fun h => ?_) (fun h => ?_)
      · refine zz_iinc cx dn_X4_comeTo_84 (d := (1 : Int32)) rfl (by decide) (by decide) rfl ?_
        refine zz_goto cx dn_X4_comeTo_87 (tgt := 38) (by decide) ?_
        exact ih (x3 + (1 : Int32)) G h
      · refine zz_aload_n cx dn_X4_comeTo_55 rfl rfl ?_
        refine zz_get cx zi_X4 (v := .ref (ad_p E 19)) (ci := 4) rfl 0 25 rfl (by decide) zk_X4_69 rfl dn_X4_comeTo_56 ?_
        refine zz_iload_n cx dn_X4_comeTo_59 rfl rfl ?_
        refine zz_iald cx 19 0 rfl rfl h (v := (gs_a G 18 x3)) rfl dn_X4_comeTo_60 (fun h => ?_)
        refine zz_if_ne cx (tgt := 84) dn_X4_comeTo_61 (by decide) h (fun h => ?_) (fun h => ?_)
        · refine zz_aload_n cx dn_X4_comeTo_64 rfl rfl ?_
          refine zz_get cx zi_X4 (v := .ref (ad_p E 19)) (ci := 4) rfl 0 25 rfl (by decide) zk_X4_69 rfl dn_X4_comeTo_65 ?_
          refine zz_iload_n cx dn_X4_comeTo_68 rfl rfl ?_
          refine zz_iload_n cx dn_X4_comeTo_69 rfl rfl ?_
          refine zz_if_eq cx (tgt := 82) dn_X4_comeTo_70 (by decide) h (fun h => ?_) (fun h => ?_)
          · refine zz_iconst cx dn_X4_comeTo_82 (v := (1 : Int32)) (by decide) ?_
            refine zz_iast cx 19 0 rfl rfl h (ws2 := (wc_m E (gs_sa G 18 x3 (1 : Int32)))) (wc_m_a18 E _ _ _) dn_X4_comeTo_83 (fun h => ?_)
            refine zz_iinc cx dn_X4_comeTo_84 (d := (1 : Int32)) rfl (by decide) (by decide) rfl ?_
            refine zz_goto cx dn_X4_comeTo_87 (tgt := 38) (by decide) ?_
            exact ih (x3 + (1 : Int32)) (gs_sa G 18 x3 (1 : Int32)) h
          · refine zz_aload_n cx dn_X4_comeTo_73 rfl rfl ?_
            refine zz_get cx zi_X4 (v := .ref (ad_p E 4)) (ci := 4) rfl 0 6 rfl (by decide) zk_X4_19 rfl dn_X4_comeTo_74 ?_
            refine zz_iload_n cx dn_X4_comeTo_77 rfl rfl ?_
            refine zz_iald cx 4 0 rfl rfl h (v := (gs_a G 3 x3)) rfl dn_X4_comeTo_78 (fun h => ?_)
            refine zz_goto cx dn_X4_comeTo_79 (tgt := 83) (by decide) ?_
            refine zz_iast cx 19 0 rfl rfl h (ws2 := (wc_m E (gs_sa G 18 x3 (gs_a G 3 x3)))) (wc_m_a18 E _ _ _) dn_X4_comeTo_83 (fun h => ?_)
            refine zz_iinc cx dn_X4_comeTo_84 (d := (1 : Int32)) rfl (by decide) (by decide) rfl ?_
            refine zz_goto cx dn_X4_comeTo_87 (tgt := 38) (by decide) ?_
            exact ih (x3 + (1 : Int32)) (gs_sa G 18 x3 (gs_a G 3 x3)) h
        · refine zz_iinc cx dn_X4_comeTo_84 (d := (1 : Int32)) rfl (by decide) (by decide) rfl ?_
          refine zz_goto cx dn_X4_comeTo_87 (tgt := 38) (by decide) ?_
          exact ih (x3 + (1 : Int32)) G h
set_option maxHeartbeats 4000000 in
set_option maxRecDepth 100000 in
theorem z_mM_comeTo_j184 (E : ze_T) (n : Nat) (G : gs_T) (x1 : Int32) (r : gs_T) (X : zx_T) (cx : zx (zF E) X cn_X4_comeTo yn_X4_comeTo.cls { frames := 4, cells := 0, slots := 0, locals := 95 } 4) (cq : zq_v (zF E) X (wc_m E r)) (h : mM_comeTo_j184 n G x1 = some r) : zj (zF E) X 0 0 (wc_m E G) 184 [some (.ref (ad_p E 0)), some (.int x1), none, none] [] := by
  unfold mM_comeTo_j184 at h
  refine zz_aload_n cx dn_X4_comeTo_184 rfl rfl ?_
  refine zz_get cx zi_X4 (v := .int (G.1 5)) (ci := 4) rfl 0 18 rfl (by decide) zk_X4_140 rfl dn_X4_comeTo_185 ?_
  refine zz_sipush cx dn_X4_comeTo_188 (v := (1000 : Int32)) (by decide) ?_
  refine zz_icmp_ne cx (tgt := 212) dn_X4_comeTo_191 (by decide) h (fun h => ?_) (fun h => ?_)
  · refine zz_aload_n cx dn_X4_comeTo_194 rfl rfl ?_
    refine zz_iconst cx dn_X4_comeTo_195 (v := (1 : Int32)) (by decide) ?_
    refine zz_put cx (ws2 := (wc_m E (gs_sv G 10 (1 : Int32)))) (ty := .boolean) (ci := 4) zi_X4 fk_X4 nm_X4 rfl 0 30 rfl (by decide) zk_X4_153 rfl (by decide +kernel) rfl rfl (Nat.le_of_ble_eq_true rfl) (wc_m_s10 E _ _) dn_X4_comeTo_196 ?_
    refine zz_aload_n cx dn_X4_comeTo_199 rfl rfl ?_
    refine zz_iload_n cx dn_X4_comeTo_200 rfl rfl ?_
    refine zz_put cx (ws2 := (wc_m E (gs_sv (gs_sv G 10 (1 : Int32)) 4 x1))) (ty := .int) (ci := 4) zi_X4 fk_X4 nm_X4 rfl 0 17 rfl (by decide) zk_X4_50 rfl (by decide +kernel) rfl rfl (Nat.le_of_ble_eq_true rfl) (wc_m_s4 E _ _) dn_X4_comeTo_201 ?_
    refine zz_aload_n cx dn_X4_comeTo_204 rfl rfl ?_
    refine zz_iconst cx dn_X4_comeTo_205 (v := (-1 : Int32)) (by decide) ?_
    refine zz_put cx (ws2 := (wc_m E (gs_sv (gs_sv (gs_sv G 10 (1 : Int32)) 4 x1) 9 (-1 : Int32)))) (ty := .int) (ci := 4) zi_X4 fk_X4 nm_X4 rfl 0 29 rfl (by decide) zk_X4_166 rfl (by decide +kernel) rfl rfl (Nat.le_of_ble_eq_true rfl) (wc_m_s9 E _ _) dn_X4_comeTo_206 ?_
    refine zz_goto cx dn_X4_comeTo_209 (tgt := 217) (by decide) ?_
    obtain rfl := Option.some.inj h
    exact zz_vret cx cq (by decide) (by decide) dn_X4_comeTo_217
  · refine zz_aload_n cx dn_X4_comeTo_212 rfl rfl ?_
    refine zz_iload_n cx dn_X4_comeTo_213 rfl rfl ?_
    refine gs_bind h (fun q1 e_q1 h => ?_)
    refine zz_callVv cx (As := [.int x1]) (rest := []) (c2 := 0) (s2 := 0) (z_mM_play E n G x1 _ e_q1) zm_X4_play zk_X4_180 zv_X4_play 0 rfl rfl (by decide) rfl (Nat.le_of_ble_eq_true rfl) rfl rfl (by decide) (wc_m_addr E _ _) dn_X4_comeTo_214 ?_
    obtain rfl := Option.some.inj h
    exact zz_vret cx cq (by decide) (by decide) dn_X4_comeTo_217
set_option maxHeartbeats 4000000 in
set_option maxRecDepth 100000 in
theorem z_mM_comeTo_j116 (E : ze_T) (n : Nat) (G : gs_T) (x1 x3 : Int32) (r : gs_T) (X : zx_T) (cx : zx (zF E) X cn_X4_comeTo yn_X4_comeTo.cls { frames := 4, cells := 0, slots := 0, locals := 95 } 4) (cq : zq_v (zF E) X (wc_m E r)) (h : mM_comeTo_j116 n G x1 x3 = some r) : zj (zF E) X 0 0 (wc_m E G) 116 [some (.ref (ad_p E 0)), some (.int x1), none, some (.int x3)] [] := by
  unfold mM_comeTo_j116 at h
  refine zz_iload_n cx dn_X4_comeTo_116 rfl rfl ?_
  refine zz_aload_n cx dn_X4_comeTo_117 rfl rfl ?_
  refine zz_get cx zi_X4 (v := .int (G.1 3)) (ci := 4) rfl 0 7 rfl (by decide) zk_X4_122 rfl dn_X4_comeTo_118 ?_
  refine zz_icmp_ge cx (tgt := 184) dn_X4_comeTo_121 (by decide) h (fun h => ?_) (fun h => ?_)
  · refine zz_less (L2 := [some (.ref (ad_p E 0)), some (.int x1), none, none]) (⟨rfl, rfl, trivial⟩) ?_
    exact z_mM_comeTo_j184 E n G x1 _ X cx cq h
  · refine zz_aload_n cx dn_X4_comeTo_124 rfl rfl ?_
    refine zz_get cx zi_X4 (v := .ref (ad_p E 8)) (ci := 4) rfl 0 11 rfl (by decide) zk_X4_31 rfl dn_X4_comeTo_125 ?_
    refine zz_iload_n cx dn_X4_comeTo_128 rfl rfl ?_
    refine zz_iald cx 8 0 rfl rfl h (v := (gs_a G 7 x3)) rfl dn_X4_comeTo_129 (fun h => ?_)
    refine zz_aload_n cx dn_X4_comeTo_130 rfl rfl ?_
    refine zz_get cx zi_X4 (v := .ref (ad_p E 19)) (ci := 4) rfl 0 25 rfl (by decide) zk_X4_69 rfl dn_X4_comeTo_131 ?_
    refine zz_aload_n cx dn_X4_comeTo_134 rfl rfl ?_
    refine zz_get cx zi_X4 (v := .ref (ad_p E 5)) (ci := 4) rfl 0 8 rfl (by decide) zk_X4_22 rfl dn_X4_comeTo_135 ?_
    refine zz_iload_n cx dn_X4_comeTo_138 rfl rfl ?_
    refine zz_iald cx 5 0 rfl rfl h (v := (gs_a G 4 x3)) rfl dn_X4_comeTo_139 (fun h => ?_)
    refine zz_iald cx 19 0 rfl rfl h (v := (gs_a G 18 (gs_a G 4 x3))) rfl dn_X4_comeTo_140 (fun h => ?_)
    refine zz_iconst cx dn_X4_comeTo_141 (v := (1 : Int32)) (by decide) ?_
    refine zz_isub cx dn_X4_comeTo_142 ?_
    refine zz_ishr cx dn_X4_comeTo_143 ?_
    refine zz_iconst cx dn_X4_comeTo_144 (v := (1 : Int32)) (by decide) ?_
    refine zz_iand cx dn_X4_comeTo_145 ?_
    refine zz_if_ne cx (tgt := 184) dn_X4_comeTo_146 (by decide) h (fun h => ?_) (fun h => ?_)
    · refine zz_aload_n cx dn_X4_comeTo_149 rfl rfl ?_
      refine zz_aload_n cx dn_X4_comeTo_150 rfl rfl ?_
      refine zz_get cx zi_X4 (v := .ref (ad_p E 6)) (ci := 4) rfl 0 9 rfl (by decide) zk_X4_25 rfl dn_X4_comeTo_151 ?_
      refine zz_iload_n cx dn_X4_comeTo_154 rfl rfl ?_
      refine zz_iald cx 6 0 rfl rfl h (v := (gs_a G 5 x3)) rfl dn_X4_comeTo_155 (fun h => ?_)
      refine zz_aload_n cx dn_X4_comeTo_156 rfl rfl ?_
      refine zz_get cx zi_X4 (v := .ref (ad_p E 7)) (ci := 4) rfl 0 10 rfl (by decide) zk_X4_28 rfl dn_X4_comeTo_157 ?_
      refine zz_iload_n cx dn_X4_comeTo_160 rfl rfl ?_
      refine zz_iald cx 7 0 rfl rfl h (v := (gs_a G 6 x3)) rfl dn_X4_comeTo_161 (fun h => ?_)
      refine zz_aload_n cx dn_X4_comeTo_162 rfl rfl ?_
      refine zz_get cx zi_X4 (v := .ref (ad_p E 5)) (ci := 4) rfl 0 8 rfl (by decide) zk_X4_22 rfl dn_X4_comeTo_163 ?_
      refine zz_iload_n cx dn_X4_comeTo_166 rfl rfl ?_
      refine zz_iald cx 5 0 rfl rfl h (v := (gs_a G 4 x3)) rfl dn_X4_comeTo_167 (fun h => ?_)
      refine gs_bind h (fun q1 e_q1 h => ?_)
      refine zz_callVv cx (As := [.int (gs_a G 5 x3), .int (gs_a G 6 x3), .int (gs_a G 4 x3)]) (rest := []) (c2 := 0) (s2 := 0) (z_mM_leaveWithin E n G (gs_a G 5 x3) (gs_a G 6 x3) (gs_a G 4 x3) _ e_q1) zm_X4_leaveWithin zk_X4_173 zv_X4_leaveWithin 0 rfl rfl (by decide) rfl (Nat.le_of_ble_eq_true rfl) rfl rfl (by decide) (wc_m_addr E _ _) dn_X4_comeTo_168 ?_
      refine zz_aload_n cx dn_X4_comeTo_171 rfl rfl ?_
      refine zz_aload_n cx dn_X4_comeTo_172 rfl rfl ?_
      refine zz_get cx zi_X4 (v := .ref (ad_p E 7)) (ci := 4) rfl 0 10 rfl (by decide) zk_X4_28 rfl dn_X4_comeTo_173 ?_
      refine zz_iload_n cx dn_X4_comeTo_176 rfl rfl ?_
      refine zz_iald cx 7 0 rfl rfl h (v := (gs_a q1 6 x3)) rfl dn_X4_comeTo_177 (fun h => ?_)
      refine gs_bind h (fun q2 e_q2 h => ?_)
      refine zz_callVv cx (As := [.int (gs_a q1 6 x3)]) (rest := []) (c2 := 0) (s2 := 0) (z_mM_theEnd E n q1 (gs_a q1 6 x3) _ e_q2) zm_X4_theEnd zk_X4_177 zv_X4_theEnd 0 rfl rfl (by decide) rfl (Nat.le_of_ble_eq_true rfl) rfl rfl (by decide) (wc_m_addr E _ _) dn_X4_comeTo_178 ?_
      refine zz_goto cx dn_X4_comeTo_181 (tgt := 217) (by decide) ?_
      obtain rfl := Option.some.inj h
      exact zz_vret cx cq (by decide) (by decide) dn_X4_comeTo_217
    · refine zz_less (L2 := [some (.ref (ad_p E 0)), some (.int x1), none, none]) (⟨rfl, rfl, trivial⟩) ?_
      exact z_mM_comeTo_j184 E n G x1 _ X cx cq h
set_option maxHeartbeats 4000000 in
set_option maxRecDepth 100000 in
theorem z_mM_comeTo_j35 (E : ze_T) (n : Nat) (G : gs_T) (x1 s0 : Int32) (r : gs_T) (X : zx_T) (cx : zx (zF E) X cn_X4_comeTo yn_X4_comeTo.cls { frames := 4, cells := 0, slots := 0, locals := 95 } 4) (cq : zq_v (zF E) X (wc_m E r)) (h : mM_comeTo_j35 n G x1 s0 = some r) : zj (zF E) X 0 0 (wc_m E G) 35 [some (.ref (ad_p E 0)), some (.int x1), none, none] [.int s0] := by
  unfold mM_comeTo_j35 at h
  refine zz_istore_n cx dn_X4_comeTo_35 rfl (by decide) rfl ?_
  refine zz_iconst cx dn_X4_comeTo_36 (v := (0 : Int32)) (by decide) ?_
  refine zz_istore_n cx dn_X4_comeTo_37 rfl (by decide) rfl ?_
  refine z_mM_comeTo_38 E n x1 s0 _ _ X cx cq ?_ n (0 : Int32) G h
  intro G0 h
  refine zz_iconst cx dn_X4_comeTo_90 (v := (0 : Int32)) (by decide) ?_
  refine zz_istore_n cx dn_X4_comeTo_91 rfl (by decide) rfl ?_
  refine z_mM_comeTo_92 E n G0 x1 _ _ X cx cq ?_ n (0 : Int32) h
  intro y3_1 h
  exact z_mM_comeTo_j116 E n G0 x1 y3_1 _ X cx cq h
set_option maxHeartbeats 4000000 in
set_option maxRecDepth 100000 in
theorem z_mM_comeTo_j34 (E : ze_T) (n : Nat) (G : gs_T) (x1 : Int32) (r : gs_T) (X : zx_T) (cx : zx (zF E) X cn_X4_comeTo yn_X4_comeTo.cls { frames := 4, cells := 0, slots := 0, locals := 95 } 4) (cq : zq_v (zF E) X (wc_m E r)) (h : mM_comeTo_j34 n G x1 = some r) : zj (zF E) X 0 0 (wc_m E G) 34 [some (.ref (ad_p E 0)), some (.int x1), none, none] [] := by
  unfold mM_comeTo_j34 at h
  refine zz_iconst cx dn_X4_comeTo_34 (v := (0 : Int32)) (by decide) ?_
  exact z_mM_comeTo_j35 E n G x1 (0 : Int32) _ X cx cq h
set_option maxHeartbeats 4000000 in
set_option maxRecDepth 100000 in
theorem z_mM_comeTo (E : ze_T) (n : Nat) (G : gs_T) (x1 : Int32) (r : gs_T) (h : mM_comeTo n G x1 = some r) : zc_v (zF E) (wc_m E G) (wc_m E r) yn_X4_comeTo cn_X4_comeTo 4 { frames := 4, cells := 0, slots := 0, locals := 95 } [.ref (ad_p E 0), .int x1] := by
  unfold mM_comeTo at h
  refine zc_v_of (by decide) rfl (Nat.le_of_ble_eq_true rfl) (fun X cx cq => ?_)
  refine zz_aload_n cx dn_X4_comeTo_0 rfl rfl ?_
  refine zz_get cx zi_X4 (v := .ref (ad_p E 18)) (ci := 4) rfl 0 23 rfl (by decide) zk_X4_66 rfl dn_X4_comeTo_1 ?_
  refine zz_iload_n cx dn_X4_comeTo_4 rfl rfl ?_
  refine zz_dup2 cx dn_X4_comeTo_5 rfl rfl ?_
  refine zz_iald cx 18 0 rfl rfl h (v := (gs_a G 17 x1)) rfl dn_X4_comeTo_6 (fun h => ?_)
  refine zz_iconst cx dn_X4_comeTo_7 (v := (1 : Int32)) (by decide) ?_
  refine zz_iadd cx dn_X4_comeTo_8 ?_
  refine zz_iast cx 18 0 rfl rfl h (ws2 := (wc_m E (gs_sa G 17 x1 ((gs_a G 17 x1) + (1 : Int32))))) (wc_m_a17 E _ _ _) dn_X4_comeTo_9 (fun h => ?_)
  refine zz_aload_n cx dn_X4_comeTo_10 rfl rfl ?_
  refine zz_get cx zi_X4 (v := .int (G.1 7)) (ci := 4) rfl 0 27 rfl (by decide) zk_X4_146 rfl dn_X4_comeTo_11 ?_
  refine zz_iconst cx dn_X4_comeTo_14 (v := (-1 : Int32)) (by decide) ?_
  refine zz_icmp_eq cx (tgt := 34) dn_X4_comeTo_15 (by decide) h (fun h => ?_) (fun h => ?_)
  · exact z_mM_comeTo_j34 E n (gs_sa G 17 x1 ((gs_a G 17 x1) + (1 : Int32))) x1 _ X cx cq h
  · refine zz_aload_n cx dn_X4_comeTo_18 rfl rfl ?_
    refine zz_get cx zi_X4 (v := .ref (ad_p E 13)) (ci := 4) rfl 0 16 rfl (by decide) zk_X4_47 rfl dn_X4_comeTo_19 ?_
    refine zz_aload_n cx dn_X4_comeTo_22 rfl rfl ?_
    refine zz_get cx zi_X4 (v := .int (G.1 7)) (ci := 4) rfl 0 27 rfl (by decide) zk_X4_146 rfl dn_X4_comeTo_23 ?_
    refine zz_zald cx 13 1 rfl rfl h (v := (gs_a G 12 (G.1 7))) rfl dn_X4_comeTo_26 (fun h => ?_)
    refine zz_if_ne cx (tgt := 34) dn_X4_comeTo_27 (by decide) h (fun h => ?_) (fun h => ?_)
    · refine zz_iconst cx dn_X4_comeTo_30 (v := (1 : Int32)) (by decide) ?_
      refine zz_goto cx dn_X4_comeTo_31 (tgt := 35) (by decide) ?_
      exact z_mM_comeTo_j35 E n (gs_sa G 17 x1 ((gs_a G 17 x1) + (1 : Int32))) x1 (1 : Int32) _ X cx cq h
    · exact z_mM_comeTo_j34 E n (gs_sa G 17 x1 ((gs_a G 17 x1) + (1 : Int32))) x1 _ X cx cq h
set_option maxHeartbeats 4000000 in
set_option maxRecDepth 100000 in
theorem z_mM_unfold_71 (E : ze_T) (n : Nat) (K : gs_T → Option (Int32 × gs_T)) (r : (Int32 × gs_T)) (X : zx_T) (cx : zx (zF E) X cn_X4_unfold yn_X4_unfold.cls { frames := 5, cells := 0, slots := 0, locals := 118 } 2) (cq : zq_i (zF E) X (wc_m E r.2) .int r.1) (hK : ∀ (G1 : gs_T), K G1 = some r → zj (zF E) X 0 0 (wc_m E G1) 90 [some (.ref (ad_p E 0)), none] []) : ∀ (k : Nat) (G : gs_T), mM_unfold_71 n K k G = some r → zj (zF E) X 0 0 (wc_m E G) 71 [some (.ref (ad_p E 0)), none] [] := by
  intro k
  induction k with
  | zero => intro G h; cases h
  | succ k ih =>
    intro G h
    rw [mM_unfold_71] at h
    refine zz_aload_n cx dn_X4_unfold_71 rfl rfl ?_
    refine zz_get cx zi_X4 (v := .int (G.1 9)) (ci := 4) rfl 0 29 rfl (by decide) zk_X4_166 rfl dn_X4_unfold_72 ?_
    refine zz_iconst cx dn_X4_unfold_75 (v := (-1 : Int32)) (by decide) ?_
    refine zz_icmp_eq cx (tgt := 90) dn_X4_unfold_76 (by decide) h (fun h => ?_) (fun h => ?_)
    · exact hK G h
    · refine zz_aload_n cx dn_X4_unfold_79 rfl rfl ?_
      refine zz_aload_n cx dn_X4_unfold_80 rfl rfl ?_
      refine zz_get cx zi_X4 (v := .int (G.1 9)) (ci := 4) rfl 0 29 rfl (by decide) zk_X4_166 rfl dn_X4_unfold_81 ?_
      refine gs_bind h (fun q1 e_q1 h => ?_)
      refine zz_callVv cx (As := [.int (G.1 9)]) (rest := []) (c2 := 0) (s2 := 0) (z_mM_comeTo E n G (G.1 9) _ e_q1) zm_X4_comeTo zk_X4_169 zv_X4_comeTo 0 rfl rfl (by decide) rfl (Nat.le_of_ble_eq_true rfl) rfl rfl (by decide) (wc_m_addr E _ _) dn_X4_unfold_84 ?_
      refine zz_goto cx dn_X4_unfold_87 (tgt := 71) (by decide) ?_
      exact ih q1 h
set_option maxHeartbeats 4000000 in
set_option maxRecDepth 100000 in
theorem z_mM_unfold_11 (E : ze_T) (n : Nat) (G : gs_T) (K : Unit → Option (Int32 × gs_T)) (r : (Int32 × gs_T)) (X : zx_T) (cx : zx (zF E) X cn_X4_unfold yn_X4_unfold.cls { frames := 5, cells := 0, slots := 0, locals := 118 } 2) (cq : zq_i (zF E) X (wc_m E r.2) .int r.1) (hK : ∀ (_ : Unit), K () = some r → zj (zF E) X 0 0 (wc_m E G) 55 [some (.ref (ad_p E 0)), none] []) : ∀ (k : Nat) (x1 : Int32), mM_unfold_11 n G K k x1 = some r → zj (zF E) X 0 0 (wc_m E G) 11 [some (.ref (ad_p E 0)), some (.int x1)] [] := by
  intro k
  induction k with
  | zero => intro x1 h; cases h
  | succ k ih =>
    intro x1 h
    rw [mM_unfold_11] at h
    refine zz_iload_n cx dn_X4_unfold_11 rfl rfl ?_
    refine zz_aload_n cx dn_X4_unfold_12 rfl rfl ?_
    refine zz_get cx zi_X4 (v := .int (G.1 1)) (ci := 4) rfl 0 1 rfl (by decide) zk_X4_102 rfl dn_X4_unfold_13 ?_
    refine zz_icmp_ge cx (tgt := 55) dn_X4_unfold_16 (by decide) h (fun h => ?_) (fun h => ?_)
    · refine zz_less (L2 := [some (.ref (ad_p E 0)), none]) (⟨rfl, trivial⟩) ?_
      exact hK () h
    · refine zz_aload_n cx dn_X4_unfold_19 rfl rfl ?_
      refine zz_get cx zi_X4 (v := .ref (ad_p E 10)) (ci := 4) rfl 0 13 rfl (by decide) zk_X4_37 rfl dn_X4_unfold_20 ?_
      refine zz_iload_n cx dn_X4_unfold_23 rfl rfl ?_
      refine zz_zald cx 10 1 rfl rfl h (v := (gs_a G 9 x1)) rfl dn_X4_unfold_24 (fun h => ?_)
      refine zz_if_eq cx (tgt := 49) dn_X4_unfold_25 (by decide) h (fun h => ?_) (fun h => ?_)
      · refine zz_iinc cx dn_X4_unfold_49 (d := (1 : Int32)) rfl (by decide) (by decide) rfl ?_
        refine zz_goto cx dn_X4_unfold_52 (tgt := 11) (by decide) ?_
        exact ih (x1 + (1 : Int32)) h
      · refine zz_aload_n cx dn_X4_unfold_28 rfl rfl ?_
        refine zz_iload_n cx dn_X4_unfold_29 rfl rfl ?_
        refine gs_bind h (fun q1 e_q1 h => ?_)
        refine zz_callVi cx (As := [.int x1]) (rest := []) (c2 := 0) (s2 := 0) (z_mM_missing E G x1 _ e_q1) zm_X4_missing zk_X4_162 zv_X4_missing 0 rfl rfl (by decide) rfl (Nat.le_of_ble_eq_true rfl) rfl rfl (by decide) (wc_m_addr E _ _) dn_X4_unfold_30 ?_
        refine zz_if_le cx (tgt := 49) dn_X4_unfold_33 (by decide) h (fun h => ?_) (fun h => ?_)
        · refine zz_iinc cx dn_X4_unfold_49 (d := (1 : Int32)) rfl (by decide) (by decide) rfl ?_
          refine zz_goto cx dn_X4_unfold_52 (tgt := 11) (by decide) ?_
          exact ih (x1 + (1 : Int32)) h
        · refine zz_aload_n cx dn_X4_unfold_36 rfl rfl ?_
          refine zz_iload_n cx dn_X4_unfold_37 rfl rfl ?_
          refine zz_put cx (ws2 := (wc_m E (gs_sv G 4 x1))) (ty := .int) (ci := 4) zi_X4 fk_X4 nm_X4 rfl 0 17 rfl (by decide) zk_X4_50 rfl (by decide +kernel) rfl rfl (Nat.le_of_ble_eq_true rfl) (wc_m_s4 E _ _) dn_X4_unfold_38 ?_
          refine zz_iconst cx dn_X4_unfold_41 (v := (-1 : Int32)) (by decide) ?_
          refine zz_aload_n cx dn_X4_unfold_42 rfl rfl ?_
          refine zz_iload_n cx dn_X4_unfold_43 rfl rfl ?_
          refine gs_bind h (fun q2 e_q2 h => ?_)
          refine zz_callVi cx (As := [.int x1]) (rest := [.int (-1 : Int32)]) (c2 := 0) (s2 := 0) (z_mM_missing E (gs_sv G 4 x1) x1 _ e_q2) zm_X4_missing zk_X4_162 zv_X4_missing 0 rfl rfl (by decide) rfl (Nat.le_of_ble_eq_true rfl) rfl rfl (by decide) (wc_m_addr E _ _) dn_X4_unfold_44 ?_
          refine zz_isub cx dn_X4_unfold_47 ?_
          obtain rfl := Option.some.inj h
          exact zz_iret cx cq (by decide) (by decide) dn_X4_unfold_48
set_option maxHeartbeats 4000000 in
set_option maxRecDepth 100000 in
theorem z_mM_unfold_j68 (E : ze_T) (n : Nat) (G : gs_T) (s0 : Int32) (r : (Int32 × gs_T)) (X : zx_T) (cx : zx (zF E) X cn_X4_unfold yn_X4_unfold.cls { frames := 5, cells := 0, slots := 0, locals := 118 } 2) (cq : zq_i (zF E) X (wc_m E r.2) .int r.1) (h : mM_unfold_j68 n G s0 = some r) : zj (zF E) X 0 0 (wc_m E G) 68 [some (.ref (ad_p E 0)), none] [.int s0, .ref (ad_p E 0)] := by
  unfold mM_unfold_j68 at h
  refine zz_put cx (ws2 := (wc_m E (gs_sv G 9 s0))) (ty := .int) (ci := 4) zi_X4 fk_X4 nm_X4 rfl 0 29 rfl (by decide) zk_X4_166 rfl (by decide +kernel) rfl rfl (Nat.le_of_ble_eq_true rfl) (wc_m_s9 E _ _) dn_X4_unfold_68 ?_
  refine z_mM_unfold_71 E n _ _ X cx cq ?_ n (gs_sv G 9 s0) h
  intro G0 h
  refine zz_aload_n cx dn_X4_unfold_90 rfl rfl ?_
  refine zz_get cx zi_X4 (v := .int (G0.1 10)) (ci := 4) rfl 0 30 rfl (by decide) zk_X4_153 rfl dn_X4_unfold_91 ?_
  refine zz_if_eq cx (tgt := 114) dn_X4_unfold_94 (by decide) h (fun h => ?_) (fun h => ?_)
  · refine zz_aload_n cx dn_X4_unfold_114 rfl rfl ?_
    refine zz_get cx zi_X4 (v := .int (G0.1 5)) (ci := 4) rfl 0 18 rfl (by decide) zk_X4_140 rfl dn_X4_unfold_115 ?_
    obtain rfl := Option.some.inj h
    exact zz_iret cx cq (by decide) (by decide) dn_X4_unfold_118
  · refine zz_aload_n cx dn_X4_unfold_97 rfl rfl ?_
    refine zz_get cx zi_X4 (v := .int (G0.1 4)) (ci := 4) rfl 0 17 rfl (by decide) zk_X4_50 rfl dn_X4_unfold_98 ?_
    refine zz_istore_n cx dn_X4_unfold_101 rfl (by decide) rfl ?_
    refine zz_aload_n cx dn_X4_unfold_102 rfl rfl ?_
    refine gs_bind h (fun q2 e_q2 h => ?_)
    refine zz_callVv cx (As := []) (rest := []) (c2 := 0) (s2 := 0) (z_mM_forget E n G0 _ e_q2) zm_X4_forget zk_X4_159 zv_X4_forget 0 rfl rfl (by decide) rfl (Nat.le_of_ble_eq_true rfl) rfl rfl (by decide) (wc_m_addr E _ _) dn_X4_unfold_103 ?_
    refine zz_aload_n cx dn_X4_unfold_106 rfl rfl ?_
    refine zz_iload_n cx dn_X4_unfold_107 rfl rfl ?_
    refine zz_put cx (ws2 := (wc_m E (gs_sv q2 4 (G0.1 4)))) (ty := .int) (ci := 4) zi_X4 fk_X4 nm_X4 rfl 0 17 rfl (by decide) zk_X4_50 rfl (by decide +kernel) rfl rfl (Nat.le_of_ble_eq_true rfl) (wc_m_s4 E _ _) dn_X4_unfold_108 ?_
    refine zz_bipush cx dn_X4_unfold_111 (v := (-5 : Int32)) (by decide) ?_
    obtain rfl := Option.some.inj h
    exact zz_iret cx cq (by decide) (by decide) dn_X4_unfold_113
set_option maxHeartbeats 4000000 in
set_option maxRecDepth 100000 in
theorem z_mM_unfold (E : ze_T) (n : Nat) (G : gs_T) (r : (Int32 × gs_T)) (h : mM_unfold n G = some r) : zc_i (zF E) (wc_m E G) (wc_m E r.2) yn_X4_unfold cn_X4_unfold 2 .int { frames := 5, cells := 0, slots := 0, locals := 118 } [.ref (ad_p E 0)] r.1 := by
  unfold mM_unfold at h
  refine zc_i_of (by decide) rfl (Nat.le_of_ble_eq_true rfl) (fun X cx cq => ?_)
  refine zz_aload_n cx dn_X4_unfold_0 rfl rfl ?_
  refine zz_iconst cx dn_X4_unfold_1 (v := (0 : Int32)) (by decide) ?_
  refine zz_put cx (ws2 := (wc_m E (gs_sv G 0 (0 : Int32)))) (ty := .int) (ci := 4) zi_X4 fk_X4 nm_X4 rfl 0 0 rfl (by decide) zk_X4_99 rfl (by decide +kernel) rfl rfl (Nat.le_of_ble_eq_true rfl) (wc_m_s0 E _ _) dn_X4_unfold_2 ?_
  refine zz_aload_n cx dn_X4_unfold_5 rfl rfl ?_
  refine gs_bind h (fun q1 e_q1 h => ?_)
  refine zz_callVv cx (As := []) (rest := []) (c2 := 0) (s2 := 0) (z_mM_forget E n (gs_sv G 0 (0 : Int32)) _ e_q1) zm_X4_forget zk_X4_159 zv_X4_forget 0 rfl rfl (by decide) rfl (Nat.le_of_ble_eq_true rfl) rfl rfl (by decide) (wc_m_addr E _ _) dn_X4_unfold_6 ?_
  refine zz_iconst cx dn_X4_unfold_9 (v := (0 : Int32)) (by decide) ?_
  refine zz_istore_n cx dn_X4_unfold_10 rfl (by decide) rfl ?_
  refine z_mM_unfold_11 E n q1 _ _ X cx cq ?_ n (0 : Int32) h
  intro _ h
  refine zz_aload_n cx dn_X4_unfold_55 rfl rfl ?_
  refine zz_aload_n cx dn_X4_unfold_56 rfl rfl ?_
  refine zz_get cx zi_X4 (v := .int (q1.1 1)) (ci := 4) rfl 0 1 rfl (by decide) zk_X4_102 rfl dn_X4_unfold_57 ?_
  refine zz_if_le cx (tgt := 67) dn_X4_unfold_60 (by decide) h (fun h => ?_) (fun h => ?_)
  · refine zz_iconst cx dn_X4_unfold_67 (v := (-1 : Int32)) (by decide) ?_
    exact z_mM_unfold_j68 E n q1 (-1 : Int32) _ X cx cq h
  · refine zz_iconst cx dn_X4_unfold_63 (v := (0 : Int32)) (by decide) ?_
    refine zz_goto cx dn_X4_unfold_64 (tgt := 68) (by decide) ?_
    exact z_mM_unfold_j68 E n q1 (0 : Int32) _ X cx cq h
set_option maxHeartbeats 4000000 in
set_option maxRecDepth 100000 in
theorem z_mM_fault (E : ze_T) (G : gs_T) (r : (Int32 × gs_T)) (h : mM_fault G = some r) : zc_i (zF E) (wc_m E G) (wc_m E r.2) yn_X4_fault cn_X4_fault 1 .int { frames := 0, cells := 0, slots := 0, locals := 0 } [.ref (ad_p E 0)] r.1 := by
  unfold mM_fault at h
  refine zc_i_of (by decide) rfl (Nat.le_of_ble_eq_true rfl) (fun X cx cq => ?_)
  refine zz_aload_n cx dn_X4_fault_0 rfl rfl ?_
  refine zz_iconst cx dn_X4_fault_1 (v := (0 : Int32)) (by decide) ?_
  refine zz_put cx (ws2 := (wc_m E (gs_sv G 0 (0 : Int32)))) (ty := .int) (ci := 4) zi_X4 fk_X4 nm_X4 rfl 0 0 rfl (by decide) zk_X4_99 rfl (by decide +kernel) rfl rfl (Nat.le_of_ble_eq_true rfl) (wc_m_s0 E _ _) dn_X4_fault_2 ?_
  refine zz_aload_n cx dn_X4_fault_5 rfl rfl ?_
  refine zz_get cx zi_X4 (v := .int (G.1 4)) (ci := 4) rfl 0 17 rfl (by decide) zk_X4_50 rfl dn_X4_fault_6 ?_
  obtain rfl := Option.some.inj h
  exact zz_iret cx cq (by decide) (by decide) dn_X4_fault_9
set_option maxHeartbeats 4000000 in
set_option maxRecDepth 100000 in
theorem z_mM_played_j32 (E : ze_T) (G : gs_T) (x1 x2 s0 s1 : Int32) (r : (Int32 × gs_T)) (X : zx_T) (cx : zx (zF E) X cn_X4_played yn_X4_played.cls { frames := 1, cells := 0, slots := 0, locals := 23 } 3) (cq : zq_i (zF E) X (wc_m E r.2) .int r.1) (h : mM_played_j32 G x1 x2 s0 s1 = some r) : zj (zF E) X 0 0 (wc_m E G) 32 [some (.ref (ad_p E 0)), some (.int x1), some (.int x2)] [.int s1, .int s0, .ref (ad_p E 0)] := by
  unfold mM_played_j32 at h
  refine zz_iconst cx dn_X4_played_32 (v := (0 : Int32)) (by decide) ?_
  refine gs_bind h (fun q1 e_q1 h => ?_)
  refine zz_callVi cx (As := [.int s0, .int s1, .int (0 : Int32)]) (rest := []) (c2 := 0) (s2 := 0) (z_mM_refuses E G s0 s1 (0 : Int32) _ e_q1) zm_X4_refuses zk_X4_105 zv_X4_refuses 0 rfl rfl (by decide) rfl (Nat.le_of_ble_eq_true rfl) rfl rfl (by decide) (wc_m_addr E _ _) dn_X4_played_33 ?_
  refine zz_if_eq cx (tgt := 41) dn_X4_played_36 (by decide) h (fun h => ?_) (fun h => ?_)
  · refine zz_iload_n cx dn_X4_played_41 rfl rfl ?_
    refine zz_if_ne cx (tgt := 54) dn_X4_played_42 (by decide) h (fun h => ?_) (fun h => ?_)
    · refine zz_aload_n cx dn_X4_played_45 rfl rfl ?_
      refine zz_get cx zi_X4 (v := .ref (ad_p E 14)) (ci := 4) rfl 0 19 rfl (by decide) zk_X4_54 rfl dn_X4_played_46 ?_
      refine zz_iload_n cx dn_X4_played_49 rfl rfl ?_
      refine zz_iald cx 14 0 rfl rfl h (v := (gs_a q1.2 13 x1)) rfl dn_X4_played_50 (fun h => ?_)
      refine zz_goto cx dn_X4_played_51 (tgt := 107) (by decide) ?_
      obtain rfl := Option.some.inj h
      exact zz_iret cx cq (by decide) (by decide) dn_X4_played_107
    · refine zz_iload_n cx dn_X4_played_54 rfl rfl ?_
      refine zz_iconst cx dn_X4_played_55 (v := (1 : Int32)) (by decide) ?_
      refine zz_icmp_ne cx (tgt := 73) dn_X4_played_56 (by decide) h (fun h => ?_) (fun h => ?_)
      · refine zz_aload_n cx dn_X4_played_59 rfl rfl ?_
        refine zz_get cx zi_X4 (v := .ref (ad_p E 1)) (ci := 4) rfl 0 2 rfl (by decide) zk_X4_7 rfl dn_X4_played_60 ?_
        refine zz_aload_n cx dn_X4_played_63 rfl rfl ?_
        refine zz_get cx zi_X4 (v := .ref (ad_p E 14)) (ci := 4) rfl 0 19 rfl (by decide) zk_X4_54 rfl dn_X4_played_64 ?_
        refine zz_iload_n cx dn_X4_played_67 rfl rfl ?_
        refine zz_iald cx 14 0 rfl rfl h (v := (gs_a q1.2 13 x1)) rfl dn_X4_played_68 (fun h => ?_)
        refine zz_iald cx 1 0 rfl rfl h (v := (gs_a q1.2 0 (gs_a q1.2 13 x1))) rfl dn_X4_played_69 (fun h => ?_)
        refine zz_goto cx dn_X4_played_70 (tgt := 107) (by decide) ?_
        obtain rfl := Option.some.inj h
        exact zz_iret cx cq (by decide) (by decide) dn_X4_played_107
      · refine zz_iload_n cx dn_X4_played_73 rfl rfl ?_
        refine zz_iconst cx dn_X4_played_74 (v := (2 : Int32)) (by decide) ?_
        refine zz_icmp_ne cx (tgt := 87) dn_X4_played_75 (by decide) h (fun h => ?_) (fun h => ?_)
        · refine zz_aload_n cx dn_X4_played_78 rfl rfl ?_
          refine zz_get cx zi_X4 (v := .ref (ad_p E 15)) (ci := 4) rfl 0 20 rfl (by decide) zk_X4_57 rfl dn_X4_played_79 ?_
          refine zz_iload_n cx dn_X4_played_82 rfl rfl ?_
          refine zz_iald cx 15 0 rfl rfl h (v := (gs_a q1.2 14 x1)) rfl dn_X4_played_83 (fun h => ?_)
          refine zz_goto cx dn_X4_played_84 (tgt := 107) (by decide) ?_
          obtain rfl := Option.some.inj h
          exact zz_iret cx cq (by decide) (by decide) dn_X4_played_107
        · refine zz_iload_n cx dn_X4_played_87 rfl rfl ?_
          refine zz_iconst cx dn_X4_played_88 (v := (3 : Int32)) (by decide) ?_
          refine zz_icmp_ne cx (tgt := 101) dn_X4_played_89 (by decide) h (fun h => ?_) (fun h => ?_)
          · refine zz_aload_n cx dn_X4_played_92 rfl rfl ?_
            refine zz_get cx zi_X4 (v := .ref (ad_p E 16)) (ci := 4) rfl 0 21 rfl (by decide) zk_X4_60 rfl dn_X4_played_93 ?_
            refine zz_iload_n cx dn_X4_played_96 rfl rfl ?_
            refine zz_iald cx 16 0 rfl rfl h (v := (gs_a q1.2 15 x1)) rfl dn_X4_played_97 (fun h => ?_)
            refine zz_goto cx dn_X4_played_98 (tgt := 107) (by decide) ?_
            obtain rfl := Option.some.inj h
            exact zz_iret cx cq (by decide) (by decide) dn_X4_played_107
          · refine zz_aload_n cx dn_X4_played_101 rfl rfl ?_
            refine zz_get cx zi_X4 (v := .ref (ad_p E 17)) (ci := 4) rfl 0 22 rfl (by decide) zk_X4_63 rfl dn_X4_played_102 ?_
            refine zz_iload_n cx dn_X4_played_105 rfl rfl ?_
            refine zz_iald cx 17 0 rfl rfl h (v := (gs_a q1.2 16 x1)) rfl dn_X4_played_106 (fun h => ?_)
            obtain rfl := Option.some.inj h
            exact zz_iret cx cq (by decide) (by decide) dn_X4_played_107
  · refine zz_iconst cx dn_X4_played_39 (v := (0 : Int32)) (by decide) ?_
    obtain rfl := Option.some.inj h
    exact zz_iret cx cq (by decide) (by decide) dn_X4_played_40
set_option maxHeartbeats 4000000 in
set_option maxRecDepth 100000 in
theorem z_mM_played_j27 (E : ze_T) (G : gs_T) (x1 x2 s0 : Int32) (r : (Int32 × gs_T)) (X : zx_T) (cx : zx (zF E) X cn_X4_played yn_X4_played.cls { frames := 1, cells := 0, slots := 0, locals := 23 } 3) (cq : zq_i (zF E) X (wc_m E r.2) .int r.1) (h : mM_played_j27 G x1 x2 s0 = some r) : zj (zF E) X 0 0 (wc_m E G) 27 [some (.ref (ad_p E 0)), some (.int x1), some (.int x2)] [.int s0, .ref (ad_p E 0)] := by
  unfold mM_played_j27 at h
  refine zz_iconst cx dn_X4_played_27 (v := (1 : Int32)) (by decide) ?_
  refine zz_goto cx dn_X4_played_28 (tgt := 32) (by decide) ?_
  exact z_mM_played_j32 E G x1 x2 s0 (1 : Int32) _ X cx cq h
set_option maxHeartbeats 4000000 in
set_option maxRecDepth 100000 in
theorem z_mM_played_j18 (E : ze_T) (G : gs_T) (x1 x2 s0 : Int32) (r : (Int32 × gs_T)) (X : zx_T) (cx : zx (zF E) X cn_X4_played yn_X4_played.cls { frames := 1, cells := 0, slots := 0, locals := 23 } 3) (cq : zq_i (zF E) X (wc_m E r.2) .int r.1) (h : mM_played_j18 G x1 x2 s0 = some r) : zj (zF E) X 0 0 (wc_m E G) 18 [some (.ref (ad_p E 0)), some (.int x1), some (.int x2)] [.int s0, .ref (ad_p E 0)] := by
  unfold mM_played_j18 at h
  refine zz_iload_n cx dn_X4_played_18 rfl rfl ?_
  refine zz_if_lt cx (tgt := 27) dn_X4_played_19 (by decide) h (fun h => ?_) (fun h => ?_)
  · exact z_mM_played_j27 E G x1 x2 s0 _ X cx cq h
  · refine zz_iload_n cx dn_X4_played_22 rfl rfl ?_
    refine zz_iconst cx dn_X4_played_23 (v := (4 : Int32)) (by decide) ?_
    refine zz_icmp_le cx (tgt := 31) dn_X4_played_24 (by decide) h (fun h => ?_) (fun h => ?_)
    · refine zz_iconst cx dn_X4_played_31 (v := (0 : Int32)) (by decide) ?_
      exact z_mM_played_j32 E G x1 x2 s0 (0 : Int32) _ X cx cq h
    · exact z_mM_played_j27 E G x1 x2 s0 _ X cx cq h
set_option maxHeartbeats 4000000 in
set_option maxRecDepth 100000 in
theorem z_mM_played_j13 (E : ze_T) (G : gs_T) (x1 x2 : Int32) (r : (Int32 × gs_T)) (X : zx_T) (cx : zx (zF E) X cn_X4_played yn_X4_played.cls { frames := 1, cells := 0, slots := 0, locals := 23 } 3) (cq : zq_i (zF E) X (wc_m E r.2) .int r.1) (h : mM_played_j13 G x1 x2 = some r) : zj (zF E) X 0 0 (wc_m E G) 13 [some (.ref (ad_p E 0)), some (.int x1), some (.int x2)] [.ref (ad_p E 0)] := by
  unfold mM_played_j13 at h
  refine zz_iconst cx dn_X4_played_13 (v := (1 : Int32)) (by decide) ?_
  refine zz_goto cx dn_X4_played_14 (tgt := 18) (by decide) ?_
  exact z_mM_played_j18 E G x1 x2 (1 : Int32) _ X cx cq h
set_option maxHeartbeats 4000000 in
set_option maxRecDepth 100000 in
theorem z_mM_played (E : ze_T) (G : gs_T) (x1 x2 : Int32) (r : (Int32 × gs_T)) (h : mM_played G x1 x2 = some r) : zc_i (zF E) (wc_m E G) (wc_m E r.2) yn_X4_played cn_X4_played 3 .int { frames := 1, cells := 0, slots := 0, locals := 23 } [.ref (ad_p E 0), .int x1, .int x2] r.1 := by
  unfold mM_played at h
  refine zc_i_of (by decide) rfl (Nat.le_of_ble_eq_true rfl) (fun X cx cq => ?_)
  refine zz_aload_n cx dn_X4_played_0 rfl rfl ?_
  refine zz_iload_n cx dn_X4_played_1 rfl rfl ?_
  refine zz_if_lt cx (tgt := 13) dn_X4_played_2 (by decide) h (fun h => ?_) (fun h => ?_)
  · exact z_mM_played_j13 E G x1 x2 _ X cx cq h
  · refine zz_iload_n cx dn_X4_played_5 rfl rfl ?_
    refine zz_aload_n cx dn_X4_played_6 rfl rfl ?_
    refine zz_get cx zi_X4 (v := .int (G.1 5)) (ci := 4) rfl 0 18 rfl (by decide) zk_X4_140 rfl dn_X4_played_7 ?_
    refine zz_icmp_lt cx (tgt := 17) dn_X4_played_10 (by decide) h (fun h => ?_) (fun h => ?_)
    · refine zz_iconst cx dn_X4_played_17 (v := (0 : Int32)) (by decide) ?_
      exact z_mM_played_j18 E G x1 x2 (0 : Int32) _ X cx cq h
    · exact z_mM_played_j13 E G x1 x2 _ X cx cq h
set_option maxHeartbeats 4000000 in
set_option maxRecDepth 100000 in
theorem z_mM_times_28 (E : ze_T) (n : Nat) (G : gs_T) (x1 : Int32) (r : (Int32 × gs_T)) (X : zx_T) (cx : zx (zF E) X cn_X4_times yn_X4_times.cls { frames := 1, cells := 0, slots := 0, locals := 23 } 4) (cq : zq_i (zF E) X (wc_m E r.2) .int r.1) : ∀ (k : Nat) (x2 : Int32) (x3 : Int32), mM_times_28 n G x1 k x2 x3 = some r → zj (zF E) X 0 0 (wc_m E G) 28 [some (.ref (ad_p E 0)), some (.int x1), some (.int x2), some (.int x3)] [] := by
  intro k
  induction k with
  | zero => intro x2 x3 h; cases h
  | succ k ih =>
    intro x2 x3 h
    rw [mM_times_28] at h
    refine zz_iload_n cx dn_X4_times_28 rfl rfl ?_
    refine zz_aload_n cx dn_X4_times_29 rfl rfl ?_
    refine zz_get cx zi_X4 (v := .int (G.1 5)) (ci := 4) rfl 0 18 rfl (by decide) zk_X4_140 rfl dn_X4_times_30 ?_
    refine zz_icmp_ge cx (tgt := 60) dn_X4_times_33 (by decide) h (fun h => ?_) (fun h => ?_)
    · refine zz_iload_n cx dn_X4_times_60 rfl rfl ?_
      obtain rfl := Option.some.inj h
      exact zz_iret cx cq (by decide) (by decide) dn_X4_times_61
    · refine zz_iload_n cx dn_X4_times_36 rfl rfl ?_
      refine zz_aload_n cx dn_X4_times_37 rfl rfl ?_
      refine zz_get cx zi_X4 (v := .ref (ad_p E 14)) (ci := 4) rfl 0 19 rfl (by decide) zk_X4_54 rfl dn_X4_times_38 ?_
      refine zz_iload_n cx dn_X4_times_41 rfl rfl ?_
      refine zz_iald cx 14 0 rfl rfl h (v := (gs_a G 13 x3)) rfl dn_X4_times_42 (fun h => ?_)
      refine zz_iload_n cx dn_X4_times_43 rfl rfl ?_
      refine zz_icmp_ne cx (tgt := 51) dn_X4_times_44 (by decide) h (fun h => ?_) (fun h => ?_)
      · refine zz_iconst cx dn_X4_times_47 (v := (1 : Int32)) (by decide) ?_
        refine zz_goto cx dn_X4_times_48 (tgt := 52) (by decide) ?_
        refine zz_iadd cx dn_X4_times_52 ?_
        refine zz_istore_n cx dn_X4_times_53 rfl (by decide) rfl ?_
        refine zz_iinc cx dn_X4_times_54 (d := (1 : Int32)) rfl (by decide) (by decide) rfl ?_
        refine zz_goto cx dn_X4_times_57 (tgt := 28) (by decide) ?_
        exact ih (x2 + (1 : Int32)) (x3 + (1 : Int32)) h
      · refine zz_iconst cx dn_X4_times_51 (v := (0 : Int32)) (by decide) ?_
        refine zz_iadd cx dn_X4_times_52 ?_
        refine zz_istore_n cx dn_X4_times_53 rfl (by decide) rfl ?_
        refine zz_iinc cx dn_X4_times_54 (d := (1 : Int32)) rfl (by decide) (by decide) rfl ?_
        refine zz_goto cx dn_X4_times_57 (tgt := 28) (by decide) ?_
        exact ih (x2 + (0 : Int32)) (x3 + (1 : Int32)) h
set_option maxHeartbeats 4000000 in
set_option maxRecDepth 100000 in
theorem z_mM_times_j14 (E : ze_T) (n : Nat) (G : gs_T) (x1 s0 : Int32) (r : (Int32 × gs_T)) (X : zx_T) (cx : zx (zF E) X cn_X4_times yn_X4_times.cls { frames := 1, cells := 0, slots := 0, locals := 23 } 4) (cq : zq_i (zF E) X (wc_m E r.2) .int r.1) (h : mM_times_j14 n G x1 s0 = some r) : zj (zF E) X 0 0 (wc_m E G) 14 [some (.ref (ad_p E 0)), some (.int x1), none, none] [.int s0, .ref (ad_p E 0)] := by
  unfold mM_times_j14 at h
  refine zz_iconst cx dn_X4_times_14 (v := (0 : Int32)) (by decide) ?_
  refine zz_iconst cx dn_X4_times_15 (v := (0 : Int32)) (by decide) ?_
  refine gs_bind h (fun q1 e_q1 h => ?_)
  refine zz_callVi cx (As := [.int s0, .int (0 : Int32), .int (0 : Int32)]) (rest := []) (c2 := 0) (s2 := 0) (z_mM_refuses E G s0 (0 : Int32) (0 : Int32) _ e_q1) zm_X4_refuses zk_X4_105 zv_X4_refuses 0 rfl rfl (by decide) rfl (Nat.le_of_ble_eq_true rfl) rfl rfl (by decide) (wc_m_addr E _ _) dn_X4_times_16 ?_
  refine zz_if_eq cx (tgt := 24) dn_X4_times_19 (by decide) h (fun h => ?_) (fun h => ?_)
  · refine zz_iconst cx dn_X4_times_24 (v := (0 : Int32)) (by decide) ?_
    refine zz_istore_n cx dn_X4_times_25 rfl (by decide) rfl ?_
    refine zz_iconst cx dn_X4_times_26 (v := (0 : Int32)) (by decide) ?_
    refine zz_istore_n cx dn_X4_times_27 rfl (by decide) rfl ?_
    exact z_mM_times_28 E n q1.2 x1 _ X cx cq n (0 : Int32) (0 : Int32) h
  · refine zz_iconst cx dn_X4_times_22 (v := (0 : Int32)) (by decide) ?_
    obtain rfl := Option.some.inj h
    exact zz_iret cx cq (by decide) (by decide) dn_X4_times_23
set_option maxHeartbeats 4000000 in
set_option maxRecDepth 100000 in
theorem z_mM_times (E : ze_T) (n : Nat) (G : gs_T) (x1 : Int32) (r : (Int32 × gs_T)) (h : mM_times n G x1 = some r) : zc_i (zF E) (wc_m E G) (wc_m E r.2) yn_X4_times cn_X4_times 4 .int { frames := 1, cells := 0, slots := 0, locals := 23 } [.ref (ad_p E 0), .int x1] r.1 := by
  unfold mM_times at h
  refine zc_i_of (by decide) rfl (Nat.le_of_ble_eq_true rfl) (fun X cx cq => ?_)
  refine zz_aload_n cx dn_X4_times_0 rfl rfl ?_
  refine zz_aload_n cx dn_X4_times_1 rfl rfl ?_
  refine zz_iload_n cx dn_X4_times_2 rfl rfl ?_
  refine gs_bind h (fun q1 e_q1 h => ?_)
  refine zz_callVi cx (As := [.int x1]) (rest := [.ref (ad_p E 0)]) (c2 := 0) (s2 := 0) (z_mM_isBar E G x1 _ e_q1) zm_X4_isBar zk_X4_129 zv_X4_isBar 0 rfl rfl (by decide) rfl (Nat.le_of_ble_eq_true rfl) rfl rfl (by decide) (wc_m_addr E _ _) dn_X4_times_3 ?_
  refine zz_if_ne cx (tgt := 13) dn_X4_times_6 (by decide) h (fun h => ?_) (fun h => ?_)
  · refine zz_iconst cx dn_X4_times_9 (v := (1 : Int32)) (by decide) ?_
    refine zz_goto cx dn_X4_times_10 (tgt := 14) (by decide) ?_
    exact z_mM_times_j14 E n G x1 (1 : Int32) _ X cx cq h
  · refine zz_iconst cx dn_X4_times_13 (v := (0 : Int32)) (by decide) ?_
    exact z_mM_times_j14 E n G x1 (0 : Int32) _ X cx cq h
set_option maxHeartbeats 4000000 in
set_option maxRecDepth 100000 in
theorem z_mM_comes (E : ze_T) (G : gs_T) (x1 : Int32) (r : (Int32 × gs_T)) (h : mM_comes G x1 = some r) : zc_i (zF E) (wc_m E G) (wc_m E r.2) yn_X4_comes cn_X4_comes 2 .int { frames := 1, cells := 0, slots := 0, locals := 23 } [.ref (ad_p E 0), .int x1] r.1 := by
  unfold mM_comes at h
  refine zc_i_of (by decide) rfl (Nat.le_of_ble_eq_true rfl) (fun X cx cq => ?_)
  refine zz_aload_n cx dn_X4_comes_0 rfl rfl ?_
  refine zz_aload_n cx dn_X4_comes_1 rfl rfl ?_
  refine zz_iload_n cx dn_X4_comes_2 rfl rfl ?_
  refine gs_bind h (fun q1 e_q1 h => ?_)
  refine zz_callVi cx (As := [.int x1]) (rest := [.ref (ad_p E 0)]) (c2 := 0) (s2 := 0) (z_mM_isBar E G x1 _ e_q1) zm_X4_isBar zk_X4_129 zv_X4_isBar 0 rfl rfl (by decide) rfl (Nat.le_of_ble_eq_true rfl) rfl rfl (by decide) (wc_m_addr E _ _) dn_X4_comes_3 ?_
  refine zz_if_ne cx (tgt := 13) dn_X4_comes_6 (by decide) h (fun h => ?_) (fun h => ?_)
  · refine zz_iconst cx dn_X4_comes_9 (v := (1 : Int32)) (by decide) ?_
    refine zz_goto cx dn_X4_comes_10 (tgt := 14) (by decide) ?_
    refine zz_iconst cx dn_X4_comes_14 (v := (0 : Int32)) (by decide) ?_
    refine zz_iconst cx dn_X4_comes_15 (v := (0 : Int32)) (by decide) ?_
    refine gs_bind h (fun q3 e_q3 h => ?_)
    refine zz_callVi cx (As := [.int (1 : Int32), .int (0 : Int32), .int (0 : Int32)]) (rest := []) (c2 := 0) (s2 := 0) (z_mM_refuses E G (1 : Int32) (0 : Int32) (0 : Int32) _ e_q3) zm_X4_refuses zk_X4_105 zv_X4_refuses 0 rfl rfl (by decide) rfl (Nat.le_of_ble_eq_true rfl) rfl rfl (by decide) (wc_m_addr E _ _) dn_X4_comes_16 ?_
    refine zz_if_eq cx (tgt := 24) dn_X4_comes_19 (by decide) h (fun h => ?_) (fun h => ?_)
    · refine zz_aload_n cx dn_X4_comes_24 rfl rfl ?_
      refine zz_get cx zi_X4 (v := .ref (ad_p E 18)) (ci := 4) rfl 0 23 rfl (by decide) zk_X4_66 rfl dn_X4_comes_25 ?_
      refine zz_iload_n cx dn_X4_comes_28 rfl rfl ?_
      refine zz_iald cx 18 0 rfl rfl h (v := (gs_a q3.2 17 x1)) rfl dn_X4_comes_29 (fun h => ?_)
      obtain rfl := Option.some.inj h
      exact zz_iret cx cq (by decide) (by decide) dn_X4_comes_30
    · refine zz_iconst cx dn_X4_comes_22 (v := (0 : Int32)) (by decide) ?_
      obtain rfl := Option.some.inj h
      exact zz_iret cx cq (by decide) (by decide) dn_X4_comes_23
  · refine zz_iconst cx dn_X4_comes_13 (v := (0 : Int32)) (by decide) ?_
    refine zz_iconst cx dn_X4_comes_14 (v := (0 : Int32)) (by decide) ?_
    refine zz_iconst cx dn_X4_comes_15 (v := (0 : Int32)) (by decide) ?_
    refine gs_bind h (fun q2 e_q2 h => ?_)
    refine zz_callVi cx (As := [.int (0 : Int32), .int (0 : Int32), .int (0 : Int32)]) (rest := []) (c2 := 0) (s2 := 0) (z_mM_refuses E G (0 : Int32) (0 : Int32) (0 : Int32) _ e_q2) zm_X4_refuses zk_X4_105 zv_X4_refuses 0 rfl rfl (by decide) rfl (Nat.le_of_ble_eq_true rfl) rfl rfl (by decide) (wc_m_addr E _ _) dn_X4_comes_16 ?_
    refine zz_if_eq cx (tgt := 24) dn_X4_comes_19 (by decide) h (fun h => ?_) (fun h => ?_)
    · refine zz_aload_n cx dn_X4_comes_24 rfl rfl ?_
      refine zz_get cx zi_X4 (v := .ref (ad_p E 18)) (ci := 4) rfl 0 23 rfl (by decide) zk_X4_66 rfl dn_X4_comes_25 ?_
      refine zz_iload_n cx dn_X4_comes_28 rfl rfl ?_
      refine zz_iald cx 18 0 rfl rfl h (v := (gs_a q2.2 17 x1)) rfl dn_X4_comes_29 (fun h => ?_)
      obtain rfl := Option.some.inj h
      exact zz_iret cx cq (by decide) (by decide) dn_X4_comes_30
    · refine zz_iconst cx dn_X4_comes_22 (v := (0 : Int32)) (by decide) ?_
      obtain rfl := Option.some.inj h
      exact zz_iret cx cq (by decide) (by decide) dn_X4_comes_23
set_option maxHeartbeats 4000000 in
set_option maxRecDepth 100000 in
theorem z_mM_isAgain_16 (E : ze_T) (n : Nat) (G : gs_T) (x1 x2 x3 : Int32) (r : Int32) (X : zx_T) (cx : zx (zF E) X cn_X4_isAgain yn_X4_isAgain.cls { frames := 0, cells := 0, slots := 0, locals := 0 } 6) (cq : zq_i (zF E) X (wc_m E G) .boolean r) : ∀ (k : Nat) (x4 : Int32) (x5 : Int32), mM_isAgain_16 n G x1 x2 x3 k x4 x5 = some r → zj (zF E) X 0 0 (wc_m E G) 16 [some (.ref (ad_p E 0)), some (.int x1), some (.int x2), some (.int x3), some (.int x4), some (.int x5)] [] := by
  intro k
  induction k with
  | zero => intro x4 x5 h; cases h
  | succ k ih =>
    intro x4 x5 h
    rw [mM_isAgain_16] at h
    refine zz_iload cx dn_X4_isAgain_16 rfl ?_
    refine zz_iload_n cx dn_X4_isAgain_18 rfl rfl ?_
    refine zz_icmp_ge cx (tgt := 63) dn_X4_isAgain_19 (by decide) h (fun h => ?_) (fun h => ?_)
    · refine zz_iload cx dn_X4_isAgain_63 rfl ?_
      obtain ⟨hz, h⟩ := gs_bz_some h
      obtain rfl := Option.some.inj h
      exact zz_zret cx cq (gs_narz hz) (by decide) (by decide) dn_X4_isAgain_65
    · refine zz_iload cx dn_X4_isAgain_22 rfl ?_
      refine zz_if_eq cx (tgt := 63) dn_X4_isAgain_24 (by decide) h (fun h => ?_) (fun h => ?_)
      · refine zz_iload cx dn_X4_isAgain_63 rfl ?_
        obtain ⟨hz, h⟩ := gs_bz_some h
        obtain rfl := Option.some.inj h
        exact zz_zret cx cq (gs_narz hz) (by decide) (by decide) dn_X4_isAgain_65
      · refine zz_aload_n cx dn_X4_isAgain_27 rfl rfl ?_
        refine zz_get cx zi_X4 (v := .ref (ad_p E 21)) (ci := 4) rfl 0 31 rfl (by decide) zk_X4_75 rfl dn_X4_isAgain_28 ?_
        refine zz_iload_n cx dn_X4_isAgain_31 rfl rfl ?_
        refine zz_iload cx dn_X4_isAgain_32 rfl ?_
        refine zz_iadd cx dn_X4_isAgain_34 ?_
        refine zz_iald cx 21 0 rfl rfl h (v := (gs_a G 20 (x1 + x5))) rfl dn_X4_isAgain_35 (fun h => ?_)
        refine zz_aload_n cx dn_X4_isAgain_36 rfl rfl ?_
        refine zz_get cx zi_X4 (v := .ref (ad_p E 21)) (ci := 4) rfl 0 31 rfl (by decide) zk_X4_75 rfl dn_X4_isAgain_37 ?_
        refine zz_iload_n cx dn_X4_isAgain_40 rfl rfl ?_
        refine zz_iload cx dn_X4_isAgain_41 rfl ?_
        refine zz_iadd cx dn_X4_isAgain_43 ?_
        refine zz_iload_n cx dn_X4_isAgain_44 rfl rfl ?_
        refine zz_isub cx dn_X4_isAgain_45 ?_
        refine zz_iald cx 21 0 rfl rfl h (v := (gs_a G 20 ((x1 + x5) - x3))) rfl dn_X4_isAgain_46 (fun h => ?_)
        refine zz_icmp_ne cx (tgt := 54) dn_X4_isAgain_47 (by decide) h (fun h => ?_) (fun h => ?_)
        · refine zz_iconst cx dn_X4_isAgain_50 (v := (1 : Int32)) (by decide) ?_
          refine zz_goto cx dn_X4_isAgain_51 (tgt := 55) (by decide) ?_
          refine zz_istore cx dn_X4_isAgain_55 (by decide) rfl ?_
          refine zz_iinc cx dn_X4_isAgain_57 (d := (1 : Int32)) rfl (by decide) (by decide) rfl ?_
          refine zz_goto cx dn_X4_isAgain_60 (tgt := 16) (by decide) ?_
          exact ih (1 : Int32) (x5 + (1 : Int32)) h
        · refine zz_iconst cx dn_X4_isAgain_54 (v := (0 : Int32)) (by decide) ?_
          refine zz_istore cx dn_X4_isAgain_55 (by decide) rfl ?_
          refine zz_iinc cx dn_X4_isAgain_57 (d := (1 : Int32)) rfl (by decide) (by decide) rfl ?_
          refine zz_goto cx dn_X4_isAgain_60 (tgt := 16) (by decide) ?_
          exact ih (0 : Int32) (x5 + (1 : Int32)) h
set_option maxHeartbeats 4000000 in
set_option maxRecDepth 100000 in
theorem z_mM_isAgain_j11 (E : ze_T) (n : Nat) (G : gs_T) (x1 x2 x3 s0 : Int32) (r : Int32) (X : zx_T) (cx : zx (zF E) X cn_X4_isAgain yn_X4_isAgain.cls { frames := 0, cells := 0, slots := 0, locals := 0 } 6) (cq : zq_i (zF E) X (wc_m E G) .boolean r) (h : mM_isAgain_j11 n G x1 x2 x3 s0 = some r) : zj (zF E) X 0 0 (wc_m E G) 11 [some (.ref (ad_p E 0)), some (.int x1), some (.int x2), some (.int x3), none, none] [.int s0] := by
  unfold mM_isAgain_j11 at h
  refine zz_istore cx dn_X4_isAgain_11 (by decide) rfl ?_
  refine zz_iload_n cx dn_X4_isAgain_13 rfl rfl ?_
  refine zz_istore cx dn_X4_isAgain_14 (by decide) rfl ?_
  exact z_mM_isAgain_16 E n G x1 x2 x3 _ X cx cq n s0 x3 h
set_option maxHeartbeats 4000000 in
set_option maxRecDepth 100000 in
theorem z_mM_isAgain (E : ze_T) (n : Nat) (G : gs_T) (x1 x2 x3 : Int32) (r : Int32) (h : mM_isAgain n G x1 x2 x3 = some r) : zc_i (zF E) (wc_m E G) (wc_m E G) yn_X4_isAgain cn_X4_isAgain 6 .boolean { frames := 0, cells := 0, slots := 0, locals := 0 } [.ref (ad_p E 0), .int x1, .int x2, .int x3] r := by
  unfold mM_isAgain at h
  refine zc_i_of (by decide) rfl (Nat.le_of_ble_eq_true rfl) (fun X cx cq => ?_)
  refine zz_iload_n cx dn_X4_isAgain_0 rfl rfl ?_
  refine zz_iload_n cx dn_X4_isAgain_1 rfl rfl ?_
  refine zz_irem cx dn_X4_isAgain_2 h (fun h => ?_)
  refine zz_if_ne cx (tgt := 10) dn_X4_isAgain_3 (by decide) h (fun h => ?_) (fun h => ?_)
  · refine zz_iconst cx dn_X4_isAgain_6 (v := (1 : Int32)) (by decide) ?_
    refine zz_goto cx dn_X4_isAgain_7 (tgt := 11) (by decide) ?_
    exact z_mM_isAgain_j11 E n G x1 x2 x3 (1 : Int32) _ X cx cq h
  · refine zz_iconst cx dn_X4_isAgain_10 (v := (0 : Int32)) (by decide) ?_
    exact z_mM_isAgain_j11 E n G x1 x2 x3 (0 : Int32) _ X cx cq h
set_option maxHeartbeats 4000000 in
set_option maxRecDepth 100000 in
theorem z_mM_findWay_42 (E : ze_T) (n : Nat) (x1 x2 x3 : Int32) (K : gs_T → Option gs_T) (r : gs_T) (X : zx_T) (cx : zx (zF E) X cn_X4_findWay yn_X4_findWay.cls { frames := 1, cells := 0, slots := 0, locals := 25 } 6) (cq : zq_v (zF E) X (wc_m E r)) (hK : ∀ (G1 : gs_T), K G1 = some r → zj (zF E) X 0 0 (wc_m E G1) 114 [some (.ref (ad_p E 0)), some (.int x1), some (.int x2), some (.int x3), none, none] []) : ∀ (k : Nat) (x4 : Int32) (G : gs_T), mM_findWay_42 n x1 x2 x3 K k x4 G = some r → zj (zF E) X 0 0 (wc_m E G) 42 [some (.ref (ad_p E 0)), some (.int x1), some (.int x2), some (.int x3), some (.int x4), none] [] := by
  intro k
  induction k with
  | zero => intro x4 G h; cases h
  | succ k ih =>
    intro x4 G h
    rw [mM_findWay_42] at h
    refine zz_iconst cx dn_X4_findWay_42 (v := (2 : Int32)) (by decide) ?_
    refine zz_iload cx dn_X4_findWay_43 rfl ?_
    refine zz_imul cx dn_X4_findWay_45 ?_
    refine zz_iload_n cx dn_X4_findWay_46 rfl rfl ?_
    refine zz_icmp_gt cx (tgt := 114) dn_X4_findWay_47 (by decide) h (fun h => ?_) (fun h => ?_)
    · refine zz_less (L2 := [some (.ref (ad_p E 0)), some (.int x1), some (.int x2), some (.int x3), none, none]) (⟨rfl, rfl, rfl, rfl, trivial⟩) ?_
      exact hK G h
    · refine zz_aload_n cx dn_X4_findWay_50 rfl rfl ?_
      refine zz_iload_n cx dn_X4_findWay_51 rfl rfl ?_
      refine zz_iload_n cx dn_X4_findWay_52 rfl rfl ?_
      refine zz_iload cx dn_X4_findWay_53 rfl ?_
      refine gs_bind h (fun q1 e_q1 h => ?_)
      refine zz_callVi cx (As := [.int x1, .int x2, .int x4]) (rest := []) (c2 := 0) (s2 := 0) (z_mM_isAgain E n G x1 x2 x4 _ e_q1) zm_X4_isAgain zk_X4_200 zv_X4_isAgain 0 rfl rfl (by decide) rfl (Nat.le_of_ble_eq_true rfl) rfl rfl (by decide) (wc_m_addr E _ _) dn_X4_findWay_55 ?_
      refine zz_if_eq cx (tgt := 108) dn_X4_findWay_58 (by decide) h (fun h => ?_) (fun h => ?_)
      · refine zz_iinc cx dn_X4_findWay_108 (d := (1 : Int32)) rfl (by decide) (by decide) rfl ?_
        refine zz_goto cx dn_X4_findWay_111 (tgt := 42) (by decide) ?_
        exact ih (x4 + (1 : Int32)) G h
      · refine zz_aload_n cx dn_X4_findWay_61 rfl rfl ?_
        refine zz_get cx zi_X4 (v := .ref (ad_p E 22)) (ci := 4) rfl 0 32 rfl (by decide) zk_X4_78 rfl dn_X4_findWay_62 ?_
        refine zz_bipush cx dn_X4_findWay_65 (v := (41 : Int32)) (by decide) ?_
        refine zz_iload_n cx dn_X4_findWay_67 rfl rfl ?_
        refine zz_imul cx dn_X4_findWay_68 ?_
        refine zz_iload cx dn_X4_findWay_69 rfl ?_
        refine zz_iadd cx dn_X4_findWay_71 ?_
        refine zz_iald cx 22 0 rfl rfl h (v := (gs_a G 21 (((41 : Int32) * x1) + x4))) rfl dn_X4_findWay_72 (fun h => ?_)
        refine zz_aload_n cx dn_X4_findWay_73 rfl rfl ?_
        refine zz_get cx zi_X4 (v := .ref (ad_p E 22)) (ci := 4) rfl 0 32 rfl (by decide) zk_X4_78 rfl dn_X4_findWay_74 ?_
        refine zz_iload_n cx dn_X4_findWay_77 rfl rfl ?_
        refine zz_iald cx 22 0 rfl rfl h (v := (gs_a G 21 x3)) rfl dn_X4_findWay_78 (fun h => ?_)
        refine zz_icmp_ge cx (tgt := 108) dn_X4_findWay_79 (by decide) h (fun h => ?_) (fun h => ?_)
        · refine zz_iinc cx dn_X4_findWay_108 (d := (1 : Int32)) rfl (by decide) (by decide) rfl ?_
          refine zz_goto cx dn_X4_findWay_111 (tgt := 42) (by decide) ?_
          exact ih (x4 + (1 : Int32)) G h
        · refine zz_aload_n cx dn_X4_findWay_82 rfl rfl ?_
          refine zz_get cx zi_X4 (v := .ref (ad_p E 22)) (ci := 4) rfl 0 32 rfl (by decide) zk_X4_78 rfl dn_X4_findWay_83 ?_
          refine zz_iload_n cx dn_X4_findWay_86 rfl rfl ?_
          refine zz_aload_n cx dn_X4_findWay_87 rfl rfl ?_
          refine zz_get cx zi_X4 (v := .ref (ad_p E 22)) (ci := 4) rfl 0 32 rfl (by decide) zk_X4_78 rfl dn_X4_findWay_88 ?_
          refine zz_bipush cx dn_X4_findWay_91 (v := (41 : Int32)) (by decide) ?_
          refine zz_iload_n cx dn_X4_findWay_93 rfl rfl ?_
          refine zz_imul cx dn_X4_findWay_94 ?_
          refine zz_iload cx dn_X4_findWay_95 rfl ?_
          refine zz_iadd cx dn_X4_findWay_97 ?_
          refine zz_iald cx 22 0 rfl rfl h (v := (gs_a G 21 (((41 : Int32) * x1) + x4))) rfl dn_X4_findWay_98 (fun h => ?_)
          refine zz_iast cx 22 0 rfl rfl h (ws2 := (wc_m E (gs_sa G 21 x3 (gs_a G 21 (((41 : Int32) * x1) + x4))))) (wc_m_a21 E _ _ _) dn_X4_findWay_99 (fun h => ?_)
          refine zz_aload_n cx dn_X4_findWay_100 rfl rfl ?_
          refine zz_get cx zi_X4 (v := .ref (ad_p E 23)) (ci := 4) rfl 0 33 rfl (by decide) zk_X4_81 rfl dn_X4_findWay_101 ?_
          refine zz_iload_n cx dn_X4_findWay_104 rfl rfl ?_
          refine zz_iload cx dn_X4_findWay_105 rfl ?_
          refine zz_iast cx 23 0 rfl rfl h (ws2 := (wc_m E (gs_sa (gs_sa G 21 x3 (gs_a G 21 (((41 : Int32) * x1) + x4))) 22 x3 x4))) (wc_m_a22 E _ _ _) dn_X4_findWay_107 (fun h => ?_)
          refine zz_iinc cx dn_X4_findWay_108 (d := (1 : Int32)) rfl (by decide) (by decide) rfl ?_
          refine zz_goto cx dn_X4_findWay_111 (tgt := 42) (by decide) ?_
          exact ih (x4 + (1 : Int32)) (gs_sa (gs_sa G 21 x3 (gs_a G 21 (((41 : Int32) * x1) + x4))) 22 x3 x4) h
set_option maxHeartbeats 4000000 in
set_option maxRecDepth 100000 in
theorem z_mM_findWay_117 (E : ze_T) (n : Nat) (x1 x2 x3 : Int32) (r : gs_T) (X : zx_T) (cx : zx (zF E) X cn_X4_findWay yn_X4_findWay.cls { frames := 1, cells := 0, slots := 0, locals := 25 } 6) (cq : zq_v (zF E) X (wc_m E r)) : ∀ (k : Nat) (x4 : Int32) (G : gs_T), mM_findWay_117 n x1 x2 x3 k x4 G = some r → zj (zF E) X 0 0 (wc_m E G) 117 [some (.ref (ad_p E 0)), some (.int x1), some (.int x2), some (.int x3), some (.int x4), none] [] := by
  intro k
  induction k with
  | zero => intro x4 G h; cases h
  | succ k ih =>
    intro x4 G h
    rw [mM_findWay_117] at h
    refine zz_iload cx dn_X4_findWay_117 rfl ?_
    refine zz_iload_n cx dn_X4_findWay_119 rfl rfl ?_
    refine zz_icmp_ge cx (tgt := 195) dn_X4_findWay_120 (by decide) h (fun h => ?_) (fun h => ?_)
    · obtain rfl := Option.some.inj h
      exact zz_vret cx cq (by decide) (by decide) dn_X4_findWay_195
    · refine zz_aload_n cx dn_X4_findWay_123 rfl rfl ?_
      refine zz_get cx zi_X4 (v := .ref (ad_p E 22)) (ci := 4) rfl 0 32 rfl (by decide) zk_X4_78 rfl dn_X4_findWay_124 ?_
      refine zz_bipush cx dn_X4_findWay_127 (v := (41 : Int32)) (by decide) ?_
      refine zz_iload_n cx dn_X4_findWay_129 rfl rfl ?_
      refine zz_imul cx dn_X4_findWay_130 ?_
      refine zz_iload cx dn_X4_findWay_131 rfl ?_
      refine zz_iadd cx dn_X4_findWay_133 ?_
      refine zz_iald cx 22 0 rfl rfl h (v := (gs_a G 21 (((41 : Int32) * x1) + x4))) rfl dn_X4_findWay_134 (fun h => ?_)
      refine zz_aload_n cx dn_X4_findWay_135 rfl rfl ?_
      refine zz_get cx zi_X4 (v := .ref (ad_p E 22)) (ci := 4) rfl 0 32 rfl (by decide) zk_X4_78 rfl dn_X4_findWay_136 ?_
      refine zz_bipush cx dn_X4_findWay_139 (v := (41 : Int32)) (by decide) ?_
      refine zz_iload_n cx dn_X4_findWay_141 rfl rfl ?_
      refine zz_iload cx dn_X4_findWay_142 rfl ?_
      refine zz_iadd cx dn_X4_findWay_144 ?_
      refine zz_imul cx dn_X4_findWay_145 ?_
      refine zz_iload_n cx dn_X4_findWay_146 rfl rfl ?_
      refine zz_iadd cx dn_X4_findWay_147 ?_
      refine zz_iload cx dn_X4_findWay_148 rfl ?_
      refine zz_isub cx dn_X4_findWay_150 ?_
      refine zz_iald cx 22 0 rfl rfl h (v := (gs_a G 21 ((((41 : Int32) * (x1 + x4)) + x2) - x4))) rfl dn_X4_findWay_151 (fun h => ?_)
      refine zz_iadd cx dn_X4_findWay_152 ?_
      refine zz_istore cx dn_X4_findWay_153 (by decide) rfl ?_
      refine zz_iload cx dn_X4_findWay_155 rfl ?_
      refine zz_aload_n cx dn_X4_findWay_157 rfl rfl ?_
      refine zz_get cx zi_X4 (v := .ref (ad_p E 22)) (ci := 4) rfl 0 32 rfl (by decide) zk_X4_78 rfl dn_X4_findWay_158 ?_
      refine zz_iload_n cx dn_X4_findWay_161 rfl rfl ?_
      refine zz_iald cx 22 0 rfl rfl h (v := (gs_a G 21 x3)) rfl dn_X4_findWay_162 (fun h => ?_)
      refine zz_icmp_ge cx (tgt := 189) dn_X4_findWay_163 (by decide) h (fun h => ?_) (fun h => ?_)
      · refine zz_iinc cx dn_X4_findWay_189 (d := (1 : Int32)) rfl (by decide) (by decide) rfl ?_
        refine zz_goto cx dn_X4_findWay_192 (tgt := 117) (by decide) ?_
        refine zz_less (L2 := [some (.ref (ad_p E 0)), some (.int x1), some (.int x2), some (.int x3), some (.int (x4 + (1 : Int32))), none]) (⟨rfl, rfl, rfl, rfl, rfl, trivial⟩) ?_
        exact ih (x4 + (1 : Int32)) G h
      · refine zz_aload_n cx dn_X4_findWay_166 rfl rfl ?_
        refine zz_get cx zi_X4 (v := .ref (ad_p E 22)) (ci := 4) rfl 0 32 rfl (by decide) zk_X4_78 rfl dn_X4_findWay_167 ?_
        refine zz_iload_n cx dn_X4_findWay_170 rfl rfl ?_
        refine zz_iload cx dn_X4_findWay_171 rfl ?_
        refine zz_iast cx 22 0 rfl rfl h (ws2 := (wc_m E (gs_sa G 21 x3 ((gs_a G 21 (((41 : Int32) * x1) + x4)) + (gs_a G 21 ((((41 : Int32) * (x1 + x4)) + x2) - x4)))))) (wc_m_a21 E _ _ _) dn_X4_findWay_173 (fun h => ?_)
        refine zz_aload_n cx dn_X4_findWay_174 rfl rfl ?_
        refine zz_get cx zi_X4 (v := .ref (ad_p E 23)) (ci := 4) rfl 0 33 rfl (by decide) zk_X4_81 rfl dn_X4_findWay_175 ?_
        refine zz_iload_n cx dn_X4_findWay_178 rfl rfl ?_
        refine zz_iconst cx dn_X4_findWay_179 (v := (0 : Int32)) (by decide) ?_
        refine zz_iast cx 23 0 rfl rfl h (ws2 := (wc_m E (gs_sa (gs_sa G 21 x3 ((gs_a G 21 (((41 : Int32) * x1) + x4)) + (gs_a G 21 ((((41 : Int32) * (x1 + x4)) + x2) - x4)))) 22 x3 (0 : Int32)))) (wc_m_a22 E _ _ _) dn_X4_findWay_180 (fun h => ?_)
        refine zz_aload_n cx dn_X4_findWay_181 rfl rfl ?_
        refine zz_get cx zi_X4 (v := .ref (ad_p E 24)) (ci := 4) rfl 0 34 rfl (by decide) zk_X4_84 rfl dn_X4_findWay_182 ?_
        refine zz_iload_n cx dn_X4_findWay_185 rfl rfl ?_
        refine zz_iload cx dn_X4_findWay_186 rfl ?_
        refine zz_iast cx 24 0 rfl rfl h (ws2 := (wc_m E (gs_sa (gs_sa (gs_sa G 21 x3 ((gs_a G 21 (((41 : Int32) * x1) + x4)) + (gs_a G 21 ((((41 : Int32) * (x1 + x4)) + x2) - x4)))) 22 x3 (0 : Int32)) 23 x3 x4))) (wc_m_a23 E _ _ _) dn_X4_findWay_188 (fun h => ?_)
        refine zz_iinc cx dn_X4_findWay_189 (d := (1 : Int32)) rfl (by decide) (by decide) rfl ?_
        refine zz_goto cx dn_X4_findWay_192 (tgt := 117) (by decide) ?_
        refine zz_less (L2 := [some (.ref (ad_p E 0)), some (.int x1), some (.int x2), some (.int x3), some (.int (x4 + (1 : Int32))), none]) (⟨rfl, rfl, rfl, rfl, rfl, trivial⟩) ?_
        exact ih (x4 + (1 : Int32)) (gs_sa (gs_sa (gs_sa G 21 x3 ((gs_a G 21 (((41 : Int32) * x1) + x4)) + (gs_a G 21 ((((41 : Int32) * (x1 + x4)) + x2) - x4)))) 22 x3 (0 : Int32)) 23 x3 x4) h
set_option maxHeartbeats 4000000 in
set_option maxRecDepth 100000 in
theorem z_mM_findWay_j24 (E : ze_T) (n : Nat) (G : gs_T) (x1 x2 x3 s0 s1 : Int32) (r : gs_T) (X : zx_T) (cx : zx (zF E) X cn_X4_findWay yn_X4_findWay.cls { frames := 1, cells := 0, slots := 0, locals := 25 } 6) (cq : zq_v (zF E) X (wc_m E r)) (h : mM_findWay_j24 n G x1 x2 x3 s0 s1 = some r) : zj (zF E) X 0 0 (wc_m E G) 24 [some (.ref (ad_p E 0)), some (.int x1), some (.int x2), some (.int x3), none, none] [.int s1, .int s0, .ref (ad_p E 22)] := by
  unfold mM_findWay_j24 at h
  refine zz_iast cx 22 0 rfl rfl h (ws2 := (wc_m E (gs_sa G 21 s0 s1))) (wc_m_a21 E _ _ _) dn_X4_findWay_24 (fun h => ?_)
  refine zz_aload_n cx dn_X4_findWay_25 rfl rfl ?_
  refine zz_get cx zi_X4 (v := .ref (ad_p E 23)) (ci := 4) rfl 0 33 rfl (by decide) zk_X4_81 rfl dn_X4_findWay_26 ?_
  refine zz_iload_n cx dn_X4_findWay_29 rfl rfl ?_
  refine zz_iconst cx dn_X4_findWay_30 (v := (0 : Int32)) (by decide) ?_
  refine zz_iast cx 23 0 rfl rfl h (ws2 := (wc_m E (gs_sa (gs_sa G 21 s0 s1) 22 x3 (0 : Int32)))) (wc_m_a22 E _ _ _) dn_X4_findWay_31 (fun h => ?_)
  refine zz_aload_n cx dn_X4_findWay_32 rfl rfl ?_
  refine zz_get cx zi_X4 (v := .ref (ad_p E 24)) (ci := 4) rfl 0 34 rfl (by decide) zk_X4_84 rfl dn_X4_findWay_33 ?_
  refine zz_iload_n cx dn_X4_findWay_36 rfl rfl ?_
  refine zz_iconst cx dn_X4_findWay_37 (v := (0 : Int32)) (by decide) ?_
  refine zz_iast cx 24 0 rfl rfl h (ws2 := (wc_m E (gs_sa (gs_sa (gs_sa G 21 s0 s1) 22 x3 (0 : Int32)) 23 x3 (0 : Int32)))) (wc_m_a23 E _ _ _) dn_X4_findWay_38 (fun h => ?_)
  refine zz_iconst cx dn_X4_findWay_39 (v := (1 : Int32)) (by decide) ?_
  refine zz_istore cx dn_X4_findWay_40 (by decide) rfl ?_
  refine z_mM_findWay_42 E n x1 x2 x3 _ _ X cx cq ?_ n (1 : Int32) (gs_sa (gs_sa (gs_sa G 21 s0 s1) 22 x3 (0 : Int32)) 23 x3 (0 : Int32)) h
  intro G0 h
  refine zz_iconst cx dn_X4_findWay_114 (v := (1 : Int32)) (by decide) ?_
  refine zz_istore cx dn_X4_findWay_115 (by decide) rfl ?_
  exact z_mM_findWay_117 E n x1 x2 x3 _ X cx cq n (1 : Int32) G0 h
set_option maxHeartbeats 4000000 in
set_option maxRecDepth 100000 in
theorem z_mM_findWay (E : ze_T) (n : Nat) (G : gs_T) (x1 x2 : Int32) (r : gs_T) (h : mM_findWay n G x1 x2 = some r) : zc_v (zF E) (wc_m E G) (wc_m E r) yn_X4_findWay cn_X4_findWay 6 { frames := 1, cells := 0, slots := 0, locals := 25 } [.ref (ad_p E 0), .int x1, .int x2] := by
  unfold mM_findWay at h
  refine zc_v_of (by decide) rfl (Nat.le_of_ble_eq_true rfl) (fun X cx cq => ?_)
  refine zz_bipush cx dn_X4_findWay_0 (v := (41 : Int32)) (by decide) ?_
  refine zz_iload_n cx dn_X4_findWay_2 rfl rfl ?_
  refine zz_imul cx dn_X4_findWay_3 ?_
  refine zz_iload_n cx dn_X4_findWay_4 rfl rfl ?_
  refine zz_iadd cx dn_X4_findWay_5 ?_
  refine zz_istore_n cx dn_X4_findWay_6 rfl (by decide) rfl ?_
  refine zz_aload_n cx dn_X4_findWay_7 rfl rfl ?_
  refine zz_get cx zi_X4 (v := .ref (ad_p E 22)) (ci := 4) rfl 0 32 rfl (by decide) zk_X4_78 rfl dn_X4_findWay_8 ?_
  refine zz_iload_n cx dn_X4_findWay_11 rfl rfl ?_
  refine zz_iload_n cx dn_X4_findWay_12 rfl rfl ?_
  refine zz_iconst cx dn_X4_findWay_13 (v := (1 : Int32)) (by decide) ?_
  refine zz_icmp_ne cx (tgt := 21) dn_X4_findWay_14 (by decide) h (fun h => ?_) (fun h => ?_)
  · refine zz_iconst cx dn_X4_findWay_17 (v := (1 : Int32)) (by decide) ?_
    refine zz_goto cx dn_X4_findWay_18 (tgt := 24) (by decide) ?_
    exact z_mM_findWay_j24 E n G x1 x2 (((41 : Int32) * x1) + x2) (((41 : Int32) * x1) + x2) (1 : Int32) _ X cx cq h
  · refine zz_sipush cx dn_X4_findWay_21 (v := (1000 : Int32)) (by decide) ?_
    exact z_mM_findWay_j24 E n G x1 x2 (((41 : Int32) * x1) + x2) (((41 : Int32) * x1) + x2) (1000 : Int32) _ X cx cq h
set_option maxHeartbeats 4000000 in
set_option maxRecDepth 100000 in
theorem z_mM_item (E : ze_T) (G : gs_T) (x1 x2 : Int32) (r : gs_T) (h : mM_item G x1 x2 = some r) : zc_v (zF E) (wc_m E G) (wc_m E r) yn_X4_item cn_X4_item 3 { frames := 0, cells := 0, slots := 0, locals := 0 } [.ref (ad_p E 0), .int x1, .int x2] := by
  unfold mM_item at h
  refine zc_v_of (by decide) rfl (Nat.le_of_ble_eq_true rfl) (fun X cx cq => ?_)
  refine zz_aload_n cx dn_X4_item_0 rfl rfl ?_
  refine zz_get cx zi_X4 (v := .ref (ad_p E 25)) (ci := 4) rfl 0 36 rfl (by decide) zk_X4_87 rfl dn_X4_item_1 ?_
  refine zz_aload_n cx dn_X4_item_4 rfl rfl ?_
  refine zz_get cx zi_X4 (v := .int (G.1 11)) (ci := 4) rfl 0 35 rfl (by decide) zk_X4_191 rfl dn_X4_item_5 ?_
  refine zz_iload_n cx dn_X4_item_8 rfl rfl ?_
  refine zz_iast cx 25 0 rfl rfl h (ws2 := (wc_m E (gs_sa G 24 (G.1 11) x1))) (wc_m_a24 E _ _ _) dn_X4_item_9 (fun h => ?_)
  refine zz_aload_n cx dn_X4_item_10 rfl rfl ?_
  refine zz_get cx zi_X4 (v := .ref (ad_p E 26)) (ci := 4) rfl 0 37 rfl (by decide) zk_X4_90 rfl dn_X4_item_11 ?_
  refine zz_aload_n cx dn_X4_item_14 rfl rfl ?_
  refine zz_get cx zi_X4 (v := .int (G.1 11)) (ci := 4) rfl 0 35 rfl (by decide) zk_X4_191 rfl dn_X4_item_15 ?_
  refine zz_iload_n cx dn_X4_item_18 rfl rfl ?_
  refine zz_iast cx 26 0 rfl rfl h (ws2 := (wc_m E (gs_sa (gs_sa G 24 (G.1 11) x1) 25 (G.1 11) x2))) (wc_m_a25 E _ _ _) dn_X4_item_19 (fun h => ?_)
  refine zz_aload_n cx dn_X4_item_20 rfl rfl ?_
  refine zz_dup cx dn_X4_item_21 rfl ?_
  refine zz_get cx zi_X4 (v := .int (G.1 11)) (ci := 4) rfl 0 35 rfl (by decide) zk_X4_191 rfl dn_X4_item_22 ?_
  refine zz_iconst cx dn_X4_item_25 (v := (1 : Int32)) (by decide) ?_
  refine zz_iadd cx dn_X4_item_26 ?_
  refine zz_put cx (ws2 := (wc_m E (gs_sv (gs_sa (gs_sa G 24 (G.1 11) x1) 25 (G.1 11) x2) 11 ((G.1 11) + (1 : Int32))))) (ty := .int) (ci := 4) zi_X4 fk_X4 nm_X4 rfl 0 35 rfl (by decide) zk_X4_191 rfl (by decide +kernel) rfl rfl (Nat.le_of_ble_eq_true rfl) (wc_m_s11 E _ _) dn_X4_item_27 ?_
  obtain rfl := Option.some.inj h
  exact zz_vret cx cq (by decide) (by decide) dn_X4_item_30
set_option maxHeartbeats 4000000 in
set_option maxRecDepth 100000 in
theorem z_mM_write_16 (E : ze_T) (n : Nat) (r : gs_T) (X : zx_T) (cx : zx (zF E) X cn_X4_write yn_X4_write.cls { frames := 1, cells := 0, slots := 0, locals := 22 } 6) (cq : zq_v (zF E) X (wc_m E r)) : ∀ (k : Nat) (x2 : Int32) (G : gs_T), mM_write_16 n k x2 G = some r → zj (zF E) X 0 0 (wc_m E G) 16 [some (.ref (ad_p E 0)), none, some (.int x2), none, none, none] [] := by
  intro k
  induction k with
  | zero => intro x2 G h; cases h
  | succ k ih =>
    intro x2 G h
    rw [mM_write_16] at h
    refine zz_iload_n cx dn_X4_write_16 rfl rfl ?_
    refine zz_if_le cx (tgt := 221) dn_X4_write_17 (by decide) h (fun h => ?_) (fun h => ?_)
    · obtain rfl := Option.some.inj h
      exact zz_vret cx cq (by decide) (by decide) dn_X4_write_221
    · refine zz_iinc cx dn_X4_write_20 (d := (-1 : Int32)) rfl (by decide) (by decide) rfl ?_
      refine zz_aload_n cx dn_X4_write_23 rfl rfl ?_
      refine zz_get cx zi_X4 (v := .ref (ad_p E 27)) (ci := 4) rfl 0 39 rfl (by decide) zk_X4_93 rfl dn_X4_write_24 ?_
      refine zz_iload_n cx dn_X4_write_27 rfl rfl ?_
      refine zz_iald cx 27 0 rfl rfl h (v := (gs_a G 26 (x2 + (-1 : Int32)))) rfl dn_X4_write_28 (fun h => ?_)
      refine zz_istore_n cx dn_X4_write_29 rfl (by decide) rfl ?_
      refine zz_aload_n cx dn_X4_write_30 rfl rfl ?_
      refine zz_get cx zi_X4 (v := .ref (ad_p E 28)) (ci := 4) rfl 0 40 rfl (by decide) zk_X4_96 rfl dn_X4_write_31 ?_
      refine zz_iload_n cx dn_X4_write_34 rfl rfl ?_
      refine zz_iald cx 28 0 rfl rfl h (v := (gs_a G 27 (x2 + (-1 : Int32)))) rfl dn_X4_write_35 (fun h => ?_)
      refine zz_istore cx dn_X4_write_36 (by decide) rfl ?_
      refine zz_bipush cx dn_X4_write_38 (v := (41 : Int32)) (by decide) ?_
      refine zz_iload_n cx dn_X4_write_40 rfl rfl ?_
      refine zz_imul cx dn_X4_write_41 ?_
      refine zz_iload cx dn_X4_write_42 rfl ?_
      refine zz_iadd cx dn_X4_write_44 ?_
      refine zz_istore cx dn_X4_write_45 (by decide) rfl ?_
      refine zz_iload cx dn_X4_write_47 rfl ?_
      refine zz_if_ne cx (tgt := 61) dn_X4_write_49 (by decide) h (fun h => ?_) (fun h => ?_)
      · refine zz_aload_n cx dn_X4_write_52 rfl rfl ?_
        refine zz_iconst cx dn_X4_write_53 (v := (2 : Int32)) (by decide) ?_
        refine zz_iconst cx dn_X4_write_54 (v := (0 : Int32)) (by decide) ?_
        refine gs_bind h (fun q3 e_q3 h => ?_)
        refine zz_callVv cx (As := [.int (2 : Int32), .int (0 : Int32)]) (rest := []) (c2 := 0) (s2 := 0) (z_mM_item E G (2 : Int32) (0 : Int32) _ e_q3) zm_X4_item zk_X4_203 zv_X4_item 0 rfl rfl (by decide) rfl (Nat.le_of_ble_eq_true rfl) rfl rfl (by decide) (wc_m_addr E _ _) dn_X4_write_55 ?_
        refine zz_goto cx dn_X4_write_58 (tgt := 218) (by decide) ?_
        refine zz_goto cx dn_X4_write_218 (tgt := 16) (by decide) ?_
        refine zz_less (L2 := [some (.ref (ad_p E 0)), none, some (.int (x2 + (-1 : Int32))), none, none, none]) (⟨rfl, rfl, trivial⟩) ?_
        exact ih (x2 + (-1 : Int32)) q3 h
      · refine zz_iload cx dn_X4_write_61 rfl ?_
        refine zz_iconst cx dn_X4_write_63 (v := (1 : Int32)) (by decide) ?_
        refine zz_icmp_ne cx (tgt := 91) dn_X4_write_64 (by decide) h (fun h => ?_) (fun h => ?_)
        · refine zz_aload_n cx dn_X4_write_67 rfl rfl ?_
          refine zz_iconst cx dn_X4_write_68 (v := (0 : Int32)) (by decide) ?_
          refine zz_aload_n cx dn_X4_write_69 rfl rfl ?_
          refine zz_get cx zi_X4 (v := .ref (ad_p E 21)) (ci := 4) rfl 0 31 rfl (by decide) zk_X4_75 rfl dn_X4_write_70 ?_
          refine zz_iload_n cx dn_X4_write_73 rfl rfl ?_
          refine zz_iald cx 21 0 rfl rfl h (v := (gs_a G 20 (gs_a G 26 (x2 + (-1 : Int32))))) rfl dn_X4_write_74 (fun h => ?_)
          refine gs_bind h (fun q2 e_q2 h => ?_)
          refine zz_callVv cx (As := [.int (0 : Int32), .int (gs_a G 20 (gs_a G 26 (x2 + (-1 : Int32))))]) (rest := []) (c2 := 0) (s2 := 0) (z_mM_item E G (0 : Int32) (gs_a G 20 (gs_a G 26 (x2 + (-1 : Int32)))) _ e_q2) zm_X4_item zk_X4_203 zv_X4_item 0 rfl rfl (by decide) rfl (Nat.le_of_ble_eq_true rfl) rfl rfl (by decide) (wc_m_addr E _ _) dn_X4_write_75 ?_
          refine zz_aload_n cx dn_X4_write_78 rfl rfl ?_
          refine zz_dup cx dn_X4_write_79 rfl ?_
          refine zz_get cx zi_X4 (v := .int (q2.1 12)) (ci := 4) rfl 0 38 rfl (by decide) zk_X4_194 rfl dn_X4_write_80 ?_
          refine zz_iconst cx dn_X4_write_83 (v := (1 : Int32)) (by decide) ?_
          refine zz_iadd cx dn_X4_write_84 ?_
          refine zz_put cx (ws2 := (wc_m E (gs_sv q2 12 ((q2.1 12) + (1 : Int32))))) (ty := .int) (ci := 4) zi_X4 fk_X4 nm_X4 rfl 0 38 rfl (by decide) zk_X4_194 rfl (by decide +kernel) rfl rfl (Nat.le_of_ble_eq_true rfl) (wc_m_s12 E _ _) dn_X4_write_85 ?_
          refine zz_goto cx dn_X4_write_88 (tgt := 218) (by decide) ?_
          refine zz_goto cx dn_X4_write_218 (tgt := 16) (by decide) ?_
          refine zz_less (L2 := [some (.ref (ad_p E 0)), none, some (.int (x2 + (-1 : Int32))), none, none, none]) (⟨rfl, rfl, trivial⟩) ?_
          exact ih (x2 + (-1 : Int32)) (gs_sv q2 12 ((q2.1 12) + (1 : Int32))) h
        · refine zz_aload_n cx dn_X4_write_91 rfl rfl ?_
          refine zz_get cx zi_X4 (v := .ref (ad_p E 23)) (ci := 4) rfl 0 33 rfl (by decide) zk_X4_81 rfl dn_X4_write_92 ?_
          refine zz_iload cx dn_X4_write_95 rfl ?_
          refine zz_iald cx 23 0 rfl rfl h (v := (gs_a G 22 (((41 : Int32) * (gs_a G 26 (x2 + (-1 : Int32)))) + (gs_a G 27 (x2 + (-1 : Int32)))))) rfl dn_X4_write_97 (fun h => ?_)
          refine zz_if_le cx (tgt := 160) dn_X4_write_98 (by decide) h (fun h => ?_) (fun h => ?_)
          · refine zz_aload_n cx dn_X4_write_160 rfl rfl ?_
            refine zz_get cx zi_X4 (v := .ref (ad_p E 27)) (ci := 4) rfl 0 39 rfl (by decide) zk_X4_93 rfl dn_X4_write_161 ?_
            refine zz_iload_n cx dn_X4_write_164 rfl rfl ?_
            refine zz_iload_n cx dn_X4_write_165 rfl rfl ?_
            refine zz_aload_n cx dn_X4_write_166 rfl rfl ?_
            refine zz_get cx zi_X4 (v := .ref (ad_p E 24)) (ci := 4) rfl 0 34 rfl (by decide) zk_X4_84 rfl dn_X4_write_167 ?_
            refine zz_iload cx dn_X4_write_170 rfl ?_
            refine zz_iald cx 24 0 rfl rfl h (v := (gs_a G 23 (((41 : Int32) * (gs_a G 26 (x2 + (-1 : Int32)))) + (gs_a G 27 (x2 + (-1 : Int32)))))) rfl dn_X4_write_172 (fun h => ?_)
            refine zz_iadd cx dn_X4_write_173 ?_
            refine zz_iast cx 27 0 rfl rfl h (ws2 := (wc_m E (gs_sa G 26 (x2 + (-1 : Int32)) ((gs_a G 26 (x2 + (-1 : Int32))) + (gs_a G 23 (((41 : Int32) * (gs_a G 26 (x2 + (-1 : Int32)))) + (gs_a G 27 (x2 + (-1 : Int32))))))))) (wc_m_a26 E _ _ _) dn_X4_write_174 (fun h => ?_)
            refine zz_aload_n cx dn_X4_write_175 rfl rfl ?_
            refine zz_get cx zi_X4 (v := .ref (ad_p E 28)) (ci := 4) rfl 0 40 rfl (by decide) zk_X4_96 rfl dn_X4_write_176 ?_
            refine zz_iload_n cx dn_X4_write_179 rfl rfl ?_
            refine zz_iload cx dn_X4_write_180 rfl ?_
            refine zz_aload_n cx dn_X4_write_182 rfl rfl ?_
            refine zz_get cx zi_X4 (v := .ref (ad_p E 24)) (ci := 4) rfl 0 34 rfl (by decide) zk_X4_84 rfl dn_X4_write_183 ?_
            refine zz_iload cx dn_X4_write_186 rfl ?_
            refine zz_iald cx 24 0 rfl rfl h (v := (gs_a G 23 (((41 : Int32) * (gs_a G 26 (x2 + (-1 : Int32)))) + (gs_a G 27 (x2 + (-1 : Int32)))))) rfl dn_X4_write_188 (fun h => ?_)
            refine zz_isub cx dn_X4_write_189 ?_
            refine zz_iast cx 28 0 rfl rfl h (ws2 := (wc_m E (gs_sa (gs_sa G 26 (x2 + (-1 : Int32)) ((gs_a G 26 (x2 + (-1 : Int32))) + (gs_a G 23 (((41 : Int32) * (gs_a G 26 (x2 + (-1 : Int32)))) + (gs_a G 27 (x2 + (-1 : Int32))))))) 27 (x2 + (-1 : Int32)) ((gs_a G 27 (x2 + (-1 : Int32))) - (gs_a G 23 (((41 : Int32) * (gs_a G 26 (x2 + (-1 : Int32)))) + (gs_a G 27 (x2 + (-1 : Int32))))))))) (wc_m_a27 E _ _ _) dn_X4_write_190 (fun h => ?_)
            refine zz_aload_n cx dn_X4_write_191 rfl rfl ?_
            refine zz_get cx zi_X4 (v := .ref (ad_p E 27)) (ci := 4) rfl 0 39 rfl (by decide) zk_X4_93 rfl dn_X4_write_192 ?_
            refine zz_iload_n cx dn_X4_write_195 rfl rfl ?_
            refine zz_iconst cx dn_X4_write_196 (v := (1 : Int32)) (by decide) ?_
            refine zz_iadd cx dn_X4_write_197 ?_
            refine zz_iload_n cx dn_X4_write_198 rfl rfl ?_
            refine zz_iast cx 27 0 rfl rfl h (ws2 := (wc_m E (gs_sa (gs_sa (gs_sa G 26 (x2 + (-1 : Int32)) ((gs_a G 26 (x2 + (-1 : Int32))) + (gs_a G 23 (((41 : Int32) * (gs_a G 26 (x2 + (-1 : Int32)))) + (gs_a G 27 (x2 + (-1 : Int32))))))) 27 (x2 + (-1 : Int32)) ((gs_a G 27 (x2 + (-1 : Int32))) - (gs_a G 23 (((41 : Int32) * (gs_a G 26 (x2 + (-1 : Int32)))) + (gs_a G 27 (x2 + (-1 : Int32))))))) 26 ((x2 + (-1 : Int32)) + (1 : Int32)) (gs_a G 26 (x2 + (-1 : Int32)))))) (wc_m_a26 E _ _ _) dn_X4_write_199 (fun h => ?_)
            refine zz_aload_n cx dn_X4_write_200 rfl rfl ?_
            refine zz_get cx zi_X4 (v := .ref (ad_p E 28)) (ci := 4) rfl 0 40 rfl (by decide) zk_X4_96 rfl dn_X4_write_201 ?_
            refine zz_iload_n cx dn_X4_write_204 rfl rfl ?_
            refine zz_iconst cx dn_X4_write_205 (v := (1 : Int32)) (by decide) ?_
            refine zz_iadd cx dn_X4_write_206 ?_
            refine zz_aload_n cx dn_X4_write_207 rfl rfl ?_
            refine zz_get cx zi_X4 (v := .ref (ad_p E 24)) (ci := 4) rfl 0 34 rfl (by decide) zk_X4_84 rfl dn_X4_write_208 ?_
            refine zz_iload cx dn_X4_write_211 rfl ?_
            refine zz_iald cx 24 0 rfl rfl h (v := (gs_a G 23 (((41 : Int32) * (gs_a G 26 (x2 + (-1 : Int32)))) + (gs_a G 27 (x2 + (-1 : Int32)))))) rfl dn_X4_write_213 (fun h => ?_)
            refine zz_iast cx 28 0 rfl rfl h (ws2 := (wc_m E (gs_sa (gs_sa (gs_sa (gs_sa G 26 (x2 + (-1 : Int32)) ((gs_a G 26 (x2 + (-1 : Int32))) + (gs_a G 23 (((41 : Int32) * (gs_a G 26 (x2 + (-1 : Int32)))) + (gs_a G 27 (x2 + (-1 : Int32))))))) 27 (x2 + (-1 : Int32)) ((gs_a G 27 (x2 + (-1 : Int32))) - (gs_a G 23 (((41 : Int32) * (gs_a G 26 (x2 + (-1 : Int32)))) + (gs_a G 27 (x2 + (-1 : Int32))))))) 26 ((x2 + (-1 : Int32)) + (1 : Int32)) (gs_a G 26 (x2 + (-1 : Int32)))) 27 ((x2 + (-1 : Int32)) + (1 : Int32)) (gs_a G 23 (((41 : Int32) * (gs_a G 26 (x2 + (-1 : Int32)))) + (gs_a G 27 (x2 + (-1 : Int32)))))))) (wc_m_a27 E _ _ _) dn_X4_write_214 (fun h => ?_)
            refine zz_iinc cx dn_X4_write_215 (d := (2 : Int32)) rfl (by decide) (by decide) rfl ?_
            refine zz_goto cx dn_X4_write_218 (tgt := 16) (by decide) ?_
            refine zz_less (L2 := [some (.ref (ad_p E 0)), none, some (.int ((x2 + (-1 : Int32)) + (2 : Int32))), none, none, none]) (⟨rfl, rfl, trivial⟩) ?_
            exact ih ((x2 + (-1 : Int32)) + (2 : Int32)) (gs_sa (gs_sa (gs_sa (gs_sa G 26 (x2 + (-1 : Int32)) ((gs_a G 26 (x2 + (-1 : Int32))) + (gs_a G 23 (((41 : Int32) * (gs_a G 26 (x2 + (-1 : Int32)))) + (gs_a G 27 (x2 + (-1 : Int32))))))) 27 (x2 + (-1 : Int32)) ((gs_a G 27 (x2 + (-1 : Int32))) - (gs_a G 23 (((41 : Int32) * (gs_a G 26 (x2 + (-1 : Int32)))) + (gs_a G 27 (x2 + (-1 : Int32))))))) 26 ((x2 + (-1 : Int32)) + (1 : Int32)) (gs_a G 26 (x2 + (-1 : Int32)))) 27 ((x2 + (-1 : Int32)) + (1 : Int32)) (gs_a G 23 (((41 : Int32) * (gs_a G 26 (x2 + (-1 : Int32)))) + (gs_a G 27 (x2 + (-1 : Int32)))))) h
          · refine zz_aload_n cx dn_X4_write_101 rfl rfl ?_
            refine zz_iconst cx dn_X4_write_102 (v := (1 : Int32)) (by decide) ?_
            refine zz_iload cx dn_X4_write_103 rfl ?_
            refine zz_aload_n cx dn_X4_write_105 rfl rfl ?_
            refine zz_get cx zi_X4 (v := .ref (ad_p E 23)) (ci := 4) rfl 0 33 rfl (by decide) zk_X4_81 rfl dn_X4_write_106 ?_
            refine zz_iload cx dn_X4_write_109 rfl ?_
            refine zz_iald cx 23 0 rfl rfl h (v := (gs_a G 22 (((41 : Int32) * (gs_a G 26 (x2 + (-1 : Int32)))) + (gs_a G 27 (x2 + (-1 : Int32)))))) rfl dn_X4_write_111 (fun h => ?_)
            refine zz_idiv cx dn_X4_write_112 h (fun h => ?_)
            refine gs_bind h (fun q1 e_q1 h => ?_)
            refine zz_callVv cx (As := [.int (1 : Int32), .int ((gs_a G 27 (x2 + (-1 : Int32))) / (gs_a G 22 (((41 : Int32) * (gs_a G 26 (x2 + (-1 : Int32)))) + (gs_a G 27 (x2 + (-1 : Int32))))))]) (rest := []) (c2 := 0) (s2 := 0) (z_mM_item E G (1 : Int32) ((gs_a G 27 (x2 + (-1 : Int32))) / (gs_a G 22 (((41 : Int32) * (gs_a G 26 (x2 + (-1 : Int32)))) + (gs_a G 27 (x2 + (-1 : Int32)))))) _ e_q1) zm_X4_item zk_X4_203 zv_X4_item 0 rfl rfl (by decide) rfl (Nat.le_of_ble_eq_true rfl) rfl rfl (by decide) (wc_m_addr E _ _) dn_X4_write_113 ?_
            refine zz_aload_n cx dn_X4_write_116 rfl rfl ?_
            refine zz_get cx zi_X4 (v := .ref (ad_p E 27)) (ci := 4) rfl 0 39 rfl (by decide) zk_X4_93 rfl dn_X4_write_117 ?_
            refine zz_iload_n cx dn_X4_write_120 rfl rfl ?_
            refine zz_iload_n cx dn_X4_write_121 rfl rfl ?_
            refine zz_iast cx 27 0 rfl rfl h (ws2 := (wc_m E (gs_sa q1 26 (x2 + (-1 : Int32)) (gs_a G 26 (x2 + (-1 : Int32)))))) (wc_m_a26 E _ _ _) dn_X4_write_122 (fun h => ?_)
            refine zz_aload_n cx dn_X4_write_123 rfl rfl ?_
            refine zz_get cx zi_X4 (v := .ref (ad_p E 28)) (ci := 4) rfl 0 40 rfl (by decide) zk_X4_96 rfl dn_X4_write_124 ?_
            refine zz_iload_n cx dn_X4_write_127 rfl rfl ?_
            refine zz_iconst cx dn_X4_write_128 (v := (0 : Int32)) (by decide) ?_
            refine zz_iast cx 28 0 rfl rfl h (ws2 := (wc_m E (gs_sa (gs_sa q1 26 (x2 + (-1 : Int32)) (gs_a G 26 (x2 + (-1 : Int32)))) 27 (x2 + (-1 : Int32)) (0 : Int32)))) (wc_m_a27 E _ _ _) dn_X4_write_129 (fun h => ?_)
            refine zz_aload_n cx dn_X4_write_130 rfl rfl ?_
            refine zz_get cx zi_X4 (v := .ref (ad_p E 27)) (ci := 4) rfl 0 39 rfl (by decide) zk_X4_93 rfl dn_X4_write_131 ?_
            refine zz_iload_n cx dn_X4_write_134 rfl rfl ?_
            refine zz_iconst cx dn_X4_write_135 (v := (1 : Int32)) (by decide) ?_
            refine zz_iadd cx dn_X4_write_136 ?_
            refine zz_iload_n cx dn_X4_write_137 rfl rfl ?_
            refine zz_iast cx 27 0 rfl rfl h (ws2 := (wc_m E (gs_sa (gs_sa (gs_sa q1 26 (x2 + (-1 : Int32)) (gs_a G 26 (x2 + (-1 : Int32)))) 27 (x2 + (-1 : Int32)) (0 : Int32)) 26 ((x2 + (-1 : Int32)) + (1 : Int32)) (gs_a G 26 (x2 + (-1 : Int32)))))) (wc_m_a26 E _ _ _) dn_X4_write_138 (fun h => ?_)
            refine zz_aload_n cx dn_X4_write_139 rfl rfl ?_
            refine zz_get cx zi_X4 (v := .ref (ad_p E 28)) (ci := 4) rfl 0 40 rfl (by decide) zk_X4_96 rfl dn_X4_write_140 ?_
            refine zz_iload_n cx dn_X4_write_143 rfl rfl ?_
            refine zz_iconst cx dn_X4_write_144 (v := (1 : Int32)) (by decide) ?_
            refine zz_iadd cx dn_X4_write_145 ?_
            refine zz_aload_n cx dn_X4_write_146 rfl rfl ?_
            refine zz_get cx zi_X4 (v := .ref (ad_p E 23)) (ci := 4) rfl 0 33 rfl (by decide) zk_X4_81 rfl dn_X4_write_147 ?_
            refine zz_iload cx dn_X4_write_150 rfl ?_
            refine zz_iald cx 23 0 rfl rfl h (v := (gs_a q1 22 (((41 : Int32) * (gs_a G 26 (x2 + (-1 : Int32)))) + (gs_a G 27 (x2 + (-1 : Int32)))))) rfl dn_X4_write_152 (fun h => ?_)
            refine zz_iast cx 28 0 rfl rfl h (ws2 := (wc_m E (gs_sa (gs_sa (gs_sa (gs_sa q1 26 (x2 + (-1 : Int32)) (gs_a G 26 (x2 + (-1 : Int32)))) 27 (x2 + (-1 : Int32)) (0 : Int32)) 26 ((x2 + (-1 : Int32)) + (1 : Int32)) (gs_a G 26 (x2 + (-1 : Int32)))) 27 ((x2 + (-1 : Int32)) + (1 : Int32)) (gs_a q1 22 (((41 : Int32) * (gs_a G 26 (x2 + (-1 : Int32)))) + (gs_a G 27 (x2 + (-1 : Int32)))))))) (wc_m_a27 E _ _ _) dn_X4_write_153 (fun h => ?_)
            refine zz_iinc cx dn_X4_write_154 (d := (2 : Int32)) rfl (by decide) (by decide) rfl ?_
            refine zz_goto cx dn_X4_write_157 (tgt := 218) (by decide) ?_
            refine zz_goto cx dn_X4_write_218 (tgt := 16) (by decide) ?_
            refine zz_less (L2 := [some (.ref (ad_p E 0)), none, some (.int ((x2 + (-1 : Int32)) + (2 : Int32))), none, none, none]) (⟨rfl, rfl, trivial⟩) ?_
            exact ih ((x2 + (-1 : Int32)) + (2 : Int32)) (gs_sa (gs_sa (gs_sa (gs_sa q1 26 (x2 + (-1 : Int32)) (gs_a G 26 (x2 + (-1 : Int32)))) 27 (x2 + (-1 : Int32)) (0 : Int32)) 26 ((x2 + (-1 : Int32)) + (1 : Int32)) (gs_a G 26 (x2 + (-1 : Int32)))) 27 ((x2 + (-1 : Int32)) + (1 : Int32)) (gs_a q1 22 (((41 : Int32) * (gs_a G 26 (x2 + (-1 : Int32)))) + (gs_a G 27 (x2 + (-1 : Int32)))))) h
set_option maxHeartbeats 4000000 in
set_option maxRecDepth 100000 in
theorem z_mM_write (E : ze_T) (n : Nat) (G : gs_T) (x1 : Int32) (r : gs_T) (h : mM_write n G x1 = some r) : zc_v (zF E) (wc_m E G) (wc_m E r) yn_X4_write cn_X4_write 6 { frames := 1, cells := 0, slots := 0, locals := 22 } [.ref (ad_p E 0), .int x1] := by
  unfold mM_write at h
  refine zc_v_of (by decide) rfl (Nat.le_of_ble_eq_true rfl) (fun X cx cq => ?_)
  refine zz_iconst cx dn_X4_write_0 (v := (1 : Int32)) (by decide) ?_
  refine zz_istore_n cx dn_X4_write_1 rfl (by decide) rfl ?_
  refine zz_aload_n cx dn_X4_write_2 rfl rfl ?_
  refine zz_get cx zi_X4 (v := .ref (ad_p E 27)) (ci := 4) rfl 0 39 rfl (by decide) zk_X4_93 rfl dn_X4_write_3 ?_
  refine zz_iconst cx dn_X4_write_6 (v := (0 : Int32)) (by decide) ?_
  refine zz_iconst cx dn_X4_write_7 (v := (0 : Int32)) (by decide) ?_
  refine zz_iast cx 27 0 rfl rfl h (ws2 := (wc_m E (gs_sa G 26 (0 : Int32) (0 : Int32)))) (wc_m_a26 E _ _ _) dn_X4_write_8 (fun h => ?_)
  refine zz_aload_n cx dn_X4_write_9 rfl rfl ?_
  refine zz_get cx zi_X4 (v := .ref (ad_p E 28)) (ci := 4) rfl 0 40 rfl (by decide) zk_X4_96 rfl dn_X4_write_10 ?_
  refine zz_iconst cx dn_X4_write_13 (v := (0 : Int32)) (by decide) ?_
  refine zz_iload_n cx dn_X4_write_14 rfl rfl ?_
  refine zz_iast cx 28 0 rfl rfl h (ws2 := (wc_m E (gs_sa (gs_sa G 26 (0 : Int32) (0 : Int32)) 27 (0 : Int32) x1))) (wc_m_a27 E _ _ _) dn_X4_write_15 (fun h => ?_)
  refine zz_less (L2 := [some (.ref (ad_p E 0)), none, some (.int (1 : Int32)), none, none, none]) (⟨rfl, rfl, trivial⟩) ?_
  exact z_mM_write_16 E n _ X cx cq n (1 : Int32) (gs_sa (gs_sa G 26 (0 : Int32) (0 : Int32)) 27 (0 : Int32) x1) h
set_option maxHeartbeats 4000000 in
set_option maxRecDepth 100000 in
theorem z_mM_fold_107 (E : ze_T) (n : Nat) (x2 x4 : Int32) (K : gs_T → Option (Int32 × gs_T)) (r : (Int32 × gs_T)) (X : zx_T) (cx : zx (zF E) X cn_X4_fold yn_X4_fold.cls { frames := 2, cells := 0, slots := 0, locals := 50 } 6) (cq : zq_i (zF E) X (wc_m E r.2) .int r.1) (hK : ∀ (G1 : gs_T), K G1 = some r → zj (zF E) X 0 0 (wc_m E G1) 130 [some (.ref (ad_p E 0)), none, some (.int x2), none, some (.int x4), none] []) : ∀ (k : Nat) (x5 : Int32) (G : gs_T), mM_fold_107 n x2 x4 K k x5 G = some r → zj (zF E) X 0 0 (wc_m E G) 107 [some (.ref (ad_p E 0)), none, some (.int x2), none, some (.int x4), some (.int x5)] [] := by
  intro k
  induction k with
  | zero => intro x5 G h; cases h
  | succ k ih =>
    intro x5 G h
    rw [mM_fold_107] at h
    refine zz_iload cx dn_X4_fold_107 rfl ?_
    refine zz_iload cx dn_X4_fold_109 rfl ?_
    refine zz_iadd cx dn_X4_fold_111 ?_
    refine zz_iload_n cx dn_X4_fold_112 rfl rfl ?_
    refine zz_icmp_gt cx (tgt := 130) dn_X4_fold_113 (by decide) h (fun h => ?_) (fun h => ?_)
    · refine zz_less (L2 := [some (.ref (ad_p E 0)), none, some (.int x2), none, some (.int x4), none]) (⟨rfl, rfl, rfl, trivial⟩) ?_
      exact hK G h
    · refine zz_aload_n cx dn_X4_fold_116 rfl rfl ?_
      refine zz_iload cx dn_X4_fold_117 rfl ?_
      refine zz_iload cx dn_X4_fold_119 rfl ?_
      refine gs_bind h (fun q1 e_q1 h => ?_)
      refine zz_callVv cx (As := [.int x5, .int x4]) (rest := []) (c2 := 0) (s2 := 0) (z_mM_findWay E n G x5 x4 _ e_q1) zm_X4_findWay zk_X4_187 zv_X4_findWay 0 rfl rfl (by decide) rfl (Nat.le_of_ble_eq_true rfl) rfl rfl (by decide) (wc_m_addr E _ _) dn_X4_fold_121 ?_
      refine zz_iinc cx dn_X4_fold_124 (d := (1 : Int32)) rfl (by decide) (by decide) rfl ?_
      refine zz_goto cx dn_X4_fold_127 (tgt := 107) (by decide) ?_
      exact ih (x5 + (1 : Int32)) q1 h
set_option maxHeartbeats 4000000 in
set_option maxRecDepth 100000 in
theorem z_mM_fold_62 (E : ze_T) (n : Nat) (x1 x2 : Int32) (K : gs_T → Option (Int32 × gs_T)) (r : (Int32 × gs_T)) (X : zx_T) (cx : zx (zF E) X cn_X4_fold yn_X4_fold.cls { frames := 2, cells := 0, slots := 0, locals := 50 } 6) (cq : zq_i (zF E) X (wc_m E r.2) .int r.1) (hK : ∀ (G1 : gs_T), K G1 = some r → zj (zF E) X 0 0 (wc_m E G1) 95 [some (.ref (ad_p E 0)), none, some (.int x2), none, none, none] []) : ∀ (k : Nat) (x4 : Int32) (G : gs_T), mM_fold_62 n x1 x2 K k x4 G = some r → zj (zF E) X 0 0 (wc_m E G) 62 [some (.ref (ad_p E 0)), some (.int x1), some (.int x2), none, some (.int x4), none] [] := by
  intro k
  induction k with
  | zero => intro x4 G h; cases h
  | succ k ih =>
    intro x4 G h
    rw [mM_fold_62] at h
    refine zz_iload cx dn_X4_fold_62 rfl ?_
    refine zz_iload_n cx dn_X4_fold_64 rfl rfl ?_
    refine zz_icmp_ge cx (tgt := 95) dn_X4_fold_65 (by decide) h (fun h => ?_) (fun h => ?_)
    · refine zz_less (L2 := [some (.ref (ad_p E 0)), none, some (.int x2), none, none, none]) (⟨rfl, rfl, trivial⟩) ?_
      exact hK G h
    · refine zz_aload_n cx dn_X4_fold_68 rfl rfl ?_
      refine zz_get cx zi_X4 (v := .ref (ad_p E 21)) (ci := 4) rfl 0 31 rfl (by decide) zk_X4_75 rfl dn_X4_fold_69 ?_
      refine zz_iload cx dn_X4_fold_72 rfl ?_
      refine zz_aload_n cx dn_X4_fold_74 rfl rfl ?_
      refine zz_get cx zi_X4 (v := .ref (ad_p E 1)) (ci := 4) rfl 0 2 rfl (by decide) zk_X4_7 rfl dn_X4_fold_75 ?_
      refine zz_aload_n cx dn_X4_fold_78 rfl rfl ?_
      refine zz_get cx zi_X4 (v := .ref (ad_p E 14)) (ci := 4) rfl 0 19 rfl (by decide) zk_X4_54 rfl dn_X4_fold_79 ?_
      refine zz_iload_n cx dn_X4_fold_82 rfl rfl ?_
      refine zz_iload cx dn_X4_fold_83 rfl ?_
      refine zz_iadd cx dn_X4_fold_85 ?_
      refine zz_iald cx 14 0 rfl rfl h (v := (gs_a G 13 (x1 + x4))) rfl dn_X4_fold_86 (fun h => ?_)
      refine zz_iald cx 1 0 rfl rfl h (v := (gs_a G 0 (gs_a G 13 (x1 + x4)))) rfl dn_X4_fold_87 (fun h => ?_)
      refine zz_iast cx 21 0 rfl rfl h (ws2 := (wc_m E (gs_sa G 20 x4 (gs_a G 0 (gs_a G 13 (x1 + x4)))))) (wc_m_a20 E _ _ _) dn_X4_fold_88 (fun h => ?_)
      refine zz_iinc cx dn_X4_fold_89 (d := (1 : Int32)) rfl (by decide) (by decide) rfl ?_
      refine zz_goto cx dn_X4_fold_92 (tgt := 62) (by decide) ?_
      exact ih (x4 + (1 : Int32)) (gs_sa G 20 x4 (gs_a G 0 (gs_a G 13 (x1 + x4)))) h
set_option maxHeartbeats 4000000 in
set_option maxRecDepth 100000 in
theorem z_mM_fold_98 (E : ze_T) (n : Nat) (x2 : Int32) (r : (Int32 × gs_T)) (X : zx_T) (cx : zx (zF E) X cn_X4_fold yn_X4_fold.cls { frames := 2, cells := 0, slots := 0, locals := 50 } 6) (cq : zq_i (zF E) X (wc_m E r.2) .int r.1) : ∀ (k : Nat) (x4 : Int32) (G : gs_T), mM_fold_98 n x2 k x4 G = some r → zj (zF E) X 0 0 (wc_m E G) 98 [some (.ref (ad_p E 0)), none, some (.int x2), none, some (.int x4), none] [] := by
  intro k
  induction k with
  | zero => intro x4 G h; cases h
  | succ k ih =>
    intro x4 G h
    rw [mM_fold_98] at h
    refine zz_iload cx dn_X4_fold_98 rfl ?_
    refine zz_iload_n cx dn_X4_fold_100 rfl rfl ?_
    refine zz_icmp_gt cx (tgt := 136) dn_X4_fold_101 (by decide) h (fun h => ?_) (fun h => ?_)
    · refine zz_aload_n cx dn_X4_fold_136 rfl rfl ?_
      refine zz_iconst cx dn_X4_fold_137 (v := (0 : Int32)) (by decide) ?_
      refine zz_put cx (ws2 := (wc_m E (gs_sv G 11 (0 : Int32)))) (ty := .int) (ci := 4) zi_X4 fk_X4 nm_X4 rfl 0 35 rfl (by decide) zk_X4_191 rfl (by decide +kernel) rfl rfl (Nat.le_of_ble_eq_true rfl) (wc_m_s11 E _ _) dn_X4_fold_138 ?_
      refine zz_aload_n cx dn_X4_fold_141 rfl rfl ?_
      refine zz_iconst cx dn_X4_fold_142 (v := (0 : Int32)) (by decide) ?_
      refine zz_put cx (ws2 := (wc_m E (gs_sv (gs_sv G 11 (0 : Int32)) 12 (0 : Int32)))) (ty := .int) (ci := 4) zi_X4 fk_X4 nm_X4 rfl 0 38 rfl (by decide) zk_X4_194 rfl (by decide +kernel) rfl rfl (Nat.le_of_ble_eq_true rfl) (wc_m_s12 E _ _) dn_X4_fold_143 ?_
      refine zz_aload_n cx dn_X4_fold_146 rfl rfl ?_
      refine zz_iload_n cx dn_X4_fold_147 rfl rfl ?_
      refine gs_bind h (fun q1 e_q1 h => ?_)
      refine zz_callVv cx (As := [.int x2]) (rest := []) (c2 := 0) (s2 := 0) (z_mM_write E n (gs_sv (gs_sv G 11 (0 : Int32)) 12 (0 : Int32)) x2 _ e_q1) zm_X4_write zk_X4_197 zv_X4_write 0 rfl rfl (by decide) rfl (Nat.le_of_ble_eq_true rfl) rfl rfl (by decide) (wc_m_addr E _ _) dn_X4_fold_148 ?_
      refine zz_aload_n cx dn_X4_fold_151 rfl rfl ?_
      refine zz_get cx zi_X4 (v := .int (q1.1 12)) (ci := 4) rfl 0 38 rfl (by decide) zk_X4_194 rfl dn_X4_fold_152 ?_
      obtain rfl := Option.some.inj h
      exact zz_iret cx cq (by decide) (by decide) dn_X4_fold_155
    · refine zz_iconst cx dn_X4_fold_104 (v := (0 : Int32)) (by decide) ?_
      refine zz_istore cx dn_X4_fold_105 (by decide) rfl ?_
      refine z_mM_fold_107 E n x2 x4 _ _ X cx cq ?_ n (0 : Int32) G h
      intro G1 h
      refine zz_iinc cx dn_X4_fold_130 (d := (1 : Int32)) rfl (by decide) (by decide) rfl ?_
      refine zz_goto cx dn_X4_fold_133 (tgt := 98) (by decide) ?_
      exact ih (x4 + (1 : Int32)) G1 h
set_option maxHeartbeats 4000000 in
set_option maxRecDepth 100000 in
theorem z_mM_fold_j50 (E : ze_T) (n : Nat) (G : gs_T) (x1 x2 s0 s1 : Int32) (r : (Int32 × gs_T)) (X : zx_T) (cx : zx (zF E) X cn_X4_fold yn_X4_fold.cls { frames := 2, cells := 0, slots := 0, locals := 50 } 6) (cq : zq_i (zF E) X (wc_m E r.2) .int r.1) (h : mM_fold_j50 n G x1 x2 s0 s1 = some r) : zj (zF E) X 0 0 (wc_m E G) 50 [some (.ref (ad_p E 0)), some (.int x1), some (.int x2), none, none, none] [.int s1, .int s0, .ref (ad_p E 0)] := by
  unfold mM_fold_j50 at h
  refine zz_iconst cx dn_X4_fold_50 (v := (0 : Int32)) (by decide) ?_
  refine gs_bind h (fun q1 e_q1 h => ?_)
  refine zz_callVi cx (As := [.int s0, .int s1, .int (0 : Int32)]) (rest := []) (c2 := 0) (s2 := 0) (z_mM_refuses E G s0 s1 (0 : Int32) _ e_q1) zm_X4_refuses zk_X4_105 zv_X4_refuses 0 rfl rfl (by decide) rfl (Nat.le_of_ble_eq_true rfl) rfl rfl (by decide) (wc_m_addr E _ _) dn_X4_fold_51 ?_
  refine zz_if_eq cx (tgt := 59) dn_X4_fold_54 (by decide) h (fun h => ?_) (fun h => ?_)
  · refine zz_iconst cx dn_X4_fold_59 (v := (0 : Int32)) (by decide) ?_
    refine zz_istore cx dn_X4_fold_60 (by decide) rfl ?_
    refine z_mM_fold_62 E n x1 x2 _ _ X cx cq ?_ n (0 : Int32) q1.2 h
    intro G1 h
    refine zz_iconst cx dn_X4_fold_95 (v := (1 : Int32)) (by decide) ?_
    refine zz_istore cx dn_X4_fold_96 (by decide) rfl ?_
    exact z_mM_fold_98 E n x2 _ X cx cq n (1 : Int32) G1 h
  · refine zz_iconst cx dn_X4_fold_57 (v := (0 : Int32)) (by decide) ?_
    obtain rfl := Option.some.inj h
    exact zz_iret cx cq (by decide) (by decide) dn_X4_fold_58
set_option maxHeartbeats 4000000 in
set_option maxRecDepth 100000 in
theorem z_mM_fold_j49 (E : ze_T) (n : Nat) (G : gs_T) (x1 x2 s0 : Int32) (r : (Int32 × gs_T)) (X : zx_T) (cx : zx (zF E) X cn_X4_fold yn_X4_fold.cls { frames := 2, cells := 0, slots := 0, locals := 50 } 6) (cq : zq_i (zF E) X (wc_m E r.2) .int r.1) (h : mM_fold_j49 n G x1 x2 s0 = some r) : zj (zF E) X 0 0 (wc_m E G) 49 [some (.ref (ad_p E 0)), some (.int x1), some (.int x2), none, none, none] [.int s0, .ref (ad_p E 0)] := by
  unfold mM_fold_j49 at h
  refine zz_iconst cx dn_X4_fold_49 (v := (0 : Int32)) (by decide) ?_
  exact z_mM_fold_j50 E n G x1 x2 s0 (0 : Int32) _ X cx cq h
set_option maxHeartbeats 4000000 in
set_option maxRecDepth 100000 in
theorem z_mM_fold_j45 (E : ze_T) (n : Nat) (G : gs_T) (x1 x2 s0 : Int32) (r : (Int32 × gs_T)) (X : zx_T) (cx : zx (zF E) X cn_X4_fold yn_X4_fold.cls { frames := 2, cells := 0, slots := 0, locals := 50 } 6) (cq : zq_i (zF E) X (wc_m E r.2) .int r.1) (h : mM_fold_j45 n G x1 x2 s0 = some r) : zj (zF E) X 0 0 (wc_m E G) 45 [some (.ref (ad_p E 0)), some (.int x1), some (.int x2), none, none, none] [.int s0, .ref (ad_p E 0)] := by
  unfold mM_fold_j45 at h
  refine zz_iconst cx dn_X4_fold_45 (v := (1 : Int32)) (by decide) ?_
  refine zz_goto cx dn_X4_fold_46 (tgt := 50) (by decide) ?_
  exact z_mM_fold_j50 E n G x1 x2 s0 (1 : Int32) _ X cx cq h
set_option maxHeartbeats 4000000 in
set_option maxRecDepth 100000 in
theorem z_mM_fold_j27 (E : ze_T) (n : Nat) (G : gs_T) (x1 x2 x3 s0 : Int32) (r : (Int32 × gs_T)) (X : zx_T) (cx : zx (zF E) X cn_X4_fold yn_X4_fold.cls { frames := 2, cells := 0, slots := 0, locals := 50 } 6) (cq : zq_i (zF E) X (wc_m E r.2) .int r.1) (h : mM_fold_j27 n G x1 x2 x3 s0 = some r) : zj (zF E) X 0 0 (wc_m E G) 27 [some (.ref (ad_p E 0)), some (.int x1), some (.int x2), some (.int x3), none, none] [.int s0, .ref (ad_p E 0)] := by
  unfold mM_fold_j27 at h
  refine zz_iload_n cx dn_X4_fold_27 rfl rfl ?_
  refine zz_if_eq cx (tgt := 49) dn_X4_fold_28 (by decide) h (fun h => ?_) (fun h => ?_)
  · refine zz_less (L2 := [some (.ref (ad_p E 0)), some (.int x1), some (.int x2), none, none, none]) (⟨rfl, rfl, rfl, trivial⟩) ?_
    exact z_mM_fold_j49 E n G x1 x2 s0 _ X cx cq h
  · refine zz_iload_n cx dn_X4_fold_31 rfl rfl ?_
    refine zz_if_lt cx (tgt := 45) dn_X4_fold_32 (by decide) h (fun h => ?_) (fun h => ?_)
    · refine zz_less (L2 := [some (.ref (ad_p E 0)), some (.int x1), some (.int x2), none, none, none]) (⟨rfl, rfl, rfl, trivial⟩) ?_
      exact z_mM_fold_j45 E n G x1 x2 s0 _ X cx cq h
    · refine zz_iload_n cx dn_X4_fold_35 rfl rfl ?_
      refine zz_aload_n cx dn_X4_fold_36 rfl rfl ?_
      refine zz_get cx zi_X4 (v := .int (G.1 5)) (ci := 4) rfl 0 18 rfl (by decide) zk_X4_140 rfl dn_X4_fold_37 ?_
      refine zz_iload_n cx dn_X4_fold_40 rfl rfl ?_
      refine zz_isub cx dn_X4_fold_41 ?_
      refine zz_icmp_le cx (tgt := 49) dn_X4_fold_42 (by decide) h (fun h => ?_) (fun h => ?_)
      · refine zz_less (L2 := [some (.ref (ad_p E 0)), some (.int x1), some (.int x2), none, none, none]) (⟨rfl, rfl, rfl, trivial⟩) ?_
        exact z_mM_fold_j49 E n G x1 x2 s0 _ X cx cq h
      · refine zz_less (L2 := [some (.ref (ad_p E 0)), some (.int x1), some (.int x2), none, none, none]) (⟨rfl, rfl, rfl, trivial⟩) ?_
        exact z_mM_fold_j45 E n G x1 x2 s0 _ X cx cq h
set_option maxHeartbeats 4000000 in
set_option maxRecDepth 100000 in
theorem z_mM_fold_j16 (E : ze_T) (n : Nat) (G : gs_T) (x1 x2 s0 : Int32) (r : (Int32 × gs_T)) (X : zx_T) (cx : zx (zF E) X cn_X4_fold yn_X4_fold.cls { frames := 2, cells := 0, slots := 0, locals := 50 } 6) (cq : zq_i (zF E) X (wc_m E r.2) .int r.1) (h : mM_fold_j16 n G x1 x2 s0 = some r) : zj (zF E) X 0 0 (wc_m E G) 16 [some (.ref (ad_p E 0)), some (.int x1), some (.int x2), none, none, none] [.int s0] := by
  unfold mM_fold_j16 at h
  refine zz_istore_n cx dn_X4_fold_16 rfl (by decide) rfl ?_
  refine zz_aload_n cx dn_X4_fold_17 rfl rfl ?_
  refine zz_iload_n cx dn_X4_fold_18 rfl rfl ?_
  refine zz_if_ne cx (tgt := 26) dn_X4_fold_19 (by decide) h (fun h => ?_) (fun h => ?_)
  · refine zz_iconst cx dn_X4_fold_22 (v := (1 : Int32)) (by decide) ?_
    refine zz_goto cx dn_X4_fold_23 (tgt := 27) (by decide) ?_
    exact z_mM_fold_j27 E n G x1 x2 s0 (1 : Int32) _ X cx cq h
  · refine zz_iconst cx dn_X4_fold_26 (v := (0 : Int32)) (by decide) ?_
    exact z_mM_fold_j27 E n G x1 x2 s0 (0 : Int32) _ X cx cq h
set_option maxHeartbeats 4000000 in
set_option maxRecDepth 100000 in
theorem z_mM_fold_j15 (E : ze_T) (n : Nat) (G : gs_T) (x1 x2 : Int32) (r : (Int32 × gs_T)) (X : zx_T) (cx : zx (zF E) X cn_X4_fold yn_X4_fold.cls { frames := 2, cells := 0, slots := 0, locals := 50 } 6) (cq : zq_i (zF E) X (wc_m E r.2) .int r.1) (h : mM_fold_j15 n G x1 x2 = some r) : zj (zF E) X 0 0 (wc_m E G) 15 [some (.ref (ad_p E 0)), some (.int x1), some (.int x2), none, none, none] [] := by
  unfold mM_fold_j15 at h
  refine zz_iconst cx dn_X4_fold_15 (v := (0 : Int32)) (by decide) ?_
  exact z_mM_fold_j16 E n G x1 x2 (0 : Int32) _ X cx cq h
set_option maxHeartbeats 4000000 in
set_option maxRecDepth 100000 in
theorem z_mM_fold (E : ze_T) (n : Nat) (G : gs_T) (x1 x2 : Int32) (r : (Int32 × gs_T)) (h : mM_fold n G x1 x2 = some r) : zc_i (zF E) (wc_m E G) (wc_m E r.2) yn_X4_fold cn_X4_fold 6 .int { frames := 2, cells := 0, slots := 0, locals := 50 } [.ref (ad_p E 0), .int x1, .int x2] r.1 := by
  unfold mM_fold at h
  refine zc_i_of (by decide) rfl (Nat.le_of_ble_eq_true rfl) (fun X cx cq => ?_)
  refine zz_iload_n cx dn_X4_fold_0 rfl rfl ?_
  refine zz_iconst cx dn_X4_fold_1 (v := (1 : Int32)) (by decide) ?_
  refine zz_icmp_lt cx (tgt := 15) dn_X4_fold_2 (by decide) h (fun h => ?_) (fun h => ?_)
  · exact z_mM_fold_j15 E n G x1 x2 _ X cx cq h
  · refine zz_iload_n cx dn_X4_fold_5 rfl rfl ?_
    refine zz_bipush cx dn_X4_fold_6 (v := (40 : Int32)) (by decide) ?_
    refine zz_icmp_gt cx (tgt := 15) dn_X4_fold_8 (by decide) h (fun h => ?_) (fun h => ?_)
    · exact z_mM_fold_j15 E n G x1 x2 _ X cx cq h
    · refine zz_iconst cx dn_X4_fold_11 (v := (1 : Int32)) (by decide) ?_
      refine zz_goto cx dn_X4_fold_12 (tgt := 16) (by decide) ?_
      exact z_mM_fold_j16 E n G x1 x2 (1 : Int32) _ X cx cq h
set_option maxHeartbeats 4000000 in
set_option maxRecDepth 100000 in
theorem z_mM_folded_j32 (E : ze_T) (G : gs_T) (x1 x2 s0 s1 : Int32) (r : (Int32 × gs_T)) (X : zx_T) (cx : zx (zF E) X cn_X4_folded yn_X4_folded.cls { frames := 1, cells := 0, slots := 0, locals := 23 } 3) (cq : zq_i (zF E) X (wc_m E r.2) .int r.1) (h : mM_folded_j32 G x1 x2 s0 s1 = some r) : zj (zF E) X 0 0 (wc_m E G) 32 [some (.ref (ad_p E 0)), some (.int x1), some (.int x2)] [.int s1, .int s0, .ref (ad_p E 0)] := by
  unfold mM_folded_j32 at h
  refine zz_iconst cx dn_X4_folded_32 (v := (0 : Int32)) (by decide) ?_
  refine gs_bind h (fun q1 e_q1 h => ?_)
  refine zz_callVi cx (As := [.int s0, .int s1, .int (0 : Int32)]) (rest := []) (c2 := 0) (s2 := 0) (z_mM_refuses E G s0 s1 (0 : Int32) _ e_q1) zm_X4_refuses zk_X4_105 zv_X4_refuses 0 rfl rfl (by decide) rfl (Nat.le_of_ble_eq_true rfl) rfl rfl (by decide) (wc_m_addr E _ _) dn_X4_folded_33 ?_
  refine zz_if_eq cx (tgt := 41) dn_X4_folded_36 (by decide) h (fun h => ?_) (fun h => ?_)
  · refine zz_iload_n cx dn_X4_folded_41 rfl rfl ?_
    refine zz_if_ne cx (tgt := 54) dn_X4_folded_42 (by decide) h (fun h => ?_) (fun h => ?_)
    · refine zz_aload_n cx dn_X4_folded_45 rfl rfl ?_
      refine zz_get cx zi_X4 (v := .ref (ad_p E 25)) (ci := 4) rfl 0 36 rfl (by decide) zk_X4_87 rfl dn_X4_folded_46 ?_
      refine zz_iload_n cx dn_X4_folded_49 rfl rfl ?_
      refine zz_iald cx 25 0 rfl rfl h (v := (gs_a q1.2 24 x1)) rfl dn_X4_folded_50 (fun h => ?_)
      refine zz_goto cx dn_X4_folded_51 (tgt := 60) (by decide) ?_
      obtain rfl := Option.some.inj h
      exact zz_iret cx cq (by decide) (by decide) dn_X4_folded_60
    · refine zz_aload_n cx dn_X4_folded_54 rfl rfl ?_
      refine zz_get cx zi_X4 (v := .ref (ad_p E 26)) (ci := 4) rfl 0 37 rfl (by decide) zk_X4_90 rfl dn_X4_folded_55 ?_
      refine zz_iload_n cx dn_X4_folded_58 rfl rfl ?_
      refine zz_iald cx 26 0 rfl rfl h (v := (gs_a q1.2 25 x1)) rfl dn_X4_folded_59 (fun h => ?_)
      obtain rfl := Option.some.inj h
      exact zz_iret cx cq (by decide) (by decide) dn_X4_folded_60
  · refine zz_iconst cx dn_X4_folded_39 (v := (0 : Int32)) (by decide) ?_
    obtain rfl := Option.some.inj h
    exact zz_iret cx cq (by decide) (by decide) dn_X4_folded_40
set_option maxHeartbeats 4000000 in
set_option maxRecDepth 100000 in
theorem z_mM_folded_j27 (E : ze_T) (G : gs_T) (x1 x2 s0 : Int32) (r : (Int32 × gs_T)) (X : zx_T) (cx : zx (zF E) X cn_X4_folded yn_X4_folded.cls { frames := 1, cells := 0, slots := 0, locals := 23 } 3) (cq : zq_i (zF E) X (wc_m E r.2) .int r.1) (h : mM_folded_j27 G x1 x2 s0 = some r) : zj (zF E) X 0 0 (wc_m E G) 27 [some (.ref (ad_p E 0)), some (.int x1), some (.int x2)] [.int s0, .ref (ad_p E 0)] := by
  unfold mM_folded_j27 at h
  refine zz_iconst cx dn_X4_folded_27 (v := (1 : Int32)) (by decide) ?_
  refine zz_goto cx dn_X4_folded_28 (tgt := 32) (by decide) ?_
  exact z_mM_folded_j32 E G x1 x2 s0 (1 : Int32) _ X cx cq h
set_option maxHeartbeats 4000000 in
set_option maxRecDepth 100000 in
theorem z_mM_folded_j18 (E : ze_T) (G : gs_T) (x1 x2 s0 : Int32) (r : (Int32 × gs_T)) (X : zx_T) (cx : zx (zF E) X cn_X4_folded yn_X4_folded.cls { frames := 1, cells := 0, slots := 0, locals := 23 } 3) (cq : zq_i (zF E) X (wc_m E r.2) .int r.1) (h : mM_folded_j18 G x1 x2 s0 = some r) : zj (zF E) X 0 0 (wc_m E G) 18 [some (.ref (ad_p E 0)), some (.int x1), some (.int x2)] [.int s0, .ref (ad_p E 0)] := by
  unfold mM_folded_j18 at h
  refine zz_iload_n cx dn_X4_folded_18 rfl rfl ?_
  refine zz_if_lt cx (tgt := 27) dn_X4_folded_19 (by decide) h (fun h => ?_) (fun h => ?_)
  · exact z_mM_folded_j27 E G x1 x2 s0 _ X cx cq h
  · refine zz_iload_n cx dn_X4_folded_22 rfl rfl ?_
    refine zz_iconst cx dn_X4_folded_23 (v := (1 : Int32)) (by decide) ?_
    refine zz_icmp_le cx (tgt := 31) dn_X4_folded_24 (by decide) h (fun h => ?_) (fun h => ?_)
    · refine zz_iconst cx dn_X4_folded_31 (v := (0 : Int32)) (by decide) ?_
      exact z_mM_folded_j32 E G x1 x2 s0 (0 : Int32) _ X cx cq h
    · exact z_mM_folded_j27 E G x1 x2 s0 _ X cx cq h
set_option maxHeartbeats 4000000 in
set_option maxRecDepth 100000 in
theorem z_mM_folded_j13 (E : ze_T) (G : gs_T) (x1 x2 : Int32) (r : (Int32 × gs_T)) (X : zx_T) (cx : zx (zF E) X cn_X4_folded yn_X4_folded.cls { frames := 1, cells := 0, slots := 0, locals := 23 } 3) (cq : zq_i (zF E) X (wc_m E r.2) .int r.1) (h : mM_folded_j13 G x1 x2 = some r) : zj (zF E) X 0 0 (wc_m E G) 13 [some (.ref (ad_p E 0)), some (.int x1), some (.int x2)] [.ref (ad_p E 0)] := by
  unfold mM_folded_j13 at h
  refine zz_iconst cx dn_X4_folded_13 (v := (1 : Int32)) (by decide) ?_
  refine zz_goto cx dn_X4_folded_14 (tgt := 18) (by decide) ?_
  exact z_mM_folded_j18 E G x1 x2 (1 : Int32) _ X cx cq h
set_option maxHeartbeats 4000000 in
set_option maxRecDepth 100000 in
theorem z_mM_folded (E : ze_T) (G : gs_T) (x1 x2 : Int32) (r : (Int32 × gs_T)) (h : mM_folded G x1 x2 = some r) : zc_i (zF E) (wc_m E G) (wc_m E r.2) yn_X4_folded cn_X4_folded 3 .int { frames := 1, cells := 0, slots := 0, locals := 23 } [.ref (ad_p E 0), .int x1, .int x2] r.1 := by
  unfold mM_folded at h
  refine zc_i_of (by decide) rfl (Nat.le_of_ble_eq_true rfl) (fun X cx cq => ?_)
  refine zz_aload_n cx dn_X4_folded_0 rfl rfl ?_
  refine zz_iload_n cx dn_X4_folded_1 rfl rfl ?_
  refine zz_if_lt cx (tgt := 13) dn_X4_folded_2 (by decide) h (fun h => ?_) (fun h => ?_)
  · exact z_mM_folded_j13 E G x1 x2 _ X cx cq h
  · refine zz_iload_n cx dn_X4_folded_5 rfl rfl ?_
    refine zz_aload_n cx dn_X4_folded_6 rfl rfl ?_
    refine zz_get cx zi_X4 (v := .int (G.1 11)) (ci := 4) rfl 0 35 rfl (by decide) zk_X4_191 rfl dn_X4_folded_7 ?_
    refine zz_icmp_lt cx (tgt := 17) dn_X4_folded_10 (by decide) h (fun h => ?_) (fun h => ?_)
    · refine zz_iconst cx dn_X4_folded_17 (v := (0 : Int32)) (by decide) ?_
      exact z_mM_folded_j18 E G x1 x2 (0 : Int32) _ X cx cq h
    · exact z_mM_folded_j13 E G x1 x2 _ X cx cq h
set_option maxHeartbeats 4000000 in
set_option maxRecDepth 100000 in
theorem z_mM_told_30 (E : ze_T) (n : Nat) (G : gs_T) (x1 : Int32) (K : Int32 → Option (Int32 × gs_T)) (r : (Int32 × gs_T)) (X : zx_T) (cx : zx (zF E) X cn_X4_told yn_X4_told.cls { frames := 1, cells := 0, slots := 0, locals := 23 } 4) (cq : zq_i (zF E) X (wc_m E r.2) .int r.1) (hK : ∀ (y2 : Int32), K y2 = some r → zj (zF E) X 0 0 (wc_m E G) 61 [some (.ref (ad_p E 0)), some (.int x1), some (.int y2), none] []) : ∀ (k : Nat) (x2 : Int32) (x3 : Int32), mM_told_30 n G x1 K k x2 x3 = some r → zj (zF E) X 0 0 (wc_m E G) 30 [some (.ref (ad_p E 0)), some (.int x1), some (.int x2), some (.int x3)] [] := by
  intro k
  induction k with
  | zero => intro x2 x3 h; cases h
  | succ k ih =>
    intro x2 x3 h
    rw [mM_told_30] at h
    refine zz_iload_n cx dn_X4_told_30 rfl rfl ?_
    refine zz_aload_n cx dn_X4_told_31 rfl rfl ?_
    refine zz_get cx zi_X4 (v := .int (G.1 1)) (ci := 4) rfl 0 1 rfl (by decide) zk_X4_102 rfl dn_X4_told_32 ?_
    refine zz_icmp_ge cx (tgt := 61) dn_X4_told_35 (by decide) h (fun h => ?_) (fun h => ?_)
    · refine zz_less (L2 := [some (.ref (ad_p E 0)), some (.int x1), some (.int x2), none]) (⟨rfl, rfl, rfl, trivial⟩) ?_
      exact hK x2 h
    · refine zz_iload_n cx dn_X4_told_38 rfl rfl ?_
      refine zz_aload_n cx dn_X4_told_39 rfl rfl ?_
      refine zz_get cx zi_X4 (v := .ref (ad_p E 10)) (ci := 4) rfl 0 13 rfl (by decide) zk_X4_37 rfl dn_X4_told_40 ?_
      refine zz_iload_n cx dn_X4_told_43 rfl rfl ?_
      refine zz_zald cx 10 1 rfl rfl h (v := (gs_a G 9 x3)) rfl dn_X4_told_44 (fun h => ?_)
      refine zz_if_eq cx (tgt := 52) dn_X4_told_45 (by decide) h (fun h => ?_) (fun h => ?_)
      · refine zz_iconst cx dn_X4_told_52 (v := (0 : Int32)) (by decide) ?_
        refine zz_iadd cx dn_X4_told_53 ?_
        refine zz_istore_n cx dn_X4_told_54 rfl (by decide) rfl ?_
        refine zz_iinc cx dn_X4_told_55 (d := (1 : Int32)) rfl (by decide) (by decide) rfl ?_
        refine zz_goto cx dn_X4_told_58 (tgt := 30) (by decide) ?_
        exact ih (x2 + (0 : Int32)) (x3 + (1 : Int32)) h
      · refine zz_iconst cx dn_X4_told_48 (v := (1 : Int32)) (by decide) ?_
        refine zz_goto cx dn_X4_told_49 (tgt := 53) (by decide) ?_
        refine zz_iadd cx dn_X4_told_53 ?_
        refine zz_istore_n cx dn_X4_told_54 rfl (by decide) rfl ?_
        refine zz_iinc cx dn_X4_told_55 (d := (1 : Int32)) rfl (by decide) (by decide) rfl ?_
        refine zz_goto cx dn_X4_told_58 (tgt := 30) (by decide) ?_
        exact ih (x2 + (1 : Int32)) (x3 + (1 : Int32)) h
set_option maxHeartbeats 4000000 in
set_option maxRecDepth 100000 in
theorem z_mM_told_j16 (E : ze_T) (n : Nat) (G : gs_T) (x1 s0 : Int32) (r : (Int32 × gs_T)) (X : zx_T) (cx : zx (zF E) X cn_X4_told yn_X4_told.cls { frames := 1, cells := 0, slots := 0, locals := 23 } 4) (cq : zq_i (zF E) X (wc_m E r.2) .int r.1) (h : mM_told_j16 n G x1 s0 = some r) : zj (zF E) X 0 0 (wc_m E G) 16 [some (.ref (ad_p E 0)), some (.int x1), none, none] [.int s0, .ref (ad_p E 0)] := by
  unfold mM_told_j16 at h
  refine zz_iconst cx dn_X4_told_16 (v := (0 : Int32)) (by decide) ?_
  refine zz_iconst cx dn_X4_told_17 (v := (0 : Int32)) (by decide) ?_
  refine gs_bind h (fun q1 e_q1 h => ?_)
  refine zz_callVi cx (As := [.int s0, .int (0 : Int32), .int (0 : Int32)]) (rest := []) (c2 := 0) (s2 := 0) (z_mM_refuses E G s0 (0 : Int32) (0 : Int32) _ e_q1) zm_X4_refuses zk_X4_105 zv_X4_refuses 0 rfl rfl (by decide) rfl (Nat.le_of_ble_eq_true rfl) rfl rfl (by decide) (wc_m_addr E _ _) dn_X4_told_18 ?_
  refine zz_if_eq cx (tgt := 26) dn_X4_told_21 (by decide) h (fun h => ?_) (fun h => ?_)
  · refine zz_iconst cx dn_X4_told_26 (v := (0 : Int32)) (by decide) ?_
    refine zz_istore_n cx dn_X4_told_27 rfl (by decide) rfl ?_
    refine zz_iconst cx dn_X4_told_28 (v := (0 : Int32)) (by decide) ?_
    refine zz_istore_n cx dn_X4_told_29 rfl (by decide) rfl ?_
    refine z_mM_told_30 E n q1.2 x1 _ _ X cx cq ?_ n (0 : Int32) (0 : Int32) h
    intro y2_1 h
    refine zz_iload_n cx dn_X4_told_61 rfl rfl ?_
    refine zz_if_ne cx (tgt := 72) dn_X4_told_62 (by decide) h (fun h => ?_) (fun h => ?_)
    · refine zz_aload_n cx dn_X4_told_65 rfl rfl ?_
      refine zz_get cx zi_X4 (v := .int (q1.2.1 1)) (ci := 4) rfl 0 1 rfl (by decide) zk_X4_102 rfl dn_X4_told_66 ?_
      refine zz_goto cx dn_X4_told_69 (tgt := 146) (by decide) ?_
      obtain rfl := Option.some.inj h
      exact zz_iret cx cq (by decide) (by decide) dn_X4_told_146
    · refine zz_iload_n cx dn_X4_told_72 rfl rfl ?_
      refine zz_iconst cx dn_X4_told_73 (v := (1 : Int32)) (by decide) ?_
      refine zz_icmp_ne cx (tgt := 84) dn_X4_told_74 (by decide) h (fun h => ?_) (fun h => ?_)
      · refine zz_aload_n cx dn_X4_told_77 rfl rfl ?_
        refine zz_get cx zi_X4 (v := .int (q1.2.1 2)) (ci := 4) rfl 0 3 rfl (by decide) zk_X4_116 rfl dn_X4_told_78 ?_
        refine zz_goto cx dn_X4_told_81 (tgt := 146) (by decide) ?_
        obtain rfl := Option.some.inj h
        exact zz_iret cx cq (by decide) (by decide) dn_X4_told_146
      · refine zz_iload_n cx dn_X4_told_84 rfl rfl ?_
        refine zz_iconst cx dn_X4_told_85 (v := (2 : Int32)) (by decide) ?_
        refine zz_icmp_ne cx (tgt := 96) dn_X4_told_86 (by decide) h (fun h => ?_) (fun h => ?_)
        · refine zz_aload_n cx dn_X4_told_89 rfl rfl ?_
          refine zz_get cx zi_X4 (v := .int (q1.2.1 3)) (ci := 4) rfl 0 7 rfl (by decide) zk_X4_122 rfl dn_X4_told_90 ?_
          refine zz_goto cx dn_X4_told_93 (tgt := 146) (by decide) ?_
          obtain rfl := Option.some.inj h
          exact zz_iret cx cq (by decide) (by decide) dn_X4_told_146
        · refine zz_iload_n cx dn_X4_told_96 rfl rfl ?_
          refine zz_iconst cx dn_X4_told_97 (v := (3 : Int32)) (by decide) ?_
          refine zz_icmp_ne cx (tgt := 105) dn_X4_told_98 (by decide) h (fun h => ?_) (fun h => ?_)
          · refine zz_iload_n cx dn_X4_told_101 rfl rfl ?_
            refine zz_goto cx dn_X4_told_102 (tgt := 146) (by decide) ?_
            obtain rfl := Option.some.inj h
            exact zz_iret cx cq (by decide) (by decide) dn_X4_told_146
          · refine zz_iload_n cx dn_X4_told_105 rfl rfl ?_
            refine zz_iconst cx dn_X4_told_106 (v := (4 : Int32)) (by decide) ?_
            refine zz_icmp_ne cx (tgt := 117) dn_X4_told_107 (by decide) h (fun h => ?_) (fun h => ?_)
            · refine zz_aload_n cx dn_X4_told_110 rfl rfl ?_
              refine zz_get cx zi_X4 (v := .int (q1.2.1 5)) (ci := 4) rfl 0 18 rfl (by decide) zk_X4_140 rfl dn_X4_told_111 ?_
              refine zz_goto cx dn_X4_told_114 (tgt := 146) (by decide) ?_
              obtain rfl := Option.some.inj h
              exact zz_iret cx cq (by decide) (by decide) dn_X4_told_146
            · refine zz_iload_n cx dn_X4_told_117 rfl rfl ?_
              refine zz_iconst cx dn_X4_told_118 (v := (5 : Int32)) (by decide) ?_
              refine zz_icmp_ne cx (tgt := 129) dn_X4_told_119 (by decide) h (fun h => ?_) (fun h => ?_)
              · refine zz_aload_n cx dn_X4_told_122 rfl rfl ?_
                refine zz_get cx zi_X4 (v := .int (q1.2.1 6)) (ci := 4) rfl 0 24 rfl (by decide) zk_X4_143 rfl dn_X4_told_123 ?_
                refine zz_goto cx dn_X4_told_126 (tgt := 146) (by decide) ?_
                obtain rfl := Option.some.inj h
                exact zz_iret cx cq (by decide) (by decide) dn_X4_told_146
              · refine zz_iload_n cx dn_X4_told_129 rfl rfl ?_
                refine zz_bipush cx dn_X4_told_130 (v := (6 : Int32)) (by decide) ?_
                refine zz_icmp_ne cx (tgt := 142) dn_X4_told_132 (by decide) h (fun h => ?_) (fun h => ?_)
                · refine zz_aload_n cx dn_X4_told_135 rfl rfl ?_
                  refine zz_get cx zi_X4 (v := .int (q1.2.1 11)) (ci := 4) rfl 0 35 rfl (by decide) zk_X4_191 rfl dn_X4_told_136 ?_
                  refine zz_goto cx dn_X4_told_139 (tgt := 146) (by decide) ?_
                  obtain rfl := Option.some.inj h
                  exact zz_iret cx cq (by decide) (by decide) dn_X4_told_146
                · refine zz_aload_n cx dn_X4_told_142 rfl rfl ?_
                  refine zz_get cx zi_X4 (v := .int (q1.2.1 12)) (ci := 4) rfl 0 38 rfl (by decide) zk_X4_194 rfl dn_X4_told_143 ?_
                  obtain rfl := Option.some.inj h
                  exact zz_iret cx cq (by decide) (by decide) dn_X4_told_146
  · refine zz_iconst cx dn_X4_told_24 (v := (0 : Int32)) (by decide) ?_
    obtain rfl := Option.some.inj h
    exact zz_iret cx cq (by decide) (by decide) dn_X4_told_25
set_option maxHeartbeats 4000000 in
set_option maxRecDepth 100000 in
theorem z_mM_told_j11 (E : ze_T) (n : Nat) (G : gs_T) (x1 : Int32) (r : (Int32 × gs_T)) (X : zx_T) (cx : zx (zF E) X cn_X4_told yn_X4_told.cls { frames := 1, cells := 0, slots := 0, locals := 23 } 4) (cq : zq_i (zF E) X (wc_m E r.2) .int r.1) (h : mM_told_j11 n G x1 = some r) : zj (zF E) X 0 0 (wc_m E G) 11 [some (.ref (ad_p E 0)), some (.int x1), none, none] [.ref (ad_p E 0)] := by
  unfold mM_told_j11 at h
  refine zz_iconst cx dn_X4_told_11 (v := (1 : Int32)) (by decide) ?_
  refine zz_goto cx dn_X4_told_12 (tgt := 16) (by decide) ?_
  exact z_mM_told_j16 E n G x1 (1 : Int32) _ X cx cq h
set_option maxHeartbeats 4000000 in
set_option maxRecDepth 100000 in
theorem z_mM_told (E : ze_T) (n : Nat) (G : gs_T) (x1 : Int32) (r : (Int32 × gs_T)) (h : mM_told n G x1 = some r) : zc_i (zF E) (wc_m E G) (wc_m E r.2) yn_X4_told cn_X4_told 4 .int { frames := 1, cells := 0, slots := 0, locals := 23 } [.ref (ad_p E 0), .int x1] r.1 := by
  unfold mM_told at h
  refine zc_i_of (by decide) rfl (Nat.le_of_ble_eq_true rfl) (fun X cx cq => ?_)
  refine zz_aload_n cx dn_X4_told_0 rfl rfl ?_
  refine zz_iload_n cx dn_X4_told_1 rfl rfl ?_
  refine zz_if_lt cx (tgt := 11) dn_X4_told_2 (by decide) h (fun h => ?_) (fun h => ?_)
  · exact z_mM_told_j11 E n G x1 _ X cx cq h
  · refine zz_iload_n cx dn_X4_told_5 rfl rfl ?_
    refine zz_bipush cx dn_X4_told_6 (v := (7 : Int32)) (by decide) ?_
    refine zz_icmp_le cx (tgt := 15) dn_X4_told_8 (by decide) h (fun h => ?_) (fun h => ?_)
    · refine zz_iconst cx dn_X4_told_15 (v := (0 : Int32)) (by decide) ?_
      exact z_mM_told_j16 E n G x1 (0 : Int32) _ X cx cq h
    · exact z_mM_told_j11 E n G x1 _ X cx cq h
