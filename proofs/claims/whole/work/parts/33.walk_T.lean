set_option maxHeartbeats 4000000 in
set_option maxRecDepth 100000 in
theorem z_cT_cell (E : ze_T) (G : gs_T) (x0 x1 : Int32) (r : Int32) (h : cT_cell G x0 x1 = some r) : zc_i (zF E) (wc_c E G) (wc_c E G) yn_X3_cell cn_X3_cell 2 .int { frames := 0, cells := 0, slots := 0, locals := 0 } [.int x0, .int x1] r := by
  unfold cT_cell at h
  refine zc_i_of (by decide) rfl (Nat.le_of_ble_eq_true rfl) (fun X cx cq => ?_)
  refine zz_iload_n cx dn_X3_cell_0 rfl rfl ?_
  refine zz_bipush cx dn_X3_cell_1 (v := (41 : Int32)) (by decide) ?_
  refine zz_imul cx dn_X3_cell_3 ?_
  refine zz_iload_n cx dn_X3_cell_4 rfl rfl ?_
  refine zz_iadd cx dn_X3_cell_5 ?_
  obtain rfl := Option.some.inj h
  exact zz_iret cx cq (by decide) (by decide) dn_X3_cell_6
set_option maxHeartbeats 4000000 in
set_option maxRecDepth 100000 in
theorem z_cT_compareContents_12 (E : ze_T) (n : Nat) (x1 x2 : Int32) (K : gs_T → Option gs_T) (r : gs_T) (X : zx_T) (cx : zx (zF E) X cn_X3_compareContents yn_X3_compareContents.cls { frames := 1, cells := 0, slots := 0, locals := 21 } 5) (cq : zq_v (zF E) X (wc_c E r)) (hK : ∀ (G1 : gs_T), K G1 = some r → zj (zF E) X 0 0 (wc_c E G1) 83 [some (.ref (ad_p E 26)), some (.int x1), some (.int x2), none, none] []) : ∀ (k : Nat) (x3 : Int32) (G : gs_T), cT_compareContents_12 n x1 x2 K k x3 G = some r → zj (zF E) X 0 0 (wc_c E G) 12 [some (.ref (ad_p E 26)), some (.int x1), some (.int x2), some (.int x3), none] [] := by
  intro k
  induction k with
  | zero => intro x3 G h; cases h
  | succ k ih =>
    intro x3 G h
    rw [cT_compareContents_12] at h
    refine zz_iload_n cx dn_X3_compareContents_12 rfl rfl ?_
    refine zz_iload_n cx dn_X3_compareContents_13 rfl rfl ?_
    refine zz_icmp_le cx (tgt := 83) dn_X3_compareContents_14 (by decide) h (fun h => ?_) (fun h => ?_)
    · refine zz_less (L2 := [some (.ref (ad_p E 26)), some (.int x1), some (.int x2), none, none]) (⟨rfl, rfl, rfl, trivial⟩) ?_
      exact hK G h
    · refine zz_iload_n cx dn_X3_compareContents_17 rfl rfl ?_
      refine zz_iconst cx dn_X3_compareContents_18 (v := (1 : Int32)) (by decide) ?_
      refine zz_iadd cx dn_X3_compareContents_19 ?_
      refine zz_iload_n cx dn_X3_compareContents_20 rfl rfl ?_
      refine zz_icmp_ge cx (tgt := 41) dn_X3_compareContents_21 (by decide) h (fun h => ?_) (fun h => ?_)
      · refine zz_iconst cx dn_X3_compareContents_41 (v := (0 : Int32)) (by decide) ?_
        refine zz_istore cx dn_X3_compareContents_42 (by decide) rfl ?_
        refine zz_aload_n cx dn_X3_compareContents_44 rfl rfl ?_
        refine zz_get cx zi_X3 (v := .ref (ad_p E 28)) (ci := 3) rfl 26 1 rfl (by decide) zk_X3_15 rfl dn_X3_compareContents_45 ?_
        refine zz_iload_n cx dn_X3_compareContents_48 rfl rfl ?_
        refine zz_iload_n cx dn_X3_compareContents_49 rfl rfl ?_
        refine gs_bind h (fun q1 e_q1 h => ?_)
        refine zz_callSi cx (As := [.int x2, .int x3]) (rest := [.ref (ad_p E 28)]) (c2 := 0) (s2 := 0) (z_cT_cell E G x2 x3 _ e_q1) zm_X3_cell zk_X3_51 zs_X3_cell (by decide) rfl (Nat.le_of_ble_eq_true rfl) rfl rfl (by decide) (wc_c_addr E _ _) dn_X3_compareContents_50 ?_
        refine zz_aload_n cx dn_X3_compareContents_53 rfl rfl ?_
        refine zz_get cx zi_X3 (v := .ref (ad_p E 27)) (ci := 3) rfl 26 0 rfl (by decide) zk_X3_9 rfl dn_X3_compareContents_54 ?_
        refine zz_iload_n cx dn_X3_compareContents_57 rfl rfl ?_
        refine zz_iald cx 27 0 rfl rfl h (v := (gs_a G 23 x2)) rfl dn_X3_compareContents_58 (fun h => ?_)
        refine zz_aload_n cx dn_X3_compareContents_59 rfl rfl ?_
        refine zz_get cx zi_X3 (v := .ref (ad_p E 27)) (ci := 3) rfl 26 0 rfl (by decide) zk_X3_9 rfl dn_X3_compareContents_60 ?_
        refine zz_iload_n cx dn_X3_compareContents_63 rfl rfl ?_
        refine zz_iald cx 27 0 rfl rfl h (v := (gs_a G 23 x3)) rfl dn_X3_compareContents_64 (fun h => ?_)
        refine zz_icmp_ne cx (tgt := 75) dn_X3_compareContents_65 (by decide) h (fun h => ?_) (fun h => ?_)
        · refine zz_iload cx dn_X3_compareContents_68 rfl ?_
          refine zz_iconst cx dn_X3_compareContents_70 (v := (1 : Int32)) (by decide) ?_
          refine zz_iadd cx dn_X3_compareContents_71 ?_
          refine zz_goto cx dn_X3_compareContents_72 (tgt := 76) (by decide) ?_
          refine zz_iast cx 28 0 rfl rfl h (ws2 := (wc_c E (gs_sa G 24 q1 ((0 : Int32) + (1 : Int32))))) (wc_c_a24 E _ _ _) dn_X3_compareContents_76 (fun h => ?_)
          refine zz_iinc cx dn_X3_compareContents_77 (d := (-1 : Int32)) rfl (by decide) (by decide) rfl ?_
          refine zz_goto cx dn_X3_compareContents_80 (tgt := 12) (by decide) ?_
          refine zz_less (L2 := [some (.ref (ad_p E 26)), some (.int x1), some (.int x2), some (.int (x3 + (-1 : Int32))), none]) (⟨rfl, rfl, rfl, rfl, trivial⟩) ?_
          exact ih (x3 + (-1 : Int32)) (gs_sa G 24 q1 ((0 : Int32) + (1 : Int32))) h
        · refine zz_iconst cx dn_X3_compareContents_75 (v := (0 : Int32)) (by decide) ?_
          refine zz_iast cx 28 0 rfl rfl h (ws2 := (wc_c E (gs_sa G 24 q1 (0 : Int32)))) (wc_c_a24 E _ _ _) dn_X3_compareContents_76 (fun h => ?_)
          refine zz_iinc cx dn_X3_compareContents_77 (d := (-1 : Int32)) rfl (by decide) (by decide) rfl ?_
          refine zz_goto cx dn_X3_compareContents_80 (tgt := 12) (by decide) ?_
          refine zz_less (L2 := [some (.ref (ad_p E 26)), some (.int x1), some (.int x2), some (.int (x3 + (-1 : Int32))), none]) (⟨rfl, rfl, rfl, rfl, trivial⟩) ?_
          exact ih (x3 + (-1 : Int32)) (gs_sa G 24 q1 (0 : Int32)) h
      · refine zz_aload_n cx dn_X3_compareContents_24 rfl rfl ?_
        refine zz_get cx zi_X3 (v := .ref (ad_p E 28)) (ci := 3) rfl 26 1 rfl (by decide) zk_X3_15 rfl dn_X3_compareContents_25 ?_
        refine zz_iload_n cx dn_X3_compareContents_28 rfl rfl ?_
        refine zz_iconst cx dn_X3_compareContents_29 (v := (1 : Int32)) (by decide) ?_
        refine zz_iadd cx dn_X3_compareContents_30 ?_
        refine zz_iload_n cx dn_X3_compareContents_31 rfl rfl ?_
        refine zz_iconst cx dn_X3_compareContents_32 (v := (1 : Int32)) (by decide) ?_
        refine zz_iadd cx dn_X3_compareContents_33 ?_
        refine gs_bind h (fun q2 e_q2 h => ?_)
        refine zz_callSi cx (As := [.int (x2 + (1 : Int32)), .int (x3 + (1 : Int32))]) (rest := [.ref (ad_p E 28)]) (c2 := 0) (s2 := 0) (z_cT_cell E G (x2 + (1 : Int32)) (x3 + (1 : Int32)) _ e_q2) zm_X3_cell zk_X3_51 zs_X3_cell (by decide) rfl (Nat.le_of_ble_eq_true rfl) rfl rfl (by decide) (wc_c_addr E _ _) dn_X3_compareContents_34 ?_
        refine zz_iald cx 28 0 rfl rfl h (v := (gs_a G 24 q2)) rfl dn_X3_compareContents_37 (fun h => ?_)
        refine zz_goto cx dn_X3_compareContents_38 (tgt := 42) (by decide) ?_
        refine zz_istore cx dn_X3_compareContents_42 (by decide) rfl ?_
        refine zz_aload_n cx dn_X3_compareContents_44 rfl rfl ?_
        refine zz_get cx zi_X3 (v := .ref (ad_p E 28)) (ci := 3) rfl 26 1 rfl (by decide) zk_X3_15 rfl dn_X3_compareContents_45 ?_
        refine zz_iload_n cx dn_X3_compareContents_48 rfl rfl ?_
        refine zz_iload_n cx dn_X3_compareContents_49 rfl rfl ?_
        refine gs_bind h (fun q3 e_q3 h => ?_)
        refine zz_callSi cx (As := [.int x2, .int x3]) (rest := [.ref (ad_p E 28)]) (c2 := 0) (s2 := 0) (z_cT_cell E G x2 x3 _ e_q3) zm_X3_cell zk_X3_51 zs_X3_cell (by decide) rfl (Nat.le_of_ble_eq_true rfl) rfl rfl (by decide) (wc_c_addr E _ _) dn_X3_compareContents_50 ?_
        refine zz_aload_n cx dn_X3_compareContents_53 rfl rfl ?_
        refine zz_get cx zi_X3 (v := .ref (ad_p E 27)) (ci := 3) rfl 26 0 rfl (by decide) zk_X3_9 rfl dn_X3_compareContents_54 ?_
        refine zz_iload_n cx dn_X3_compareContents_57 rfl rfl ?_
        refine zz_iald cx 27 0 rfl rfl h (v := (gs_a G 23 x2)) rfl dn_X3_compareContents_58 (fun h => ?_)
        refine zz_aload_n cx dn_X3_compareContents_59 rfl rfl ?_
        refine zz_get cx zi_X3 (v := .ref (ad_p E 27)) (ci := 3) rfl 26 0 rfl (by decide) zk_X3_9 rfl dn_X3_compareContents_60 ?_
        refine zz_iload_n cx dn_X3_compareContents_63 rfl rfl ?_
        refine zz_iald cx 27 0 rfl rfl h (v := (gs_a G 23 x3)) rfl dn_X3_compareContents_64 (fun h => ?_)
        refine zz_icmp_ne cx (tgt := 75) dn_X3_compareContents_65 (by decide) h (fun h => ?_) (fun h => ?_)
        · refine zz_iload cx dn_X3_compareContents_68 rfl ?_
          refine zz_iconst cx dn_X3_compareContents_70 (v := (1 : Int32)) (by decide) ?_
          refine zz_iadd cx dn_X3_compareContents_71 ?_
          refine zz_goto cx dn_X3_compareContents_72 (tgt := 76) (by decide) ?_
          refine zz_iast cx 28 0 rfl rfl h (ws2 := (wc_c E (gs_sa G 24 q3 ((gs_a G 24 q2) + (1 : Int32))))) (wc_c_a24 E _ _ _) dn_X3_compareContents_76 (fun h => ?_)
          refine zz_iinc cx dn_X3_compareContents_77 (d := (-1 : Int32)) rfl (by decide) (by decide) rfl ?_
          refine zz_goto cx dn_X3_compareContents_80 (tgt := 12) (by decide) ?_
          refine zz_less (L2 := [some (.ref (ad_p E 26)), some (.int x1), some (.int x2), some (.int (x3 + (-1 : Int32))), none]) (⟨rfl, rfl, rfl, rfl, trivial⟩) ?_
          exact ih (x3 + (-1 : Int32)) (gs_sa G 24 q3 ((gs_a G 24 q2) + (1 : Int32))) h
        · refine zz_iconst cx dn_X3_compareContents_75 (v := (0 : Int32)) (by decide) ?_
          refine zz_iast cx 28 0 rfl rfl h (ws2 := (wc_c E (gs_sa G 24 q3 (0 : Int32)))) (wc_c_a24 E _ _ _) dn_X3_compareContents_76 (fun h => ?_)
          refine zz_iinc cx dn_X3_compareContents_77 (d := (-1 : Int32)) rfl (by decide) (by decide) rfl ?_
          refine zz_goto cx dn_X3_compareContents_80 (tgt := 12) (by decide) ?_
          refine zz_less (L2 := [some (.ref (ad_p E 26)), some (.int x1), some (.int x2), some (.int (x3 + (-1 : Int32))), none]) (⟨rfl, rfl, rfl, rfl, trivial⟩) ?_
          exact ih (x3 + (-1 : Int32)) (gs_sa G 24 q3 (0 : Int32)) h
set_option maxHeartbeats 4000000 in
set_option maxRecDepth 100000 in
theorem z_cT_compareContents_4 (E : ze_T) (n : Nat) (x1 : Int32) (r : gs_T) (X : zx_T) (cx : zx (zF E) X cn_X3_compareContents yn_X3_compareContents.cls { frames := 1, cells := 0, slots := 0, locals := 21 } 5) (cq : zq_v (zF E) X (wc_c E r)) : ∀ (k : Nat) (x2 : Int32) (G : gs_T), cT_compareContents_4 n x1 k x2 G = some r → zj (zF E) X 0 0 (wc_c E G) 4 [some (.ref (ad_p E 26)), some (.int x1), some (.int x2), none, none] [] := by
  intro k
  induction k with
  | zero => intro x2 G h; cases h
  | succ k ih =>
    intro x2 G h
    rw [cT_compareContents_4] at h
    refine zz_iload_n cx dn_X3_compareContents_4 rfl rfl ?_
    refine zz_if_lt cx (tgt := 89) dn_X3_compareContents_5 (by decide) h (fun h => ?_) (fun h => ?_)
    · obtain rfl := Option.some.inj h
      exact zz_vret cx cq (by decide) (by decide) dn_X3_compareContents_89
    · refine zz_iload_n cx dn_X3_compareContents_8 rfl rfl ?_
      refine zz_iconst cx dn_X3_compareContents_9 (v := (1 : Int32)) (by decide) ?_
      refine zz_isub cx dn_X3_compareContents_10 ?_
      refine zz_istore_n cx dn_X3_compareContents_11 rfl (by decide) rfl ?_
      refine z_cT_compareContents_12 E n x1 x2 _ _ X cx cq ?_ n (x1 - (1 : Int32)) G h
      intro G0 h
      refine zz_iinc cx dn_X3_compareContents_83 (d := (-1 : Int32)) rfl (by decide) (by decide) rfl ?_
      refine zz_goto cx dn_X3_compareContents_86 (tgt := 4) (by decide) ?_
      exact ih (x2 + (-1 : Int32)) G0 h
set_option maxHeartbeats 4000000 in
set_option maxRecDepth 100000 in
theorem z_cT_compareContents (E : ze_T) (n : Nat) (G : gs_T) (x1 : Int32) (r : gs_T) (h : cT_compareContents n G x1 = some r) : zc_v (zF E) (wc_c E G) (wc_c E r) yn_X3_compareContents cn_X3_compareContents 5 { frames := 1, cells := 0, slots := 0, locals := 21 } [.ref (ad_p E 26), .int x1] := by
  unfold cT_compareContents at h
  refine zc_v_of (by decide) rfl (Nat.le_of_ble_eq_true rfl) (fun X cx cq => ?_)
  refine zz_iload_n cx dn_X3_compareContents_0 rfl rfl ?_
  refine zz_iconst cx dn_X3_compareContents_1 (v := (1 : Int32)) (by decide) ?_
  refine zz_isub cx dn_X3_compareContents_2 ?_
  refine zz_istore_n cx dn_X3_compareContents_3 rfl (by decide) rfl ?_
  exact z_cT_compareContents_4 E n x1 _ X cx cq n (x1 - (1 : Int32)) G h
set_option maxHeartbeats 4000000 in
set_option maxRecDepth 100000 in
theorem z_cT_chooseBlock_9 (E : ze_T) (n : Nat) (x1 x2 x3 : Int32) (r : gs_T) (X : zx_T) (cx : zx (zF E) X cn_X3_chooseBlock yn_X3_chooseBlock.cls { frames := 1, cells := 0, slots := 0, locals := 21 } 5) (cq : zq_v (zF E) X (wc_c E r)) : ∀ (k : Nat) (x4 : Int32) (G : gs_T), cT_chooseBlock_9 n x1 x2 x3 k x4 G = some r → zj (zF E) X 0 0 (wc_c E G) 9 [some (.ref (ad_p E 26)), some (.int x1), some (.int x2), some (.int x3), some (.int x4)] [] := by
  intro k
  induction k with
  | zero => intro x4 G h; cases h
  | succ k ih =>
    intro x4 G h
    rw [cT_chooseBlock_9] at h
    refine zz_iconst cx dn_X3_chooseBlock_9 (v := (2 : Int32)) (by decide) ?_
    refine zz_iload cx dn_X3_chooseBlock_10 rfl ?_
    refine zz_imul cx dn_X3_chooseBlock_12 ?_
    refine zz_iload_n cx dn_X3_chooseBlock_13 rfl rfl ?_
    refine zz_icmp_gt cx (tgt := 95) dn_X3_chooseBlock_14 (by decide) h (fun h => ?_) (fun h => ?_)
    · obtain rfl := Option.some.inj h
      exact zz_vret cx cq (by decide) (by decide) dn_X3_chooseBlock_95
    · refine zz_iload_n cx dn_X3_chooseBlock_17 rfl rfl ?_
      refine zz_iload cx dn_X3_chooseBlock_18 rfl ?_
      refine zz_irem cx dn_X3_chooseBlock_20 h (fun h => ?_)
      refine zz_if_ne cx (tgt := 89) dn_X3_chooseBlock_21 (by decide) h (fun h => ?_) (fun h => ?_)
      · refine zz_aload_n cx dn_X3_chooseBlock_24 rfl rfl ?_
        refine zz_get cx zi_X3 (v := .ref (ad_p E 28)) (ci := 3) rfl 26 1 rfl (by decide) zk_X3_15 rfl dn_X3_chooseBlock_25 ?_
        refine zz_iload_n cx dn_X3_chooseBlock_28 rfl rfl ?_
        refine zz_iload_n cx dn_X3_chooseBlock_29 rfl rfl ?_
        refine zz_iload cx dn_X3_chooseBlock_30 rfl ?_
        refine zz_iadd cx dn_X3_chooseBlock_32 ?_
        refine gs_bind h (fun q1 e_q1 h => ?_)
        refine zz_callSi cx (As := [.int x1, .int (x1 + x4)]) (rest := [.ref (ad_p E 28)]) (c2 := 0) (s2 := 0) (z_cT_cell E G x1 (x1 + x4) _ e_q1) zm_X3_cell zk_X3_51 zs_X3_cell (by decide) rfl (Nat.le_of_ble_eq_true rfl) rfl rfl (by decide) (wc_c_addr E _ _) dn_X3_chooseBlock_33 ?_
        refine zz_iald cx 28 0 rfl rfl h (v := (gs_a G 24 q1)) rfl dn_X3_chooseBlock_36 (fun h => ?_)
        refine zz_iload_n cx dn_X3_chooseBlock_37 rfl rfl ?_
        refine zz_iload cx dn_X3_chooseBlock_38 rfl ?_
        refine zz_isub cx dn_X3_chooseBlock_40 ?_
        refine zz_icmp_lt cx (tgt := 89) dn_X3_chooseBlock_41 (by decide) h (fun h => ?_) (fun h => ?_)
        · refine zz_iinc cx dn_X3_chooseBlock_89 (d := (1 : Int32)) rfl (by decide) (by decide) rfl ?_
          refine zz_goto cx dn_X3_chooseBlock_92 (tgt := 9) (by decide) ?_
          exact ih (x4 + (1 : Int32)) G h
        · refine zz_aload_n cx dn_X3_chooseBlock_44 rfl rfl ?_
          refine zz_get cx zi_X3 (v := .ref (ad_p E 29)) (ci := 3) rfl 26 2 rfl (by decide) zk_X3_18 rfl dn_X3_chooseBlock_45 ?_
          refine zz_iload_n cx dn_X3_chooseBlock_48 rfl rfl ?_
          refine zz_iload cx dn_X3_chooseBlock_49 rfl ?_
          refine gs_bind h (fun q2 e_q2 h => ?_)
          refine zz_callSi cx (As := [.int x1, .int x4]) (rest := [.ref (ad_p E 29)]) (c2 := 0) (s2 := 0) (z_cT_cell E G x1 x4 _ e_q2) zm_X3_cell zk_X3_51 zs_X3_cell (by decide) rfl (Nat.le_of_ble_eq_true rfl) rfl rfl (by decide) (wc_c_addr E _ _) dn_X3_chooseBlock_51 ?_
          refine zz_iald cx 29 0 rfl rfl h (v := (gs_a G 25 q2)) rfl dn_X3_chooseBlock_54 (fun h => ?_)
          refine zz_aload_n cx dn_X3_chooseBlock_55 rfl rfl ?_
          refine zz_get cx zi_X3 (v := .ref (ad_p E 29)) (ci := 3) rfl 26 2 rfl (by decide) zk_X3_18 rfl dn_X3_chooseBlock_56 ?_
          refine zz_iload_n cx dn_X3_chooseBlock_59 rfl rfl ?_
          refine zz_iald cx 29 0 rfl rfl h (v := (gs_a G 25 x3)) rfl dn_X3_chooseBlock_60 (fun h => ?_)
          refine zz_icmp_ge cx (tgt := 89) dn_X3_chooseBlock_61 (by decide) h (fun h => ?_) (fun h => ?_)
          · refine zz_iinc cx dn_X3_chooseBlock_89 (d := (1 : Int32)) rfl (by decide) (by decide) rfl ?_
            refine zz_goto cx dn_X3_chooseBlock_92 (tgt := 9) (by decide) ?_
            exact ih (x4 + (1 : Int32)) G h
          · refine zz_aload_n cx dn_X3_chooseBlock_64 rfl rfl ?_
            refine zz_get cx zi_X3 (v := .ref (ad_p E 29)) (ci := 3) rfl 26 2 rfl (by decide) zk_X3_18 rfl dn_X3_chooseBlock_65 ?_
            refine zz_iload_n cx dn_X3_chooseBlock_68 rfl rfl ?_
            refine zz_aload_n cx dn_X3_chooseBlock_69 rfl rfl ?_
            refine zz_get cx zi_X3 (v := .ref (ad_p E 29)) (ci := 3) rfl 26 2 rfl (by decide) zk_X3_18 rfl dn_X3_chooseBlock_70 ?_
            refine zz_iload_n cx dn_X3_chooseBlock_73 rfl rfl ?_
            refine zz_iload cx dn_X3_chooseBlock_74 rfl ?_
            refine gs_bind h (fun q3 e_q3 h => ?_)
            refine zz_callSi cx (As := [.int x1, .int x4]) (rest := [.ref (ad_p E 29), .int x3, .ref (ad_p E 29)]) (c2 := 0) (s2 := 0) (z_cT_cell E G x1 x4 _ e_q3) zm_X3_cell zk_X3_51 zs_X3_cell (by decide) rfl (Nat.le_of_ble_eq_true rfl) rfl rfl (by decide) (wc_c_addr E _ _) dn_X3_chooseBlock_76 ?_
            refine zz_iald cx 29 0 rfl rfl h (v := (gs_a G 25 q3)) rfl dn_X3_chooseBlock_79 (fun h => ?_)
            refine zz_iast cx 29 0 rfl rfl h (ws2 := (wc_c E (gs_sa G 25 x3 (gs_a G 25 q3)))) (wc_c_a25 E _ _ _) dn_X3_chooseBlock_80 (fun h => ?_)
            refine zz_aload_n cx dn_X3_chooseBlock_81 rfl rfl ?_
            refine zz_get cx zi_X3 (v := .ref (ad_p E 30)) (ci := 3) rfl 26 3 rfl (by decide) zk_X3_21 rfl dn_X3_chooseBlock_82 ?_
            refine zz_iload_n cx dn_X3_chooseBlock_85 rfl rfl ?_
            refine zz_iload cx dn_X3_chooseBlock_86 rfl ?_
            refine zz_iast cx 30 0 rfl rfl h (ws2 := (wc_c E (gs_sa (gs_sa G 25 x3 (gs_a G 25 q3)) 26 x3 x4))) (wc_c_a26 E _ _ _) dn_X3_chooseBlock_88 (fun h => ?_)
            refine zz_iinc cx dn_X3_chooseBlock_89 (d := (1 : Int32)) rfl (by decide) (by decide) rfl ?_
            refine zz_goto cx dn_X3_chooseBlock_92 (tgt := 9) (by decide) ?_
            exact ih (x4 + (1 : Int32)) (gs_sa (gs_sa G 25 x3 (gs_a G 25 q3)) 26 x3 x4) h
      · refine zz_iinc cx dn_X3_chooseBlock_89 (d := (1 : Int32)) rfl (by decide) (by decide) rfl ?_
        refine zz_goto cx dn_X3_chooseBlock_92 (tgt := 9) (by decide) ?_
        exact ih (x4 + (1 : Int32)) G h
set_option maxHeartbeats 4000000 in
set_option maxRecDepth 100000 in
theorem z_cT_chooseBlock (E : ze_T) (n : Nat) (G : gs_T) (x1 x2 : Int32) (r : gs_T) (h : cT_chooseBlock n G x1 x2 = some r) : zc_v (zF E) (wc_c E G) (wc_c E r) yn_X3_chooseBlock cn_X3_chooseBlock 5 { frames := 1, cells := 0, slots := 0, locals := 21 } [.ref (ad_p E 26), .int x1, .int x2] := by
  unfold cT_chooseBlock at h
  refine zc_v_of (by decide) rfl (Nat.le_of_ble_eq_true rfl) (fun X cx cq => ?_)
  refine zz_iload_n cx dn_X3_chooseBlock_0 rfl rfl ?_
  refine zz_iload_n cx dn_X3_chooseBlock_1 rfl rfl ?_
  refine gs_bind h (fun q1 e_q1 h => ?_)
  refine zz_callSi cx (As := [.int x1, .int x2]) (rest := []) (c2 := 0) (s2 := 0) (z_cT_cell E G x1 x2 _ e_q1) zm_X3_cell zk_X3_51 zs_X3_cell (by decide) rfl (Nat.le_of_ble_eq_true rfl) rfl rfl (by decide) (wc_c_addr E _ _) dn_X3_chooseBlock_2 ?_
  refine zz_istore_n cx dn_X3_chooseBlock_5 rfl (by decide) rfl ?_
  refine zz_iconst cx dn_X3_chooseBlock_6 (v := (1 : Int32)) (by decide) ?_
  refine zz_istore cx dn_X3_chooseBlock_7 (by decide) rfl ?_
  exact z_cT_chooseBlock_9 E n x1 x2 q1 _ X cx cq n (1 : Int32) G h
set_option maxHeartbeats 4000000 in
set_option maxRecDepth 100000 in
theorem z_cT_chooseParts_17 (E : ze_T) (n : Nat) (x1 x2 x3 : Int32) (r : gs_T) (X : zx_T) (cx : zx (zF E) X cn_X3_chooseParts yn_X3_chooseParts.cls { frames := 1, cells := 0, slots := 0, locals := 21 } 7) (cq : zq_v (zF E) X (wc_c E r)) : ∀ (k : Nat) (x4 : Int32) (x5 : Int32) (G : gs_T), cT_chooseParts_17 n x1 x2 x3 k x4 x5 G = some r → zj (zF E) X 0 0 (wc_c E G) 17 [some (.ref (ad_p E 26)), some (.int x1), some (.int x2), some (.int x3), some (.int x4), some (.int x5), none] [] := by
  intro k
  induction k with
  | zero => intro x4 x5 G h; cases h
  | succ k ih =>
    intro x4 x5 G h
    rw [cT_chooseParts_17] at h
    refine zz_iload cx dn_X3_chooseParts_17 rfl ?_
    refine zz_iload_n cx dn_X3_chooseParts_19 rfl rfl ?_
    refine zz_icmp_ge cx (tgt := 85) dn_X3_chooseParts_20 (by decide) h (fun h => ?_) (fun h => ?_)
    · refine zz_aload_n cx dn_X3_chooseParts_85 rfl rfl ?_
      refine zz_get cx zi_X3 (v := .ref (ad_p E 29)) (ci := 3) rfl 26 2 rfl (by decide) zk_X3_18 rfl dn_X3_chooseParts_86 ?_
      refine zz_iload_n cx dn_X3_chooseParts_89 rfl rfl ?_
      refine zz_iload cx dn_X3_chooseParts_90 rfl ?_
      refine zz_iast cx 29 0 rfl rfl h (ws2 := (wc_c E (gs_sa G 25 x3 x4))) (wc_c_a25 E _ _ _) dn_X3_chooseParts_92 (fun h => ?_)
      obtain rfl := Option.some.inj h
      exact zz_vret cx cq (by decide) (by decide) dn_X3_chooseParts_93
    · refine zz_iload cx dn_X3_chooseParts_23 rfl ?_
      refine zz_iconst cx dn_X3_chooseParts_25 (v := (2 : Int32)) (by decide) ?_
      refine zz_icmp_le cx (tgt := 85) dn_X3_chooseParts_26 (by decide) h (fun h => ?_) (fun h => ?_)
      · refine zz_aload_n cx dn_X3_chooseParts_85 rfl rfl ?_
        refine zz_get cx zi_X3 (v := .ref (ad_p E 29)) (ci := 3) rfl 26 2 rfl (by decide) zk_X3_18 rfl dn_X3_chooseParts_86 ?_
        refine zz_iload_n cx dn_X3_chooseParts_89 rfl rfl ?_
        refine zz_iload cx dn_X3_chooseParts_90 rfl ?_
        refine zz_iast cx 29 0 rfl rfl h (ws2 := (wc_c E (gs_sa G 25 x3 x4))) (wc_c_a25 E _ _ _) dn_X3_chooseParts_92 (fun h => ?_)
        obtain rfl := Option.some.inj h
        exact zz_vret cx cq (by decide) (by decide) dn_X3_chooseParts_93
      · refine zz_aload_n cx dn_X3_chooseParts_29 rfl rfl ?_
        refine zz_get cx zi_X3 (v := .ref (ad_p E 29)) (ci := 3) rfl 26 2 rfl (by decide) zk_X3_18 rfl dn_X3_chooseParts_30 ?_
        refine zz_iload_n cx dn_X3_chooseParts_33 rfl rfl ?_
        refine zz_iload cx dn_X3_chooseParts_34 rfl ?_
        refine gs_bind h (fun q1 e_q1 h => ?_)
        refine zz_callSi cx (As := [.int x1, .int x5]) (rest := [.ref (ad_p E 29)]) (c2 := 0) (s2 := 0) (z_cT_cell E G x1 x5 _ e_q1) zm_X3_cell zk_X3_51 zs_X3_cell (by decide) rfl (Nat.le_of_ble_eq_true rfl) rfl rfl (by decide) (wc_c_addr E _ _) dn_X3_chooseParts_36 ?_
        refine zz_iald cx 29 0 rfl rfl h (v := (gs_a G 25 q1)) rfl dn_X3_chooseParts_39 (fun h => ?_)
        refine zz_aload_n cx dn_X3_chooseParts_40 rfl rfl ?_
        refine zz_get cx zi_X3 (v := .ref (ad_p E 29)) (ci := 3) rfl 26 2 rfl (by decide) zk_X3_18 rfl dn_X3_chooseParts_41 ?_
        refine zz_iload_n cx dn_X3_chooseParts_44 rfl rfl ?_
        refine zz_iload cx dn_X3_chooseParts_45 rfl ?_
        refine zz_iadd cx dn_X3_chooseParts_47 ?_
        refine zz_iload_n cx dn_X3_chooseParts_48 rfl rfl ?_
        refine zz_iload cx dn_X3_chooseParts_49 rfl ?_
        refine zz_isub cx dn_X3_chooseParts_51 ?_
        refine gs_bind h (fun q2 e_q2 h => ?_)
        refine zz_callSi cx (As := [.int (x1 + x5), .int (x2 - x5)]) (rest := [.ref (ad_p E 29), .int (gs_a G 25 q1)]) (c2 := 0) (s2 := 0) (z_cT_cell E G (x1 + x5) (x2 - x5) _ e_q2) zm_X3_cell zk_X3_51 zs_X3_cell (by decide) rfl (Nat.le_of_ble_eq_true rfl) rfl rfl (by decide) (wc_c_addr E _ _) dn_X3_chooseParts_52 ?_
        refine zz_iald cx 29 0 rfl rfl h (v := (gs_a G 25 q2)) rfl dn_X3_chooseParts_55 (fun h => ?_)
        refine zz_iadd cx dn_X3_chooseParts_56 ?_
        refine zz_istore cx dn_X3_chooseParts_57 (by decide) rfl ?_
        refine zz_iload cx dn_X3_chooseParts_59 rfl ?_
        refine zz_iload cx dn_X3_chooseParts_61 rfl ?_
        refine zz_icmp_ge cx (tgt := 79) dn_X3_chooseParts_63 (by decide) h (fun h => ?_) (fun h => ?_)
        · refine zz_iinc cx dn_X3_chooseParts_79 (d := (1 : Int32)) rfl (by decide) (by decide) rfl ?_
          refine zz_goto cx dn_X3_chooseParts_82 (tgt := 17) (by decide) ?_
          refine zz_less (L2 := [some (.ref (ad_p E 26)), some (.int x1), some (.int x2), some (.int x3), some (.int x4), some (.int (x5 + (1 : Int32))), none]) (⟨rfl, rfl, rfl, rfl, rfl, rfl, trivial⟩) ?_
          exact ih x4 (x5 + (1 : Int32)) G h
        · refine zz_iload cx dn_X3_chooseParts_66 rfl ?_
          refine zz_istore cx dn_X3_chooseParts_68 (by decide) rfl ?_
          refine zz_aload_n cx dn_X3_chooseParts_70 rfl rfl ?_
          refine zz_get cx zi_X3 (v := .ref (ad_p E 30)) (ci := 3) rfl 26 3 rfl (by decide) zk_X3_21 rfl dn_X3_chooseParts_71 ?_
          refine zz_iload_n cx dn_X3_chooseParts_74 rfl rfl ?_
          refine zz_iload cx dn_X3_chooseParts_75 rfl ?_
          refine zz_ineg cx dn_X3_chooseParts_77 ?_
          refine zz_iast cx 30 0 rfl rfl h (ws2 := (wc_c E (gs_sa G 26 x3 (-x5)))) (wc_c_a26 E _ _ _) dn_X3_chooseParts_78 (fun h => ?_)
          refine zz_iinc cx dn_X3_chooseParts_79 (d := (1 : Int32)) rfl (by decide) (by decide) rfl ?_
          refine zz_goto cx dn_X3_chooseParts_82 (tgt := 17) (by decide) ?_
          refine zz_less (L2 := [some (.ref (ad_p E 26)), some (.int x1), some (.int x2), some (.int x3), some (.int ((gs_a G 25 q1) + (gs_a G 25 q2))), some (.int (x5 + (1 : Int32))), none]) (⟨rfl, rfl, rfl, rfl, rfl, rfl, trivial⟩) ?_
          exact ih ((gs_a G 25 q1) + (gs_a G 25 q2)) (x5 + (1 : Int32)) (gs_sa G 26 x3 (-x5)) h
set_option maxHeartbeats 4000000 in
set_option maxRecDepth 100000 in
theorem z_cT_chooseParts (E : ze_T) (n : Nat) (G : gs_T) (x1 x2 : Int32) (r : gs_T) (h : cT_chooseParts n G x1 x2 = some r) : zc_v (zF E) (wc_c E G) (wc_c E r) yn_X3_chooseParts cn_X3_chooseParts 7 { frames := 1, cells := 0, slots := 0, locals := 21 } [.ref (ad_p E 26), .int x1, .int x2] := by
  unfold cT_chooseParts at h
  refine zc_v_of (by decide) rfl (Nat.le_of_ble_eq_true rfl) (fun X cx cq => ?_)
  refine zz_iload_n cx dn_X3_chooseParts_0 rfl rfl ?_
  refine zz_iload_n cx dn_X3_chooseParts_1 rfl rfl ?_
  refine gs_bind h (fun q1 e_q1 h => ?_)
  refine zz_callSi cx (As := [.int x1, .int x2]) (rest := []) (c2 := 0) (s2 := 0) (z_cT_cell E G x1 x2 _ e_q1) zm_X3_cell zk_X3_51 zs_X3_cell (by decide) rfl (Nat.le_of_ble_eq_true rfl) rfl rfl (by decide) (wc_c_addr E _ _) dn_X3_chooseParts_2 ?_
  refine zz_istore_n cx dn_X3_chooseParts_5 rfl (by decide) rfl ?_
  refine zz_aload_n cx dn_X3_chooseParts_6 rfl rfl ?_
  refine zz_get cx zi_X3 (v := .ref (ad_p E 29)) (ci := 3) rfl 26 2 rfl (by decide) zk_X3_18 rfl dn_X3_chooseParts_7 ?_
  refine zz_iload_n cx dn_X3_chooseParts_10 rfl rfl ?_
  refine zz_iald cx 29 0 rfl rfl h (v := (gs_a G 25 q1)) rfl dn_X3_chooseParts_11 (fun h => ?_)
  refine zz_istore cx dn_X3_chooseParts_12 (by decide) rfl ?_
  refine zz_iconst cx dn_X3_chooseParts_14 (v := (1 : Int32)) (by decide) ?_
  refine zz_istore cx dn_X3_chooseParts_15 (by decide) rfl ?_
  exact z_cT_chooseParts_17 E n x1 x2 q1 _ X cx cq n (gs_a G 25 q1) (1 : Int32) G h
set_option maxHeartbeats 4000000 in
set_option maxRecDepth 100000 in
theorem z_cT_choose (E : ze_T) (n : Nat) (G : gs_T) (x1 x2 : Int32) (r : gs_T) (h : cT_choose n G x1 x2 = some r) : zc_v (zF E) (wc_c E G) (wc_c E r) yn_X3_choose cn_X3_choose 4 { frames := 2, cells := 0, slots := 0, locals := 47 } [.ref (ad_p E 26), .int x1, .int x2] := by
  unfold cT_choose at h
  refine zc_v_of (by decide) rfl (Nat.le_of_ble_eq_true rfl) (fun X cx cq => ?_)
  refine zz_iload_n cx dn_X3_choose_0 rfl rfl ?_
  refine zz_iload_n cx dn_X3_choose_1 rfl rfl ?_
  refine gs_bind h (fun q1 e_q1 h => ?_)
  refine zz_callSi cx (As := [.int x1, .int x2]) (rest := []) (c2 := 0) (s2 := 0) (z_cT_cell E G x1 x2 _ e_q1) zm_X3_cell zk_X3_51 zs_X3_cell (by decide) rfl (Nat.le_of_ble_eq_true rfl) rfl rfl (by decide) (wc_c_addr E _ _) dn_X3_choose_2 ?_
  refine zz_istore_n cx dn_X3_choose_5 rfl (by decide) rfl ?_
  refine zz_iload_n cx dn_X3_choose_6 rfl rfl ?_
  refine zz_iconst cx dn_X3_choose_7 (v := (1 : Int32)) (by decide) ?_
  refine zz_icmp_ne cx (tgt := 26) dn_X3_choose_8 (by decide) h (fun h => ?_) (fun h => ?_)
  · refine zz_aload_n cx dn_X3_choose_11 rfl rfl ?_
    refine zz_get cx zi_X3 (v := .ref (ad_p E 29)) (ci := 3) rfl 26 2 rfl (by decide) zk_X3_18 rfl dn_X3_choose_12 ?_
    refine zz_iload_n cx dn_X3_choose_15 rfl rfl ?_
    refine zz_iconst cx dn_X3_choose_16 (v := (1 : Int32)) (by decide) ?_
    refine zz_iast cx 29 0 rfl rfl h (ws2 := (wc_c E (gs_sa G 25 q1 (1 : Int32)))) (wc_c_a25 E _ _ _) dn_X3_choose_17 (fun h => ?_)
    refine zz_aload_n cx dn_X3_choose_18 rfl rfl ?_
    refine zz_get cx zi_X3 (v := .ref (ad_p E 30)) (ci := 3) rfl 26 3 rfl (by decide) zk_X3_21 rfl dn_X3_choose_19 ?_
    refine zz_iload_n cx dn_X3_choose_22 rfl rfl ?_
    refine zz_iconst cx dn_X3_choose_23 (v := (0 : Int32)) (by decide) ?_
    refine zz_iast cx 30 0 rfl rfl h (ws2 := (wc_c E (gs_sa (gs_sa G 25 q1 (1 : Int32)) 26 q1 (0 : Int32)))) (wc_c_a26 E _ _ _) dn_X3_choose_24 (fun h => ?_)
    obtain rfl := Option.some.inj h
    exact zz_vret cx cq (by decide) (by decide) dn_X3_choose_25
  · refine zz_aload_n cx dn_X3_choose_26 rfl rfl ?_
    refine zz_get cx zi_X3 (v := .ref (ad_p E 29)) (ci := 3) rfl 26 2 rfl (by decide) zk_X3_18 rfl dn_X3_choose_27 ?_
    refine zz_iload_n cx dn_X3_choose_30 rfl rfl ?_
    refine zz_iload_n cx dn_X3_choose_31 rfl rfl ?_
    refine zz_iconst cx dn_X3_choose_32 (v := (1 : Int32)) (by decide) ?_
    refine zz_iadd cx dn_X3_choose_33 ?_
    refine zz_iast cx 29 0 rfl rfl h (ws2 := (wc_c E (gs_sa G 25 q1 (x2 + (1 : Int32))))) (wc_c_a25 E _ _ _) dn_X3_choose_34 (fun h => ?_)
    refine zz_aload_n cx dn_X3_choose_35 rfl rfl ?_
    refine zz_iload_n cx dn_X3_choose_36 rfl rfl ?_
    refine zz_iload_n cx dn_X3_choose_37 rfl rfl ?_
    refine gs_bind h (fun q2 e_q2 h => ?_)
    refine zz_callVv cx (As := [.int x1, .int x2]) (rest := []) (c2 := 0) (s2 := 0) (z_cT_chooseBlock E n (gs_sa G 25 q1 (x2 + (1 : Int32))) x1 x2 _ e_q2) zm_X3_chooseBlock zk_X3_55 zv_X3_chooseBlock 26 rfl rfl (by decide) rfl (Nat.le_of_ble_eq_true rfl) rfl rfl (by decide) (wc_c_addr E _ _) dn_X3_choose_38 ?_
    refine zz_aload_n cx dn_X3_choose_41 rfl rfl ?_
    refine zz_iload_n cx dn_X3_choose_42 rfl rfl ?_
    refine zz_iload_n cx dn_X3_choose_43 rfl rfl ?_
    refine gs_bind h (fun q3 e_q3 h => ?_)
    refine zz_callVv cx (As := [.int x1, .int x2]) (rest := []) (c2 := 0) (s2 := 0) (z_cT_chooseParts E n q2 x1 x2 _ e_q3) zm_X3_chooseParts zk_X3_58 zv_X3_chooseParts 26 rfl rfl (by decide) rfl (Nat.le_of_ble_eq_true rfl) rfl rfl (by decide) (wc_c_addr E _ _) dn_X3_choose_44 ?_
    obtain rfl := Option.some.inj h
    exact zz_vret cx cq (by decide) (by decide) dn_X3_choose_47
set_option maxHeartbeats 4000000 in
set_option maxRecDepth 100000 in
theorem z_cT_putAside (E : ze_T) (G : gs_T) (x1 x2 : Int32) (r : gs_T) (h : cT_putAside G x1 x2 = some r) : zc_v (zF E) (wc_c E G) (wc_c E r) yn_X3_putAside cn_X3_putAside 3 { frames := 0, cells := 0, slots := 0, locals := 0 } [.ref (ad_p E 26), .int x1, .int x2] := by
  unfold cT_putAside at h
  refine zc_v_of (by decide) rfl (Nat.le_of_ble_eq_true rfl) (fun X cx cq => ?_)
  refine zz_aload_n cx dn_X3_putAside_0 rfl rfl ?_
  refine zz_get cx zi_X3 (v := .int (G.1 10)) (ci := 3) rfl 26 8 rfl (by decide) zk_X3_64 rfl dn_X3_putAside_1 ?_
  refine zz_sipush cx dn_X3_putAside_4 (v := (160 : Int32)) (by decide) ?_
  refine zz_icmp_ge cx (tgt := 40) dn_X3_putAside_7 (by decide) h (fun h => ?_) (fun h => ?_)
  · obtain rfl := Option.some.inj h
    exact zz_vret cx cq (by decide) (by decide) dn_X3_putAside_40
  · refine zz_aload_n cx dn_X3_putAside_10 rfl rfl ?_
    refine zz_get cx zi_X3 (v := .ref (ad_p E 31)) (ci := 3) rfl 26 4 rfl (by decide) zk_X3_24 rfl dn_X3_putAside_11 ?_
    refine zz_aload_n cx dn_X3_putAside_14 rfl rfl ?_
    refine zz_get cx zi_X3 (v := .int (G.1 10)) (ci := 3) rfl 26 8 rfl (by decide) zk_X3_64 rfl dn_X3_putAside_15 ?_
    refine zz_iload_n cx dn_X3_putAside_18 rfl rfl ?_
    refine zz_iast cx 31 0 rfl rfl h (ws2 := (wc_c E (gs_sa G 27 (G.1 10) x1))) (wc_c_a27 E _ _ _) dn_X3_putAside_19 (fun h => ?_)
    refine zz_aload_n cx dn_X3_putAside_20 rfl rfl ?_
    refine zz_get cx zi_X3 (v := .ref (ad_p E 32)) (ci := 3) rfl 26 5 rfl (by decide) zk_X3_27 rfl dn_X3_putAside_21 ?_
    refine zz_aload_n cx dn_X3_putAside_24 rfl rfl ?_
    refine zz_get cx zi_X3 (v := .int (G.1 10)) (ci := 3) rfl 26 8 rfl (by decide) zk_X3_64 rfl dn_X3_putAside_25 ?_
    refine zz_iload_n cx dn_X3_putAside_28 rfl rfl ?_
    refine zz_iast cx 32 0 rfl rfl h (ws2 := (wc_c E (gs_sa (gs_sa G 27 (G.1 10) x1) 28 (G.1 10) x2))) (wc_c_a28 E _ _ _) dn_X3_putAside_29 (fun h => ?_)
    refine zz_aload_n cx dn_X3_putAside_30 rfl rfl ?_
    refine zz_dup cx dn_X3_putAside_31 rfl ?_
    refine zz_get cx zi_X3 (v := .int (G.1 10)) (ci := 3) rfl 26 8 rfl (by decide) zk_X3_64 rfl dn_X3_putAside_32 ?_
    refine zz_iconst cx dn_X3_putAside_35 (v := (1 : Int32)) (by decide) ?_
    refine zz_iadd cx dn_X3_putAside_36 ?_
    refine zz_put cx (ws2 := (wc_c E (gs_sv (gs_sa (gs_sa G 27 (G.1 10) x1) 28 (G.1 10) x2) 10 ((G.1 10) + (1 : Int32))))) (ty := .int) (ci := 3) zi_X3 fk_X3 nm_X3 rfl 26 8 rfl (by decide) zk_X3_64 rfl (by decide +kernel) rfl rfl (Nat.le_of_ble_eq_true rfl) (wc_c_s10 E _ _) dn_X3_putAside_37 ?_
    obtain rfl := Option.some.inj h
    exact zz_vret cx cq (by decide) (by decide) dn_X3_putAside_40
set_option maxHeartbeats 4000000 in
set_option maxRecDepth 100000 in
theorem z_cT_addItem (E : ze_T) (G : gs_T) (x1 x2 : Int32) (r : gs_T) (h : cT_addItem G x1 x2 = some r) : zc_v (zF E) (wc_c E G) (wc_c E r) yn_X3_addItem cn_X3_addItem 3 { frames := 0, cells := 0, slots := 0, locals := 0 } [.ref (ad_p E 26), .int x1, .int x2] := by
  unfold cT_addItem at h
  refine zc_v_of (by decide) rfl (Nat.le_of_ble_eq_true rfl) (fun X cx cq => ?_)
  refine zz_aload_n cx dn_X3_addItem_0 rfl rfl ?_
  refine zz_get cx zi_X3 (v := .int (G.1 11)) (ci := 3) rfl 26 9 rfl (by decide) zk_X3_61 rfl dn_X3_addItem_1 ?_
  refine zz_bipush cx dn_X3_addItem_4 (v := (80 : Int32)) (by decide) ?_
  refine zz_icmp_ge cx (tgt := 39) dn_X3_addItem_6 (by decide) h (fun h => ?_) (fun h => ?_)
  · obtain rfl := Option.some.inj h
    exact zz_vret cx cq (by decide) (by decide) dn_X3_addItem_39
  · refine zz_aload_n cx dn_X3_addItem_9 rfl rfl ?_
    refine zz_get cx zi_X3 (v := .ref (ad_p E 33)) (ci := 3) rfl 26 6 rfl (by decide) zk_X3_30 rfl dn_X3_addItem_10 ?_
    refine zz_aload_n cx dn_X3_addItem_13 rfl rfl ?_
    refine zz_get cx zi_X3 (v := .int (G.1 11)) (ci := 3) rfl 26 9 rfl (by decide) zk_X3_61 rfl dn_X3_addItem_14 ?_
    refine zz_iload_n cx dn_X3_addItem_17 rfl rfl ?_
    refine zz_iast cx 33 0 rfl rfl h (ws2 := (wc_c E (gs_sa G 29 (G.1 11) x1))) (wc_c_a29 E _ _ _) dn_X3_addItem_18 (fun h => ?_)
    refine zz_aload_n cx dn_X3_addItem_19 rfl rfl ?_
    refine zz_get cx zi_X3 (v := .ref (ad_p E 34)) (ci := 3) rfl 26 7 rfl (by decide) zk_X3_33 rfl dn_X3_addItem_20 ?_
    refine zz_aload_n cx dn_X3_addItem_23 rfl rfl ?_
    refine zz_get cx zi_X3 (v := .int (G.1 11)) (ci := 3) rfl 26 9 rfl (by decide) zk_X3_61 rfl dn_X3_addItem_24 ?_
    refine zz_iload_n cx dn_X3_addItem_27 rfl rfl ?_
    refine zz_iast cx 34 0 rfl rfl h (ws2 := (wc_c E (gs_sa (gs_sa G 29 (G.1 11) x1) 30 (G.1 11) x2))) (wc_c_a30 E _ _ _) dn_X3_addItem_28 (fun h => ?_)
    refine zz_aload_n cx dn_X3_addItem_29 rfl rfl ?_
    refine zz_dup cx dn_X3_addItem_30 rfl ?_
    refine zz_get cx zi_X3 (v := .int (G.1 11)) (ci := 3) rfl 26 9 rfl (by decide) zk_X3_61 rfl dn_X3_addItem_31 ?_
    refine zz_iconst cx dn_X3_addItem_34 (v := (1 : Int32)) (by decide) ?_
    refine zz_iadd cx dn_X3_addItem_35 ?_
    refine zz_put cx (ws2 := (wc_c E (gs_sv (gs_sa (gs_sa G 29 (G.1 11) x1) 30 (G.1 11) x2) 11 ((G.1 11) + (1 : Int32))))) (ty := .int) (ci := 3) zi_X3 fk_X3 nm_X3 rfl 26 9 rfl (by decide) zk_X3_61 rfl (by decide +kernel) rfl rfl (Nat.le_of_ble_eq_true rfl) (wc_c_s11 E _ _) dn_X3_addItem_36 ?_
    obtain rfl := Option.some.inj h
    exact zz_vret cx cq (by decide) (by decide) dn_X3_addItem_39
set_option maxHeartbeats 4000000 in
set_option maxRecDepth 100000 in
theorem z_cT_writePart (E : ze_T) (G : gs_T) (x1 x2 : Int32) (r : gs_T) (h : cT_writePart G x1 x2 = some r) : zc_v (zF E) (wc_c E G) (wc_c E r) yn_X3_writePart cn_X3_writePart 4 { frames := 1, cells := 0, slots := 0, locals := 22 } [.ref (ad_p E 26), .int x1, .int x2] := by
  unfold cT_writePart at h
  refine zc_v_of (by decide) rfl (Nat.le_of_ble_eq_true rfl) (fun X cx cq => ?_)
  refine zz_iload_n cx dn_X3_writePart_0 rfl rfl ?_
  refine zz_if_ne cx (tgt := 11) dn_X3_writePart_1 (by decide) h (fun h => ?_) (fun h => ?_)
  · refine zz_aload_n cx dn_X3_writePart_4 rfl rfl ?_
    refine zz_iconst cx dn_X3_writePart_5 (v := (2 : Int32)) (by decide) ?_
    refine zz_iconst cx dn_X3_writePart_6 (v := (0 : Int32)) (by decide) ?_
    refine gs_bind h (fun q8 e_q8 h => ?_)
    refine zz_callVv cx (As := [.int (2 : Int32), .int (0 : Int32)]) (rest := []) (c2 := 0) (s2 := 0) (z_cT_addItem E G (2 : Int32) (0 : Int32) _ e_q8) zm_X3_addItem zk_X3_73 zv_X3_addItem 26 rfl rfl (by decide) rfl (Nat.le_of_ble_eq_true rfl) rfl rfl (by decide) (wc_c_addr E _ _) dn_X3_writePart_7 ?_
    obtain rfl := Option.some.inj h
    exact zz_vret cx cq (by decide) (by decide) dn_X3_writePart_10
  · refine zz_aload_n cx dn_X3_writePart_11 rfl rfl ?_
    refine zz_get cx zi_X3 (v := .ref (ad_p E 30)) (ci := 3) rfl 26 3 rfl (by decide) zk_X3_21 rfl dn_X3_writePart_12 ?_
    refine zz_iload_n cx dn_X3_writePart_15 rfl rfl ?_
    refine zz_iload_n cx dn_X3_writePart_16 rfl rfl ?_
    refine gs_bind h (fun q1 e_q1 h => ?_)
    refine zz_callSi cx (As := [.int x1, .int x2]) (rest := [.ref (ad_p E 30)]) (c2 := 0) (s2 := 0) (z_cT_cell E G x1 x2 _ e_q1) zm_X3_cell zk_X3_51 zs_X3_cell (by decide) rfl (Nat.le_of_ble_eq_true rfl) rfl rfl (by decide) (wc_c_addr E _ _) dn_X3_writePart_17 ?_
    refine zz_iald cx 30 0 rfl rfl h (v := (gs_a G 26 q1)) rfl dn_X3_writePart_20 (fun h => ?_)
    refine zz_istore_n cx dn_X3_writePart_21 rfl (by decide) rfl ?_
    refine zz_iload_n cx dn_X3_writePart_22 rfl rfl ?_
    refine zz_if_le cx (tgt := 49) dn_X3_writePart_23 (by decide) h (fun h => ?_) (fun h => ?_)
    · refine zz_iload_n cx dn_X3_writePart_49 rfl rfl ?_
      refine zz_if_ge cx (tgt := 73) dn_X3_writePart_50 (by decide) h (fun h => ?_) (fun h => ?_)
      · refine zz_aload_n cx dn_X3_writePart_73 rfl rfl ?_
        refine zz_iconst cx dn_X3_writePart_74 (v := (0 : Int32)) (by decide) ?_
        refine zz_aload_n cx dn_X3_writePart_75 rfl rfl ?_
        refine zz_get cx zi_X3 (v := .ref (ad_p E 27)) (ci := 3) rfl 26 0 rfl (by decide) zk_X3_9 rfl dn_X3_writePart_76 ?_
        refine zz_iload_n cx dn_X3_writePart_79 rfl rfl ?_
        refine zz_iald cx 27 0 rfl rfl h (v := (gs_a G 23 x1)) rfl dn_X3_writePart_80 (fun h => ?_)
        refine gs_bind h (fun q2 e_q2 h => ?_)
        refine zz_callVv cx (As := [.int (0 : Int32), .int (gs_a G 23 x1)]) (rest := []) (c2 := 0) (s2 := 0) (z_cT_addItem E G (0 : Int32) (gs_a G 23 x1) _ e_q2) zm_X3_addItem zk_X3_73 zv_X3_addItem 26 rfl rfl (by decide) rfl (Nat.le_of_ble_eq_true rfl) rfl rfl (by decide) (wc_c_addr E _ _) dn_X3_writePart_81 ?_
        refine zz_aload_n cx dn_X3_writePart_84 rfl rfl ?_
        refine zz_dup cx dn_X3_writePart_85 rfl ?_
        refine zz_get cx zi_X3 (v := .int (q2.1 12)) (ci := 3) rfl 26 10 rfl (by decide) zk_X3_47 rfl dn_X3_writePart_86 ?_
        refine zz_iconst cx dn_X3_writePart_89 (v := (1 : Int32)) (by decide) ?_
        refine zz_iadd cx dn_X3_writePart_90 ?_
        refine zz_put cx (ws2 := (wc_c E (gs_sv q2 12 ((q2.1 12) + (1 : Int32))))) (ty := .int) (ci := 3) zi_X3 fk_X3 nm_X3 rfl 26 10 rfl (by decide) zk_X3_47 rfl (by decide +kernel) rfl rfl (Nat.le_of_ble_eq_true rfl) (wc_c_s12 E _ _) dn_X3_writePart_91 ?_
        obtain rfl := Option.some.inj h
        exact zz_vret cx cq (by decide) (by decide) dn_X3_writePart_94
      · refine zz_aload_n cx dn_X3_writePart_53 rfl rfl ?_
        refine zz_iload_n cx dn_X3_writePart_54 rfl rfl ?_
        refine zz_iload_n cx dn_X3_writePart_55 rfl rfl ?_
        refine zz_isub cx dn_X3_writePart_56 ?_
        refine zz_iload_n cx dn_X3_writePart_57 rfl rfl ?_
        refine zz_iload_n cx dn_X3_writePart_58 rfl rfl ?_
        refine zz_iadd cx dn_X3_writePart_59 ?_
        refine gs_bind h (fun q3 e_q3 h => ?_)
        refine zz_callVv cx (As := [.int (x1 - (gs_a G 26 q1)), .int (x2 + (gs_a G 26 q1))]) (rest := []) (c2 := 0) (s2 := 0) (z_cT_putAside E G (x1 - (gs_a G 26 q1)) (x2 + (gs_a G 26 q1)) _ e_q3) zm_X3_putAside zk_X3_67 zv_X3_putAside 26 rfl rfl (by decide) rfl (Nat.le_of_ble_eq_true rfl) rfl rfl (by decide) (wc_c_addr E _ _) dn_X3_writePart_60 ?_
        refine zz_aload_n cx dn_X3_writePart_63 rfl rfl ?_
        refine zz_iload_n cx dn_X3_writePart_64 rfl rfl ?_
        refine zz_iload_n cx dn_X3_writePart_65 rfl rfl ?_
        refine zz_ineg cx dn_X3_writePart_66 ?_
        refine gs_bind h (fun q4 e_q4 h => ?_)
        refine zz_callVv cx (As := [.int x1, .int (-(gs_a G 26 q1))]) (rest := []) (c2 := 0) (s2 := 0) (z_cT_putAside E q3 x1 (-(gs_a G 26 q1)) _ e_q4) zm_X3_putAside zk_X3_67 zv_X3_putAside 26 rfl rfl (by decide) rfl (Nat.le_of_ble_eq_true rfl) rfl rfl (by decide) (wc_c_addr E _ _) dn_X3_writePart_67 ?_
        refine zz_goto cx dn_X3_writePart_70 (tgt := 94) (by decide) ?_
        obtain rfl := Option.some.inj h
        exact zz_vret cx cq (by decide) (by decide) dn_X3_writePart_94
    · refine zz_aload_n cx dn_X3_writePart_26 rfl rfl ?_
      refine zz_iconst cx dn_X3_writePart_27 (v := (1 : Int32)) (by decide) ?_
      refine zz_iload_n cx dn_X3_writePart_28 rfl rfl ?_
      refine zz_iload_n cx dn_X3_writePart_29 rfl rfl ?_
      refine zz_idiv cx dn_X3_writePart_30 h (fun h => ?_)
      refine gs_bind h (fun q5 e_q5 h => ?_)
      refine zz_callVv cx (As := [.int (1 : Int32), .int (x2 / (gs_a G 26 q1))]) (rest := []) (c2 := 0) (s2 := 0) (z_cT_addItem E G (1 : Int32) (x2 / (gs_a G 26 q1)) _ e_q5) zm_X3_addItem zk_X3_73 zv_X3_addItem 26 rfl rfl (by decide) rfl (Nat.le_of_ble_eq_true rfl) rfl rfl (by decide) (wc_c_addr E _ _) dn_X3_writePart_31 ?_
      refine zz_aload_n cx dn_X3_writePart_34 rfl rfl ?_
      refine zz_iload_n cx dn_X3_writePart_35 rfl rfl ?_
      refine zz_iconst cx dn_X3_writePart_36 (v := (0 : Int32)) (by decide) ?_
      refine gs_bind h (fun q6 e_q6 h => ?_)
      refine zz_callVv cx (As := [.int x1, .int (0 : Int32)]) (rest := []) (c2 := 0) (s2 := 0) (z_cT_putAside E q5 x1 (0 : Int32) _ e_q6) zm_X3_putAside zk_X3_67 zv_X3_putAside 26 rfl rfl (by decide) rfl (Nat.le_of_ble_eq_true rfl) rfl rfl (by decide) (wc_c_addr E _ _) dn_X3_writePart_37 ?_
      refine zz_aload_n cx dn_X3_writePart_40 rfl rfl ?_
      refine zz_iload_n cx dn_X3_writePart_41 rfl rfl ?_
      refine zz_iload_n cx dn_X3_writePart_42 rfl rfl ?_
      refine gs_bind h (fun q7 e_q7 h => ?_)
      refine zz_callVv cx (As := [.int x1, .int (gs_a G 26 q1)]) (rest := []) (c2 := 0) (s2 := 0) (z_cT_putAside E q6 x1 (gs_a G 26 q1) _ e_q7) zm_X3_putAside zk_X3_67 zv_X3_putAside 26 rfl rfl (by decide) rfl (Nat.le_of_ble_eq_true rfl) rfl rfl (by decide) (wc_c_addr E _ _) dn_X3_writePart_43 ?_
      refine zz_goto cx dn_X3_writePart_46 (tgt := 94) (by decide) ?_
      obtain rfl := Option.some.inj h
      exact zz_vret cx cq (by decide) (by decide) dn_X3_writePart_94
set_option maxHeartbeats 4000000 in
set_option maxRecDepth 100000 in
theorem z_cT_writeItems_23 (E : ze_T) (n : Nat) (r : gs_T) (X : zx_T) (cx : zx (zF E) X cn_X3_writeItems yn_X3_writeItems.cls { frames := 2, cells := 0, slots := 0, locals := 45 } 3) (cq : zq_v (zF E) X (wc_c E r)) : ∀ (k : Nat) (x2 : Int32) (G : gs_T), cT_writeItems_23 n k x2 G = some r → zj (zF E) X 0 0 (wc_c E G) 23 [some (.ref (ad_p E 26)), none, some (.int x2)] [] := by
  intro k
  induction k with
  | zero => intro x2 G h; cases h
  | succ k ih =>
    intro x2 G h
    rw [cT_writeItems_23] at h
    refine zz_iload_n cx dn_X3_writeItems_23 rfl rfl ?_
    refine zz_sipush cx dn_X3_writeItems_24 (v := (160 : Int32)) (by decide) ?_
    refine zz_icmp_ge cx (tgt := 75) dn_X3_writeItems_27 (by decide) h (fun h => ?_) (fun h => ?_)
    · obtain rfl := Option.some.inj h
      exact zz_vret cx cq (by decide) (by decide) dn_X3_writeItems_75
    · refine zz_aload_n cx dn_X3_writeItems_30 rfl rfl ?_
      refine zz_get cx zi_X3 (v := .int (G.1 10)) (ci := 3) rfl 26 8 rfl (by decide) zk_X3_64 rfl dn_X3_writeItems_31 ?_
      refine zz_if_le cx (tgt := 75) dn_X3_writeItems_34 (by decide) h (fun h => ?_) (fun h => ?_)
      · obtain rfl := Option.some.inj h
        exact zz_vret cx cq (by decide) (by decide) dn_X3_writeItems_75
      · refine zz_aload_n cx dn_X3_writeItems_37 rfl rfl ?_
        refine zz_dup cx dn_X3_writeItems_38 rfl ?_
        refine zz_get cx zi_X3 (v := .int (G.1 10)) (ci := 3) rfl 26 8 rfl (by decide) zk_X3_64 rfl dn_X3_writeItems_39 ?_
        refine zz_iconst cx dn_X3_writeItems_42 (v := (1 : Int32)) (by decide) ?_
        refine zz_isub cx dn_X3_writeItems_43 ?_
        refine zz_put cx (ws2 := (wc_c E (gs_sv G 10 ((G.1 10) - (1 : Int32))))) (ty := .int) (ci := 3) zi_X3 fk_X3 nm_X3 rfl 26 8 rfl (by decide) zk_X3_64 rfl (by decide +kernel) rfl rfl (Nat.le_of_ble_eq_true rfl) (wc_c_s10 E _ _) dn_X3_writeItems_44 ?_
        refine zz_aload_n cx dn_X3_writeItems_47 rfl rfl ?_
        refine zz_aload_n cx dn_X3_writeItems_48 rfl rfl ?_
        refine zz_get cx zi_X3 (v := .ref (ad_p E 31)) (ci := 3) rfl 26 4 rfl (by decide) zk_X3_24 rfl dn_X3_writeItems_49 ?_
        refine zz_aload_n cx dn_X3_writeItems_52 rfl rfl ?_
        refine zz_get cx zi_X3 (v := .int ((G.1 10) - (1 : Int32))) (ci := 3) rfl 26 8 rfl (by decide) zk_X3_64 rfl dn_X3_writeItems_53 ?_
        refine zz_iald cx 31 0 rfl rfl h (v := (gs_a G 27 ((G.1 10) - (1 : Int32)))) rfl dn_X3_writeItems_56 (fun h => ?_)
        refine zz_aload_n cx dn_X3_writeItems_57 rfl rfl ?_
        refine zz_get cx zi_X3 (v := .ref (ad_p E 32)) (ci := 3) rfl 26 5 rfl (by decide) zk_X3_27 rfl dn_X3_writeItems_58 ?_
        refine zz_aload_n cx dn_X3_writeItems_61 rfl rfl ?_
        refine zz_get cx zi_X3 (v := .int ((G.1 10) - (1 : Int32))) (ci := 3) rfl 26 8 rfl (by decide) zk_X3_64 rfl dn_X3_writeItems_62 ?_
        refine zz_iald cx 32 0 rfl rfl h (v := (gs_a G 28 ((G.1 10) - (1 : Int32)))) rfl dn_X3_writeItems_65 (fun h => ?_)
        refine gs_bind h (fun q1 e_q1 h => ?_)
        refine zz_callVv cx (As := [.int (gs_a G 27 ((G.1 10) - (1 : Int32))), .int (gs_a G 28 ((G.1 10) - (1 : Int32)))]) (rest := []) (c2 := 0) (s2 := 0) (z_cT_writePart E (gs_sv G 10 ((G.1 10) - (1 : Int32))) (gs_a G 27 ((G.1 10) - (1 : Int32))) (gs_a G 28 ((G.1 10) - (1 : Int32))) _ e_q1) zm_X3_writePart zk_X3_70 zv_X3_writePart 26 rfl rfl (by decide) rfl (Nat.le_of_ble_eq_true rfl) rfl rfl (by decide) (wc_c_addr E _ _) dn_X3_writeItems_66 ?_
        refine zz_iinc cx dn_X3_writeItems_69 (d := (1 : Int32)) rfl (by decide) (by decide) rfl ?_
        refine zz_goto cx dn_X3_writeItems_72 (tgt := 23) (by decide) ?_
        exact ih (x2 + (1 : Int32)) q1 h
set_option maxHeartbeats 4000000 in
set_option maxRecDepth 100000 in
theorem z_cT_writeItems (E : ze_T) (n : Nat) (G : gs_T) (x1 : Int32) (r : gs_T) (h : cT_writeItems n G x1 = some r) : zc_v (zF E) (wc_c E G) (wc_c E r) yn_X3_writeItems cn_X3_writeItems 3 { frames := 2, cells := 0, slots := 0, locals := 45 } [.ref (ad_p E 26), .int x1] := by
  unfold cT_writeItems at h
  refine zc_v_of (by decide) rfl (Nat.le_of_ble_eq_true rfl) (fun X cx cq => ?_)
  refine zz_aload_n cx dn_X3_writeItems_0 rfl rfl ?_
  refine zz_iconst cx dn_X3_writeItems_1 (v := (0 : Int32)) (by decide) ?_
  refine zz_put cx (ws2 := (wc_c E (gs_sv G 11 (0 : Int32)))) (ty := .int) (ci := 3) zi_X3 fk_X3 nm_X3 rfl 26 9 rfl (by decide) zk_X3_61 rfl (by decide +kernel) rfl rfl (Nat.le_of_ble_eq_true rfl) (wc_c_s11 E _ _) dn_X3_writeItems_2 ?_
  refine zz_aload_n cx dn_X3_writeItems_5 rfl rfl ?_
  refine zz_iconst cx dn_X3_writeItems_6 (v := (0 : Int32)) (by decide) ?_
  refine zz_put cx (ws2 := (wc_c E (gs_sv (gs_sv G 11 (0 : Int32)) 12 (0 : Int32)))) (ty := .int) (ci := 3) zi_X3 fk_X3 nm_X3 rfl 26 10 rfl (by decide) zk_X3_47 rfl (by decide +kernel) rfl rfl (Nat.le_of_ble_eq_true rfl) (wc_c_s12 E _ _) dn_X3_writeItems_7 ?_
  refine zz_aload_n cx dn_X3_writeItems_10 rfl rfl ?_
  refine zz_iconst cx dn_X3_writeItems_11 (v := (0 : Int32)) (by decide) ?_
  refine zz_put cx (ws2 := (wc_c E (gs_sv (gs_sv (gs_sv G 11 (0 : Int32)) 12 (0 : Int32)) 10 (0 : Int32)))) (ty := .int) (ci := 3) zi_X3 fk_X3 nm_X3 rfl 26 8 rfl (by decide) zk_X3_64 rfl (by decide +kernel) rfl rfl (Nat.le_of_ble_eq_true rfl) (wc_c_s10 E _ _) dn_X3_writeItems_12 ?_
  refine zz_aload_n cx dn_X3_writeItems_15 rfl rfl ?_
  refine zz_iconst cx dn_X3_writeItems_16 (v := (0 : Int32)) (by decide) ?_
  refine zz_iload_n cx dn_X3_writeItems_17 rfl rfl ?_
  refine gs_bind h (fun q1 e_q1 h => ?_)
  refine zz_callVv cx (As := [.int (0 : Int32), .int x1]) (rest := []) (c2 := 0) (s2 := 0) (z_cT_putAside E (gs_sv (gs_sv (gs_sv G 11 (0 : Int32)) 12 (0 : Int32)) 10 (0 : Int32)) (0 : Int32) x1 _ e_q1) zm_X3_putAside zk_X3_67 zv_X3_putAside 26 rfl rfl (by decide) rfl (Nat.le_of_ble_eq_true rfl) rfl rfl (by decide) (wc_c_addr E _ _) dn_X3_writeItems_18 ?_
  refine zz_iconst cx dn_X3_writeItems_21 (v := (0 : Int32)) (by decide) ?_
  refine zz_istore_n cx dn_X3_writeItems_22 rfl (by decide) rfl ?_
  refine zz_less (L2 := [some (.ref (ad_p E 26)), none, some (.int (0 : Int32))]) (⟨rfl, rfl, trivial⟩) ?_
  exact z_cT_writeItems_23 E n _ X cx cq n (0 : Int32) q1 h
set_option maxHeartbeats 4000000 in
set_option maxRecDepth 100000 in
theorem z_cT_writeRow_14 (E : ze_T) (n : Nat) (x1 x2 : Int32) (K : gs_T → Option (Int32 × gs_T)) (r : (Int32 × gs_T)) (X : zx_T) (cx : zx (zF E) X cn_X3_writeRow yn_X3_writeRow.cls { frames := 3, cells := 0, slots := 0, locals := 70 } 4) (cq : zq_i (zF E) X (wc_c E r.2) .int r.1) (hK : ∀ (G1 : gs_T), K G1 = some r → zj (zF E) X 0 0 (wc_c E G1) 33 [some (.ref (ad_p E 26)), some (.int x1), some (.int x2), none] []) : ∀ (k : Nat) (x3 : Int32) (G : gs_T), cT_writeRow_14 n x1 x2 K k x3 G = some r → zj (zF E) X 0 0 (wc_c E G) 14 [some (.ref (ad_p E 26)), some (.int x1), some (.int x2), some (.int x3)] [] := by
  intro k
  induction k with
  | zero => intro x3 G h; cases h
  | succ k ih =>
    intro x3 G h
    rw [cT_writeRow_14] at h
    refine zz_iload_n cx dn_X3_writeRow_14 rfl rfl ?_
    refine zz_iload_n cx dn_X3_writeRow_15 rfl rfl ?_
    refine zz_iadd cx dn_X3_writeRow_16 ?_
    refine zz_iload_n cx dn_X3_writeRow_17 rfl rfl ?_
    refine zz_icmp_gt cx (tgt := 33) dn_X3_writeRow_18 (by decide) h (fun h => ?_) (fun h => ?_)
    · refine zz_less (L2 := [some (.ref (ad_p E 26)), some (.int x1), some (.int x2), none]) (⟨rfl, rfl, rfl, trivial⟩) ?_
      exact hK G h
    · refine zz_aload_n cx dn_X3_writeRow_21 rfl rfl ?_
      refine zz_iload_n cx dn_X3_writeRow_22 rfl rfl ?_
      refine zz_iload_n cx dn_X3_writeRow_23 rfl rfl ?_
      refine gs_bind h (fun q1 e_q1 h => ?_)
      refine zz_callVv cx (As := [.int x3, .int x2]) (rest := []) (c2 := 0) (s2 := 0) (z_cT_choose E n G x3 x2 _ e_q1) zm_X3_choose zk_X3_40 zv_X3_choose 26 rfl rfl (by decide) rfl (Nat.le_of_ble_eq_true rfl) rfl rfl (by decide) (wc_c_addr E _ _) dn_X3_writeRow_24 ?_
      refine zz_iinc cx dn_X3_writeRow_27 (d := (1 : Int32)) rfl (by decide) (by decide) rfl ?_
      refine zz_goto cx dn_X3_writeRow_30 (tgt := 14) (by decide) ?_
      exact ih (x3 + (1 : Int32)) q1 h
set_option maxHeartbeats 4000000 in
set_option maxRecDepth 100000 in
theorem z_cT_writeRow_7 (E : ze_T) (n : Nat) (x1 : Int32) (r : (Int32 × gs_T)) (X : zx_T) (cx : zx (zF E) X cn_X3_writeRow yn_X3_writeRow.cls { frames := 3, cells := 0, slots := 0, locals := 70 } 4) (cq : zq_i (zF E) X (wc_c E r.2) .int r.1) : ∀ (k : Nat) (x2 : Int32) (G : gs_T), cT_writeRow_7 n x1 k x2 G = some r → zj (zF E) X 0 0 (wc_c E G) 7 [some (.ref (ad_p E 26)), some (.int x1), some (.int x2), none] [] := by
  intro k
  induction k with
  | zero => intro x2 G h; cases h
  | succ k ih =>
    intro x2 G h
    rw [cT_writeRow_7] at h
    refine zz_iload_n cx dn_X3_writeRow_7 rfl rfl ?_
    refine zz_iload_n cx dn_X3_writeRow_8 rfl rfl ?_
    refine zz_icmp_gt cx (tgt := 39) dn_X3_writeRow_9 (by decide) h (fun h => ?_) (fun h => ?_)
    · refine zz_aload_n cx dn_X3_writeRow_39 rfl rfl ?_
      refine zz_iload_n cx dn_X3_writeRow_40 rfl rfl ?_
      refine gs_bind h (fun q1 e_q1 h => ?_)
      refine zz_callVv cx (As := [.int x1]) (rest := []) (c2 := 0) (s2 := 0) (z_cT_writeItems E n G x1 _ e_q1) zm_X3_writeItems zk_X3_44 zv_X3_writeItems 26 rfl rfl (by decide) rfl (Nat.le_of_ble_eq_true rfl) rfl rfl (by decide) (wc_c_addr E _ _) dn_X3_writeRow_41 ?_
      refine zz_aload_n cx dn_X3_writeRow_44 rfl rfl ?_
      refine zz_get cx zi_X3 (v := .int (q1.1 12)) (ci := 3) rfl 26 10 rfl (by decide) zk_X3_47 rfl dn_X3_writeRow_45 ?_
      obtain rfl := Option.some.inj h
      exact zz_iret cx cq (by decide) (by decide) dn_X3_writeRow_48
    · refine zz_iconst cx dn_X3_writeRow_12 (v := (0 : Int32)) (by decide) ?_
      refine zz_istore_n cx dn_X3_writeRow_13 rfl (by decide) rfl ?_
      refine z_cT_writeRow_14 E n x1 x2 _ _ X cx cq ?_ n (0 : Int32) G h
      intro G1 h
      refine zz_iinc cx dn_X3_writeRow_33 (d := (1 : Int32)) rfl (by decide) (by decide) rfl ?_
      refine zz_goto cx dn_X3_writeRow_36 (tgt := 7) (by decide) ?_
      exact ih (x2 + (1 : Int32)) G1 h
set_option maxHeartbeats 4000000 in
set_option maxRecDepth 100000 in
theorem z_cT_writeRow (E : ze_T) (n : Nat) (G : gs_T) (x1 : Int32) (r : (Int32 × gs_T)) (h : cT_writeRow n G x1 = some r) : zc_i (zF E) (wc_c E G) (wc_c E r.2) yn_X3_writeRow cn_X3_writeRow 4 .int { frames := 3, cells := 0, slots := 0, locals := 70 } [.ref (ad_p E 26), .int x1] r.1 := by
  unfold cT_writeRow at h
  refine zc_i_of (by decide) rfl (Nat.le_of_ble_eq_true rfl) (fun X cx cq => ?_)
  refine zz_aload_n cx dn_X3_writeRow_0 rfl rfl ?_
  refine zz_iload_n cx dn_X3_writeRow_1 rfl rfl ?_
  refine gs_bind h (fun q1 e_q1 h => ?_)
  refine zz_callVv cx (As := [.int x1]) (rest := []) (c2 := 0) (s2 := 0) (z_cT_compareContents E n G x1 _ e_q1) zm_X3_compareContents zk_X3_36 zv_X3_compareContents 26 rfl rfl (by decide) rfl (Nat.le_of_ble_eq_true rfl) rfl rfl (by decide) (wc_c_addr E _ _) dn_X3_writeRow_2 ?_
  refine zz_iconst cx dn_X3_writeRow_5 (v := (1 : Int32)) (by decide) ?_
  refine zz_istore_n cx dn_X3_writeRow_6 rfl (by decide) rfl ?_
  exact z_cT_writeRow_7 E n x1 _ X cx cq n (1 : Int32) q1 h
