set_option maxHeartbeats 4000000 in
set_option maxRecDepth 100000 in
theorem z_cR_bar_r (E : ze_T) (G : gs_T) (x1 : Int32) (rv : Int32) (G1 : gs_T) (h : cR_bar G x1 = some (.inl rv, G1)) : zc_i (zF E) (wc_c E G) (wc_c E G1) yn_X0_bar cn_X0_bar 2 .int { frames := 1, cells := 0, slots := 0, locals := 21 } [.ref (ad_p E 0), .int x1] rv := by
  unfold cR_bar at h
  refine zc_i_of (by decide) rfl (Nat.le_of_ble_eq_true rfl) (fun X cx cq => ?_)
  refine zz_aload_n cx dn_X0_bar_0 rfl rfl ?_
  refine zz_get cx zi_X0 (v := .ref (ad_p E 2)) (ci := 0) rfl 0 1 rfl (by decide) zk_X0_20 rfl dn_X0_bar_1 ?_
  refine zz_getN cx zi_X1 (v := .int (G.1 6)) (ci := 1) rfl 2 15 rfl (by decide) zk_X0_28 rfl dn_X0_bar_4 ?_
  refine zz_bipush cx dn_X0_bar_7 (v := (60 : Int32)) (by decide) ?_
  refine zz_icmp_lt cx (tgt := 22) dn_X0_bar_9 (by decide) h (fun h => ?_) (fun h => ?_)
  · refine zz_aload_n cx dn_X0_bar_22 rfl rfl ?_
    refine zz_get cx zi_X0 (v := .ref (ad_p E 2)) (ci := 0) rfl 0 1 rfl (by decide) zk_X0_20 rfl dn_X0_bar_23 ?_
    refine zz_iload_n cx dn_X0_bar_26 rfl rfl ?_
    refine gs_bind h (fun q1 e_q1 h => ?_)
    refine zz_callVNi cx (As := [.int x1]) (rest := []) (c2 := 0) (s2 := 0) (z_cS_addBar E G x1 _ e_q1) zm_X1_addBar zk_X0_41 zv_X1_addBar 2 rfl rfl (by decide) rfl (Nat.le_of_ble_eq_true rfl) rfl rfl (by decide) (wc_c_addr E _ _) dn_X0_bar_27 ?_
    obtain ⟨e1, e2⟩ := gs_pair h
    cases e1
    subst e2
    exact zz_iret cx cq (by decide) (by decide) dn_X0_bar_30
  · exact absurd (gs_pair h).1 (fun z => nomatch z)
set_option maxHeartbeats 4000000 in
set_option maxRecDepth 100000 in
theorem z_cR_repeat_r (E : ze_T) (n : Nat) (G : gs_T) (x1 x2 x3 : Int32) (rv : Int32) (G1 : gs_T) (h : cR_repeat n G x1 x2 x3 = some (.inl rv, G1)) : zc_i (zF E) (wc_c E G) (wc_c E G1) yn_X0_repeat cn_X0_repeat 4 .int { frames := 4, cells := 0, slots := 0, locals := 93 } [.ref (ad_p E 0), .int x1, .int x2, .int x3] rv := by
  unfold cR_repeat at h
  refine zc_i_of (by decide) rfl (Nat.le_of_ble_eq_true rfl) (fun X cx cq => ?_)
  refine zz_aload_n cx dn_X0_repeat_0 rfl rfl ?_
  refine zz_get cx zi_X0 (v := .ref (ad_p E 2)) (ci := 0) rfl 0 1 rfl (by decide) zk_X0_20 rfl dn_X0_repeat_1 ?_
  refine zz_iload_n cx dn_X0_repeat_4 rfl rfl ?_
  refine gs_bind h (fun q1 e_q1 h => ?_)
  refine zz_callVNi cx (As := [.int x1]) (rest := []) (c2 := 0) (s2 := 0) (z_cS_hasBar E G x1 _ e_q1) zm_X1_hasBar zk_X0_45 zv_X1_hasBar 2 rfl rfl (by decide) rfl (Nat.le_of_ble_eq_true rfl) rfl rfl (by decide) (wc_c_addr E _ _) dn_X0_repeat_5 ?_
  refine zz_if_eq cx (tgt := 22) dn_X0_repeat_8 (by decide) h (fun h => ?_) (fun h => ?_)
  · exact absurd (gs_pair h).1 (fun z => nomatch z)
  · refine zz_aload_n cx dn_X0_repeat_11 rfl rfl ?_
    refine zz_get cx zi_X0 (v := .ref (ad_p E 2)) (ci := 0) rfl 0 1 rfl (by decide) zk_X0_20 rfl dn_X0_repeat_12 ?_
    refine zz_iload_n cx dn_X0_repeat_15 rfl rfl ?_
    refine gs_bind h (fun q2 e_q2 h => ?_)
    refine zz_callVNi cx (As := [.int x2]) (rest := []) (c2 := 0) (s2 := 0) (z_cS_hasBar E G x2 _ e_q2) zm_X1_hasBar zk_X0_45 zv_X1_hasBar 2 rfl rfl (by decide) rfl (Nat.le_of_ble_eq_true rfl) rfl rfl (by decide) (wc_c_addr E _ _) dn_X0_repeat_16 ?_
    refine zz_if_ne cx (tgt := 32) dn_X0_repeat_19 (by decide) h (fun h => ?_) (fun h => ?_)
    · exact absurd (gs_pair h).1 (fun z => nomatch z)
    · refine zz_iload_n cx dn_X0_repeat_32 rfl rfl ?_
      refine zz_iconst cx dn_X0_repeat_33 (v := (2 : Int32)) (by decide) ?_
      refine zz_icmp_lt cx (tgt := 47) dn_X0_repeat_34 (by decide) h (fun h => ?_) (fun h => ?_)
      · exact absurd (gs_pair h).1 (fun z => nomatch z)
      · refine zz_iload_n cx dn_X0_repeat_37 rfl rfl ?_
        refine zz_iconst cx dn_X0_repeat_38 (v := (4 : Int32)) (by decide) ?_
        refine zz_icmp_gt cx (tgt := 47) dn_X0_repeat_39 (by decide) h (fun h => ?_) (fun h => ?_)
        · exact absurd (gs_pair h).1 (fun z => nomatch z)
        · refine zz_iload_n cx dn_X0_repeat_42 rfl rfl ?_
          refine zz_iload_n cx dn_X0_repeat_43 rfl rfl ?_
          refine zz_icmp_ge cx (tgt := 57) dn_X0_repeat_44 (by decide) h (fun h => ?_) (fun h => ?_)
          · refine zz_aload_n cx dn_X0_repeat_57 rfl rfl ?_
            refine zz_get cx zi_X0 (v := .ref (ad_p E 2)) (ci := 0) rfl 0 1 rfl (by decide) zk_X0_20 rfl dn_X0_repeat_58 ?_
            refine zz_iload_n cx dn_X0_repeat_61 rfl rfl ?_
            refine zz_iload_n cx dn_X0_repeat_62 rfl rfl ?_
            refine gs_bind h (fun q3 e_q3 h => ?_)
            refine zz_callVNi cx (As := [.int x1, .int x2]) (rest := []) (c2 := 0) (s2 := 0) (z_cS_takesRepeat E n G x1 x2 _ e_q3) zm_X1_takesRepeat zk_X0_59 zv_X1_takesRepeat 2 rfl rfl (by decide) rfl (Nat.le_of_ble_eq_true rfl) rfl rfl (by decide) (wc_c_addr E _ _) dn_X0_repeat_63 ?_
            refine zz_if_ne cx (tgt := 79) dn_X0_repeat_66 (by decide) h (fun h => ?_) (fun h => ?_)
            · exact absurd (gs_pair h).1 (fun z => nomatch z)
            · refine zz_aload_n cx dn_X0_repeat_79 rfl rfl ?_
              refine zz_get cx zi_X0 (v := .ref (ad_p E 2)) (ci := 0) rfl 0 1 rfl (by decide) zk_X0_20 rfl dn_X0_repeat_80 ?_
              refine zz_iload_n cx dn_X0_repeat_83 rfl rfl ?_
              refine zz_iload_n cx dn_X0_repeat_84 rfl rfl ?_
              refine zz_iload_n cx dn_X0_repeat_85 rfl rfl ?_
              refine gs_bind h (fun q4 e_q4 h => ?_)
              refine zz_callVNi cx (As := [.int x1, .int x2, .int x3]) (rest := []) (c2 := 0) (s2 := 0) (z_cS_addRepeat E n G x1 x2 x3 _ e_q4) zm_X1_addRepeat zk_X0_65 zv_X1_addRepeat 2 rfl rfl (by decide) rfl (Nat.le_of_ble_eq_true rfl) rfl rfl (by decide) (wc_c_addr E _ _) dn_X0_repeat_86 ?_
              obtain ⟨e1, e2⟩ := gs_pair h
              cases e1
              subst e2
              exact zz_iret cx cq (by decide) (by decide) dn_X0_repeat_89
          · exact absurd (gs_pair h).1 (fun z => nomatch z)
set_option maxHeartbeats 4000000 in
set_option maxRecDepth 100000 in
theorem z_cR_ending_r (E : ze_T) (n : Nat) (G : gs_T) (x1 x2 x3 x4 : Int32) (rv : Int32) (G1 : gs_T) (h : cR_ending n G x1 x2 x3 x4 = some (.inl rv, G1)) : zc_i (zF E) (wc_c E G) (wc_c E G1) yn_X0_ending cn_X0_ending 5 .int { frames := 4, cells := 0, slots := 0, locals := 92 } [.ref (ad_p E 0), .int x1, .int x2, .int x3, .int x4] rv := by
  unfold cR_ending at h
  refine zc_i_of (by decide) rfl (Nat.le_of_ble_eq_true rfl) (fun X cx cq => ?_)
  refine zz_aload_n cx dn_X0_ending_0 rfl rfl ?_
  refine zz_get cx zi_X0 (v := .ref (ad_p E 2)) (ci := 0) rfl 0 1 rfl (by decide) zk_X0_20 rfl dn_X0_ending_1 ?_
  refine zz_iload_n cx dn_X0_ending_4 rfl rfl ?_
  refine gs_bind h (fun q1 e_q1 h => ?_)
  refine zz_callVNi cx (As := [.int x1]) (rest := []) (c2 := 0) (s2 := 0) (z_cS_hasRepeat E G x1 _ e_q1) zm_X1_hasRepeat zk_X0_69 zv_X1_hasRepeat 2 rfl rfl (by decide) rfl (Nat.le_of_ble_eq_true rfl) rfl rfl (by decide) (wc_c_addr E _ _) dn_X0_ending_5 ?_
  refine zz_if_eq cx (tgt := 33) dn_X0_ending_8 (by decide) h (fun h => ?_) (fun h => ?_)
  · exact absurd (gs_pair h).1 (fun z => nomatch z)
  · refine zz_aload_n cx dn_X0_ending_11 rfl rfl ?_
    refine zz_get cx zi_X0 (v := .ref (ad_p E 2)) (ci := 0) rfl 0 1 rfl (by decide) zk_X0_20 rfl dn_X0_ending_12 ?_
    refine zz_iload_n cx dn_X0_ending_15 rfl rfl ?_
    refine gs_bind h (fun q2 e_q2 h => ?_)
    refine zz_callVNi cx (As := [.int x2]) (rest := []) (c2 := 0) (s2 := 0) (z_cS_hasBar E G x2 _ e_q2) zm_X1_hasBar zk_X0_45 zv_X1_hasBar 2 rfl rfl (by decide) rfl (Nat.le_of_ble_eq_true rfl) rfl rfl (by decide) (wc_c_addr E _ _) dn_X0_ending_16 ?_
    refine zz_if_eq cx (tgt := 33) dn_X0_ending_19 (by decide) h (fun h => ?_) (fun h => ?_)
    · exact absurd (gs_pair h).1 (fun z => nomatch z)
    · refine zz_aload_n cx dn_X0_ending_22 rfl rfl ?_
      refine zz_get cx zi_X0 (v := .ref (ad_p E 2)) (ci := 0) rfl 0 1 rfl (by decide) zk_X0_20 rfl dn_X0_ending_23 ?_
      refine zz_iload_n cx dn_X0_ending_26 rfl rfl ?_
      refine gs_bind h (fun q3 e_q3 h => ?_)
      refine zz_callVNi cx (As := [.int x3]) (rest := []) (c2 := 0) (s2 := 0) (z_cS_hasBar E G x3 _ e_q3) zm_X1_hasBar zk_X0_45 zv_X1_hasBar 2 rfl rfl (by decide) rfl (Nat.le_of_ble_eq_true rfl) rfl rfl (by decide) (wc_c_addr E _ _) dn_X0_ending_27 ?_
      refine zz_if_ne cx (tgt := 43) dn_X0_ending_30 (by decide) h (fun h => ?_) (fun h => ?_)
      · exact absurd (gs_pair h).1 (fun z => nomatch z)
      · refine zz_iload_n cx dn_X0_ending_43 rfl rfl ?_
        refine zz_iload_n cx dn_X0_ending_44 rfl rfl ?_
        refine zz_icmp_lt cx (tgt := 61) dn_X0_ending_45 (by decide) h (fun h => ?_) (fun h => ?_)
        · exact absurd (gs_pair h).1 (fun z => nomatch z)
        · refine zz_aload_n cx dn_X0_ending_48 rfl rfl ?_
          refine zz_get cx zi_X0 (v := .ref (ad_p E 2)) (ci := 0) rfl 0 1 rfl (by decide) zk_X0_20 rfl dn_X0_ending_49 ?_
          refine zz_iload_n cx dn_X0_ending_52 rfl rfl ?_
          refine zz_iload cx dn_X0_ending_53 rfl ?_
          refine gs_bind h (fun q4 e_q4 h => ?_)
          refine zz_callVNi cx (As := [.int x1, .int x4]) (rest := []) (c2 := 0) (s2 := 0) (z_cS_hasPasses E G x1 x4 _ e_q4) zm_X1_hasPasses zk_X0_74 zv_X1_hasPasses 2 rfl rfl (by decide) rfl (Nat.le_of_ble_eq_true rfl) rfl rfl (by decide) (wc_c_addr E _ _) dn_X0_ending_55 ?_
          refine zz_if_ne cx (tgt := 71) dn_X0_ending_58 (by decide) h (fun h => ?_) (fun h => ?_)
          · exact absurd (gs_pair h).1 (fun z => nomatch z)
          · refine zz_aload_n cx dn_X0_ending_71 rfl rfl ?_
            refine zz_get cx zi_X0 (v := .ref (ad_p E 2)) (ci := 0) rfl 0 1 rfl (by decide) zk_X0_20 rfl dn_X0_ending_72 ?_
            refine zz_iload_n cx dn_X0_ending_75 rfl rfl ?_
            refine zz_iload_n cx dn_X0_ending_76 rfl rfl ?_
            refine zz_iload_n cx dn_X0_ending_77 rfl rfl ?_
            refine gs_bind h (fun q5 e_q5 h => ?_)
            refine zz_callVNi cx (As := [.int x1, .int x2, .int x3]) (rest := []) (c2 := 0) (s2 := 0) (z_cS_takesEnding E n G x1 x2 x3 _ e_q5) zm_X1_takesEnding zk_X0_79 zv_X1_takesEnding 2 rfl rfl (by decide) rfl (Nat.le_of_ble_eq_true rfl) rfl rfl (by decide) (wc_c_addr E _ _) dn_X0_ending_78 ?_
            refine zz_if_ne cx (tgt := 94) dn_X0_ending_81 (by decide) h (fun h => ?_) (fun h => ?_)
            · exact absurd (gs_pair h).1 (fun z => nomatch z)
            · refine zz_aload_n cx dn_X0_ending_94 rfl rfl ?_
              refine zz_get cx zi_X0 (v := .ref (ad_p E 2)) (ci := 0) rfl 0 1 rfl (by decide) zk_X0_20 rfl dn_X0_ending_95 ?_
              refine zz_iload_n cx dn_X0_ending_98 rfl rfl ?_
              refine zz_iload_n cx dn_X0_ending_99 rfl rfl ?_
              refine zz_iload_n cx dn_X0_ending_100 rfl rfl ?_
              refine zz_iload cx dn_X0_ending_101 rfl ?_
              refine gs_bind h (fun q6 e_q6 h => ?_)
              refine zz_callVNi cx (As := [.int x1, .int x2, .int x3, .int x4]) (rest := []) (c2 := 0) (s2 := 0) (z_cS_addEnding E G x1 x2 x3 x4 _ e_q6) zm_X1_addEnding zk_X0_85 zv_X1_addEnding 2 rfl rfl (by decide) rfl (Nat.le_of_ble_eq_true rfl) rfl rfl (by decide) (wc_c_addr E _ _) dn_X0_ending_103 ?_
              obtain ⟨e1, e2⟩ := gs_pair h
              cases e1
              subst e2
              exact zz_iret cx cq (by decide) (by decide) dn_X0_ending_106
set_option maxHeartbeats 4000000 in
set_option maxRecDepth 100000 in
theorem z_cR_sign_r (E : ze_T) (G : gs_T) (x1 x2 : Int32) (rv : Int32) (G1 : gs_T) (h : cR_sign G x1 x2 = some (.inl rv, G1)) : zc_i (zF E) (wc_c E G) (wc_c E G1) yn_X0_sign cn_X0_sign 3 .int { frames := 1, cells := 0, slots := 0, locals := 23 } [.ref (ad_p E 0), .int x1, .int x2] rv := by
  unfold cR_sign at h
  refine zc_i_of (by decide) rfl (Nat.le_of_ble_eq_true rfl) (fun X cx cq => ?_)
  refine zz_iload_n cx dn_X0_sign_0 rfl rfl ?_
  refine zz_if_lt cx (tgt := 9) dn_X0_sign_1 (by decide) h (fun h => ?_) (fun h => ?_)
  · exact absurd (gs_pair h).1 (fun z => nomatch z)
  · refine zz_iload_n cx dn_X0_sign_4 rfl rfl ?_
    refine zz_iconst cx dn_X0_sign_5 (v := (4 : Int32)) (by decide) ?_
    refine zz_icmp_lt cx (tgt := 19) dn_X0_sign_6 (by decide) h (fun h => ?_) (fun h => ?_)
    · refine zz_iload_n cx dn_X0_sign_19 rfl rfl ?_
      refine zz_iconst cx dn_X0_sign_20 (v := (-1 : Int32)) (by decide) ?_
      refine zz_icmp_eq cx (tgt := 45) dn_X0_sign_21 (by decide) h (fun h => ?_) (fun h => ?_)
      · refine zz_aload_n cx dn_X0_sign_45 rfl rfl ?_
        refine zz_get cx zi_X0 (v := .ref (ad_p E 2)) (ci := 0) rfl 0 1 rfl (by decide) zk_X0_20 rfl dn_X0_sign_46 ?_
        refine zz_iload_n cx dn_X0_sign_49 rfl rfl ?_
        refine zz_iload_n cx dn_X0_sign_50 rfl rfl ?_
        refine gs_bind h (fun q1 e_q1 h => ?_)
        refine zz_callVNi cx (As := [.int x1, .int x2]) (rest := []) (c2 := 0) (s2 := 0) (z_cS_moveSign E G x1 x2 _ e_q1) zm_X1_moveSign zk_X0_91 zv_X1_moveSign 2 rfl rfl (by decide) rfl (Nat.le_of_ble_eq_true rfl) rfl rfl (by decide) (wc_c_addr E _ _) dn_X0_sign_51 ?_
        obtain ⟨e1, e2⟩ := gs_pair h
        cases e1
        subst e2
        exact zz_iret cx cq (by decide) (by decide) dn_X0_sign_54
      · refine zz_aload_n cx dn_X0_sign_24 rfl rfl ?_
        refine zz_get cx zi_X0 (v := .ref (ad_p E 2)) (ci := 0) rfl 0 1 rfl (by decide) zk_X0_20 rfl dn_X0_sign_25 ?_
        refine zz_iload_n cx dn_X0_sign_28 rfl rfl ?_
        refine gs_bind h (fun q2 e_q2 h => ?_)
        refine zz_callVNi cx (As := [.int x2]) (rest := []) (c2 := 0) (s2 := 0) (z_cS_hasBar E G x2 _ e_q2) zm_X1_hasBar zk_X0_45 zv_X1_hasBar 2 rfl rfl (by decide) rfl (Nat.le_of_ble_eq_true rfl) rfl rfl (by decide) (wc_c_addr E _ _) dn_X0_sign_29 ?_
        refine zz_if_ne cx (tgt := 45) dn_X0_sign_32 (by decide) h (fun h => ?_) (fun h => ?_)
        · exact absurd (gs_pair h).1 (fun z => nomatch z)
        · refine zz_aload_n cx dn_X0_sign_45 rfl rfl ?_
          refine zz_get cx zi_X0 (v := .ref (ad_p E 2)) (ci := 0) rfl 0 1 rfl (by decide) zk_X0_20 rfl dn_X0_sign_46 ?_
          refine zz_iload_n cx dn_X0_sign_49 rfl rfl ?_
          refine zz_iload_n cx dn_X0_sign_50 rfl rfl ?_
          refine gs_bind h (fun q3 e_q3 h => ?_)
          refine zz_callVNi cx (As := [.int x1, .int x2]) (rest := []) (c2 := 0) (s2 := 0) (z_cS_moveSign E G x1 x2 _ e_q3) zm_X1_moveSign zk_X0_91 zv_X1_moveSign 2 rfl rfl (by decide) rfl (Nat.le_of_ble_eq_true rfl) rfl rfl (by decide) (wc_c_addr E _ _) dn_X0_sign_51 ?_
          obtain ⟨e1, e2⟩ := gs_pair h
          cases e1
          subst e2
          exact zz_iret cx cq (by decide) (by decide) dn_X0_sign_54
    · exact absurd (gs_pair h).1 (fun z => nomatch z)
set_option maxHeartbeats 4000000 in
set_option maxRecDepth 100000 in
theorem z_cR_jump_r (E : ze_T) (G : gs_T) (x1 x2 x3 x4 : Int32) (G1 : gs_T) (h : cR_jump G x1 x2 x3 x4 = some (.inl (), G1)) : zc_v (zF E) (wc_c E G) (wc_c E G1) yn_X0_jump cn_X0_jump 5 { frames := 2, cells := 0, slots := 0, locals := 45 } [.ref (ad_p E 0), .int x1, .int x2, .int x3, .int x4] := by
  unfold cR_jump at h
  refine zc_v_of (by decide) rfl (Nat.le_of_ble_eq_true rfl) (fun X cx cq => ?_)
  refine zz_aload_n cx dn_X0_jump_0 rfl rfl ?_
  refine zz_get cx zi_X0 (v := .ref (ad_p E 2)) (ci := 0) rfl 0 1 rfl (by decide) zk_X0_20 rfl dn_X0_jump_1 ?_
  refine zz_iload_n cx dn_X0_jump_4 rfl rfl ?_
  refine gs_bind h (fun q1 e_q1 h => ?_)
  refine zz_callVNi cx (As := [.int x1]) (rest := []) (c2 := 0) (s2 := 0) (z_cS_hasBar E G x1 _ e_q1) zm_X1_hasBar zk_X0_45 zv_X1_hasBar 2 rfl rfl (by decide) rfl (Nat.le_of_ble_eq_true rfl) rfl rfl (by decide) (wc_c_addr E _ _) dn_X0_jump_5 ?_
  refine zz_if_ne cx (tgt := 21) dn_X0_jump_8 (by decide) h (fun h => ?_) (fun h => ?_)
  · exact absurd (gs_pair h).1 (fun z => nomatch z)
  · refine zz_iload_n cx dn_X0_jump_21 rfl rfl ?_
    refine zz_if_lt cx (tgt := 39) dn_X0_jump_22 (by decide) h (fun h => ?_) (fun h => ?_)
    · exact absurd (gs_pair h).1 (fun z => nomatch z)
    · refine zz_iload_n cx dn_X0_jump_25 rfl rfl ?_
      refine zz_iconst cx dn_X0_jump_26 (v := (1 : Int32)) (by decide) ?_
      refine zz_icmp_gt cx (tgt := 39) dn_X0_jump_27 (by decide) h (fun h => ?_) (fun h => ?_)
      · exact absurd (gs_pair h).1 (fun z => nomatch z)
      · refine zz_iload_n cx dn_X0_jump_30 rfl rfl ?_
        refine zz_if_lt cx (tgt := 39) dn_X0_jump_31 (by decide) h (fun h => ?_) (fun h => ?_)
        · exact absurd (gs_pair h).1 (fun z => nomatch z)
        · refine zz_iload_n cx dn_X0_jump_34 rfl rfl ?_
          refine zz_iconst cx dn_X0_jump_35 (v := (2 : Int32)) (by decide) ?_
          refine zz_icmp_le cx (tgt := 49) dn_X0_jump_36 (by decide) h (fun h => ?_) (fun h => ?_)
          · refine zz_aload_n cx dn_X0_jump_49 rfl rfl ?_
            refine zz_get cx zi_X0 (v := .ref (ad_p E 2)) (ci := 0) rfl 0 1 rfl (by decide) zk_X0_20 rfl dn_X0_jump_50 ?_
            refine zz_iload_n cx dn_X0_jump_53 rfl rfl ?_
            refine zz_iload_n cx dn_X0_jump_54 rfl rfl ?_
            refine zz_iload_n cx dn_X0_jump_55 rfl rfl ?_
            refine zz_iload cx dn_X0_jump_56 rfl ?_
            refine gs_bind h (fun q2 e_q2 h => ?_)
            refine zz_callVNv cx (As := [.int x1, .int x2, .int x3, .int x4]) (rest := []) (c2 := 0) (s2 := 0) (z_cS_putJump E G x1 x2 x3 x4 _ e_q2) zm_X1_putJump zk_X0_97 zv_X1_putJump 2 rfl rfl (by decide) rfl (Nat.le_of_ble_eq_true rfl) rfl rfl (by decide) (wc_c_addr E _ _) dn_X0_jump_58 ?_
            obtain ⟨e1, e2⟩ := gs_pair h
            cases e1
            subst e2
            exact zz_vret cx cq (by decide) (by decide) dn_X0_jump_61
          · exact absurd (gs_pair h).1 (fun z => nomatch z)
set_option maxHeartbeats 4000000 in
set_option maxRecDepth 100000 in
theorem z_cR_plain_r (E : ze_T) (G : gs_T) (x1 : Int32) (G1 : gs_T) (h : cR_plain G x1 = some (.inl (), G1)) : zc_v (zF E) (wc_c E G) (wc_c E G1) yn_X0_plain cn_X0_plain 2 { frames := 1, cells := 0, slots := 0, locals := 21 } [.ref (ad_p E 0), .int x1] := by
  unfold cR_plain at h
  refine zc_v_of (by decide) rfl (Nat.le_of_ble_eq_true rfl) (fun X cx cq => ?_)
  refine zz_aload_n cx dn_X0_plain_0 rfl rfl ?_
  refine zz_get cx zi_X0 (v := .ref (ad_p E 2)) (ci := 0) rfl 0 1 rfl (by decide) zk_X0_20 rfl dn_X0_plain_1 ?_
  refine zz_iload_n cx dn_X0_plain_4 rfl rfl ?_
  refine gs_bind h (fun q1 e_q1 h => ?_)
  refine zz_callVNi cx (As := [.int x1]) (rest := []) (c2 := 0) (s2 := 0) (z_cS_hasBar E G x1 _ e_q1) zm_X1_hasBar zk_X0_45 zv_X1_hasBar 2 rfl rfl (by decide) rfl (Nat.le_of_ble_eq_true rfl) rfl rfl (by decide) (wc_c_addr E _ _) dn_X0_plain_5 ?_
  refine zz_if_ne cx (tgt := 21) dn_X0_plain_8 (by decide) h (fun h => ?_) (fun h => ?_)
  · exact absurd (gs_pair h).1 (fun z => nomatch z)
  · refine zz_aload_n cx dn_X0_plain_21 rfl rfl ?_
    refine zz_get cx zi_X0 (v := .ref (ad_p E 2)) (ci := 0) rfl 0 1 rfl (by decide) zk_X0_20 rfl dn_X0_plain_22 ?_
    refine zz_iload_n cx dn_X0_plain_25 rfl rfl ?_
    refine gs_bind h (fun q2 e_q2 h => ?_)
    refine zz_callVNi cx (As := [.int x1]) (rest := []) (c2 := 0) (s2 := 0) (z_cS_hasJump E G x1 _ e_q2) zm_X1_hasJump zk_X0_101 zv_X1_hasJump 2 rfl rfl (by decide) rfl (Nat.le_of_ble_eq_true rfl) rfl rfl (by decide) (wc_c_addr E _ _) dn_X0_plain_26 ?_
    refine zz_if_ne cx (tgt := 42) dn_X0_plain_29 (by decide) h (fun h => ?_) (fun h => ?_)
    · exact absurd (gs_pair h).1 (fun z => nomatch z)
    · refine zz_aload_n cx dn_X0_plain_42 rfl rfl ?_
      refine zz_get cx zi_X0 (v := .ref (ad_p E 2)) (ci := 0) rfl 0 1 rfl (by decide) zk_X0_20 rfl dn_X0_plain_43 ?_
      refine zz_iload_n cx dn_X0_plain_46 rfl rfl ?_
      refine gs_bind h (fun q3 e_q3 h => ?_)
      refine zz_callVNv cx (As := [.int x1]) (rest := []) (c2 := 0) (s2 := 0) (z_cS_takeJump E G x1 _ e_q3) zm_X1_takeJump zk_X0_106 zv_X1_takeJump 2 rfl rfl (by decide) rfl (Nat.le_of_ble_eq_true rfl) rfl rfl (by decide) (wc_c_addr E _ _) dn_X0_plain_47 ?_
      obtain ⟨e1, e2⟩ := gs_pair h
      cases e1
      subst e2
      exact zz_vret cx cq (by decide) (by decide) dn_X0_plain_50
set_option maxHeartbeats 4000000 in
set_option maxRecDepth 100000 in
theorem z_cR_unfold (E : ze_T) (n : Nat) (G : gs_T) (r : (Int32 × gs_T)) (h : cR_unfold n G = some r) : zc_i (zF E) (wc_c E G) (wc_c E r.2) yn_X0_unfold cn_X0_unfold 1 .int { frames := 7, cells := 0, slots := 0, locals := 149 } [.ref (ad_p E 0)] r.1 := by
  unfold cR_unfold at h
  refine zc_i_of (by decide) rfl (Nat.le_of_ble_eq_true rfl) (fun X cx cq => ?_)
  refine zz_aload_n cx dn_X0_unfold_0 rfl rfl ?_
  refine zz_get cx zi_X0 (v := .ref (ad_p E 1)) (ci := 0) rfl 0 0 rfl (by decide) zk_X0_10 rfl dn_X0_unfold_1 ?_
  refine gs_bind h (fun q1 e_q1 h => ?_)
  refine zz_callVNi cx (As := []) (rest := []) (c2 := 0) (s2 := 0) (z_cW_go E n G _ e_q1) zm_X2_go zk_X0_110 zv_X2_go 1 rfl rfl (by decide) rfl (Nat.le_of_ble_eq_true rfl) rfl rfl (by decide) (wc_c_addr E _ _) dn_X0_unfold_4 ?_
  obtain rfl := Option.some.inj h
  exact zz_iret cx cq (by decide) (by decide) dn_X0_unfold_7
set_option maxHeartbeats 4000000 in
set_option maxRecDepth 100000 in
theorem z_cR_fault (E : ze_T) (G : gs_T) (r : Int32) (h : cR_fault G = some r) : zc_i (zF E) (wc_c E G) (wc_c E G) yn_X0_fault cn_X0_fault 1 .int { frames := 0, cells := 0, slots := 0, locals := 0 } [.ref (ad_p E 0)] r := by
  unfold cR_fault at h
  refine zc_i_of (by decide) rfl (Nat.le_of_ble_eq_true rfl) (fun X cx cq => ?_)
  refine zz_aload_n cx dn_X0_fault_0 rfl rfl ?_
  refine zz_get cx zi_X0 (v := .ref (ad_p E 1)) (ci := 0) rfl 0 0 rfl (by decide) zk_X0_10 rfl dn_X0_fault_1 ?_
  refine zz_getN cx zi_X2 (v := .int (G.1 5)) (ci := 2) rfl 1 14 rfl (by decide) zk_X0_114 rfl dn_X0_fault_4 ?_
  obtain rfl := Option.some.inj h
  exact zz_iret cx cq (by decide) (by decide) dn_X0_fault_7
set_option maxHeartbeats 4000000 in
set_option maxRecDepth 100000 in
theorem z_cR_played_r (E : ze_T) (G : gs_T) (x1 x2 : Int32) (rv : Int32) (G1 : gs_T) (h : cR_played G x1 x2 = some (.inl rv, G1)) : zc_i (zF E) (wc_c E G) (wc_c E G1) yn_X0_played cn_X0_played 3 .int { frames := 0, cells := 0, slots := 0, locals := 0 } [.ref (ad_p E 0), .int x1, .int x2] rv := by
  unfold cR_played at h
  refine zc_i_of (by decide) rfl (Nat.le_of_ble_eq_true rfl) (fun X cx cq => ?_)
  refine zz_iload_n cx dn_X0_played_0 rfl rfl ?_
  refine zz_if_lt cx (tgt := 15) dn_X0_played_1 (by decide) h (fun h => ?_) (fun h => ?_)
  · exact absurd (gs_pair h).1 (fun z => nomatch z)
  · refine zz_iload_n cx dn_X0_played_4 rfl rfl ?_
    refine zz_aload_n cx dn_X0_played_5 rfl rfl ?_
    refine zz_get cx zi_X0 (v := .ref (ad_p E 1)) (ci := 0) rfl 0 0 rfl (by decide) zk_X0_10 rfl dn_X0_played_6 ?_
    refine zz_getN cx zi_X2 (v := .int (G.1 0)) (ci := 2) rfl 1 9 rfl (by decide) zk_X0_117 rfl dn_X0_played_9 ?_
    refine zz_icmp_lt cx (tgt := 25) dn_X0_played_12 (by decide) h (fun h => ?_) (fun h => ?_)
    · refine zz_iload_n cx dn_X0_played_25 rfl rfl ?_
      refine gs_if h (fun hc_0 h => ?_) (fun hc_0 h => ?_)
      · refine zz_swin cx dn_X0_played_26 hc_0 (by decide) (by decide) (off := 34) (tgt := 60) (by decide) (by decide) ?_
        refine zz_aload_n cx dn_X0_played_60 rfl rfl ?_
        refine zz_get cx zi_X0 (v := .ref (ad_p E 1)) (ci := 0) rfl 0 0 rfl (by decide) zk_X0_10 rfl dn_X0_played_61 ?_
        refine zz_getN cx zi_X2 (v := .ref (ad_p E 18)) (ci := 2) rfl 1 1 rfl (by decide) zk_X0_122 rfl dn_X0_played_64 ?_
        refine zz_iload_n cx dn_X0_played_67 rfl rfl ?_
        refine zz_iald cx 18 0 rfl rfl h (v := (gs_a G 15 x1)) rfl dn_X0_played_68 (fun h => ?_)
        obtain ⟨e1, e2⟩ := gs_pair h
        cases e1
        subst e2
        exact zz_iret cx cq (by decide) (by decide) dn_X0_played_69
      refine gs_if h (fun hc_1 h => ?_) (fun hc_1 h => ?_)
      · refine zz_swin cx dn_X0_played_26 hc_1 (by decide) (by decide) (off := 44) (tgt := 70) (by decide) (by decide) ?_
        refine zz_aload_n cx dn_X0_played_70 rfl rfl ?_
        refine zz_get cx zi_X0 (v := .ref (ad_p E 2)) (ci := 0) rfl 0 1 rfl (by decide) zk_X0_20 rfl dn_X0_played_71 ?_
        refine zz_getN cx zi_X1 (v := .ref (ad_p E 3)) (ci := 1) rfl 2 0 rfl (by decide) zk_X0_126 rfl dn_X0_played_74 ?_
        refine zz_aload_n cx dn_X0_played_77 rfl rfl ?_
        refine zz_get cx zi_X0 (v := .ref (ad_p E 1)) (ci := 0) rfl 0 0 rfl (by decide) zk_X0_10 rfl dn_X0_played_78 ?_
        refine zz_getN cx zi_X2 (v := .ref (ad_p E 18)) (ci := 2) rfl 1 1 rfl (by decide) zk_X0_122 rfl dn_X0_played_81 ?_
        refine zz_iload_n cx dn_X0_played_84 rfl rfl ?_
        refine zz_iald cx 18 0 rfl rfl h (v := (gs_a G 15 x1)) rfl dn_X0_played_85 (fun h => ?_)
        refine zz_iald cx 3 0 rfl rfl h (v := (gs_a G 0 (gs_a G 15 x1))) rfl dn_X0_played_86 (fun h => ?_)
        obtain ⟨e1, e2⟩ := gs_pair h
        cases e1
        subst e2
        exact zz_iret cx cq (by decide) (by decide) dn_X0_played_87
      refine gs_if h (fun hc_2 h => ?_) (fun hc_2 h => ?_)
      · refine zz_swin cx dn_X0_played_26 hc_2 (by decide) (by decide) (off := 62) (tgt := 88) (by decide) (by decide) ?_
        refine zz_aload_n cx dn_X0_played_88 rfl rfl ?_
        refine zz_get cx zi_X0 (v := .ref (ad_p E 1)) (ci := 0) rfl 0 0 rfl (by decide) zk_X0_10 rfl dn_X0_played_89 ?_
        refine zz_getN cx zi_X2 (v := .ref (ad_p E 19)) (ci := 2) rfl 1 2 rfl (by decide) zk_X0_129 rfl dn_X0_played_92 ?_
        refine zz_iload_n cx dn_X0_played_95 rfl rfl ?_
        refine zz_iald cx 19 0 rfl rfl h (v := (gs_a G 16 x1)) rfl dn_X0_played_96 (fun h => ?_)
        obtain ⟨e1, e2⟩ := gs_pair h
        cases e1
        subst e2
        exact zz_iret cx cq (by decide) (by decide) dn_X0_played_97
      refine gs_if h (fun hc_3 h => ?_) (fun hc_3 h => ?_)
      · refine zz_swin cx dn_X0_played_26 hc_3 (by decide) (by decide) (off := 72) (tgt := 98) (by decide) (by decide) ?_
        refine zz_aload_n cx dn_X0_played_98 rfl rfl ?_
        refine zz_get cx zi_X0 (v := .ref (ad_p E 1)) (ci := 0) rfl 0 0 rfl (by decide) zk_X0_10 rfl dn_X0_played_99 ?_
        refine zz_getN cx zi_X2 (v := .ref (ad_p E 20)) (ci := 2) rfl 1 3 rfl (by decide) zk_X0_132 rfl dn_X0_played_102 ?_
        refine zz_iload_n cx dn_X0_played_105 rfl rfl ?_
        refine zz_iald cx 20 0 rfl rfl h (v := (gs_a G 17 x1)) rfl dn_X0_played_106 (fun h => ?_)
        obtain ⟨e1, e2⟩ := gs_pair h
        cases e1
        subst e2
        exact zz_iret cx cq (by decide) (by decide) dn_X0_played_107
      refine gs_if h (fun hc_4 h => ?_) (fun hc_4 h => ?_)
      · refine zz_swin cx dn_X0_played_26 hc_4 (by decide) (by decide) (off := 82) (tgt := 108) (by decide) (by decide) ?_
        refine zz_aload_n cx dn_X0_played_108 rfl rfl ?_
        refine zz_get cx zi_X0 (v := .ref (ad_p E 1)) (ci := 0) rfl 0 0 rfl (by decide) zk_X0_10 rfl dn_X0_played_109 ?_
        refine zz_getN cx zi_X2 (v := .ref (ad_p E 21)) (ci := 2) rfl 1 4 rfl (by decide) zk_X0_135 rfl dn_X0_played_112 ?_
        refine zz_iload_n cx dn_X0_played_115 rfl rfl ?_
        refine zz_iald cx 21 0 rfl rfl h (v := (gs_a G 18 x1)) rfl dn_X0_played_116 (fun h => ?_)
        obtain ⟨e1, e2⟩ := gs_pair h
        cases e1
        subst e2
        exact zz_iret cx cq (by decide) (by decide) dn_X0_played_117
      refine zz_swout cx 4 (by decide) dn_X0_played_26 (fun j hj => match j, hj with | 0, _ => hc_0 | 1, _ => hc_1 | 2, _ => hc_2 | 3, _ => hc_3 | 4, _ => hc_4 | j + 5, hj => absurd hj (by omega)) (tgt := 118) (by decide) ?_
      exact absurd (gs_pair h).1 (fun z => nomatch z)
    · exact absurd (gs_pair h).1 (fun z => nomatch z)
set_option maxHeartbeats 4000000 in
set_option maxRecDepth 100000 in
theorem z_cR_times_r (E : ze_T) (G : gs_T) (x1 : Int32) (rv : Int32) (G1 : gs_T) (h : cR_times G x1 = some (.inl rv, G1)) : zc_i (zF E) (wc_c E G) (wc_c E G1) yn_X0_times cn_X0_times 2 .int { frames := 1, cells := 0, slots := 0, locals := 21 } [.ref (ad_p E 0), .int x1] rv := by
  unfold cR_times at h
  refine zc_i_of (by decide) rfl (Nat.le_of_ble_eq_true rfl) (fun X cx cq => ?_)
  refine zz_aload_n cx dn_X0_times_0 rfl rfl ?_
  refine zz_get cx zi_X0 (v := .ref (ad_p E 2)) (ci := 0) rfl 0 1 rfl (by decide) zk_X0_20 rfl dn_X0_times_1 ?_
  refine zz_iload_n cx dn_X0_times_4 rfl rfl ?_
  refine gs_bind h (fun q1 e_q1 h => ?_)
  refine zz_callVNi cx (As := [.int x1]) (rest := []) (c2 := 0) (s2 := 0) (z_cS_hasBar E G x1 _ e_q1) zm_X1_hasBar zk_X0_45 zv_X1_hasBar 2 rfl rfl (by decide) rfl (Nat.le_of_ble_eq_true rfl) rfl rfl (by decide) (wc_c_addr E _ _) dn_X0_times_5 ?_
  refine zz_if_ne cx (tgt := 21) dn_X0_times_8 (by decide) h (fun h => ?_) (fun h => ?_)
  · exact absurd (gs_pair h).1 (fun z => nomatch z)
  · refine zz_aload_n cx dn_X0_times_21 rfl rfl ?_
    refine zz_get cx zi_X0 (v := .ref (ad_p E 1)) (ci := 0) rfl 0 0 rfl (by decide) zk_X0_10 rfl dn_X0_times_22 ?_
    refine zz_getN cx zi_X2 (v := .ref (ad_p E 22)) (ci := 2) rfl 1 5 rfl (by decide) zk_X0_140 rfl dn_X0_times_25 ?_
    refine zz_iload_n cx dn_X0_times_28 rfl rfl ?_
    refine zz_iald cx 22 0 rfl rfl h (v := (gs_a G 19 x1)) rfl dn_X0_times_29 (fun h => ?_)
    obtain ⟨e1, e2⟩ := gs_pair h
    cases e1
    subst e2
    exact zz_iret cx cq (by decide) (by decide) dn_X0_times_30
set_option maxHeartbeats 4000000 in
set_option maxRecDepth 100000 in
theorem z_cR_comes_r (E : ze_T) (G : gs_T) (x1 : Int32) (rv : Int32) (G1 : gs_T) (h : cR_comes G x1 = some (.inl rv, G1)) : zc_i (zF E) (wc_c E G) (wc_c E G1) yn_X0_comes cn_X0_comes 2 .int { frames := 1, cells := 0, slots := 0, locals := 21 } [.ref (ad_p E 0), .int x1] rv := by
  unfold cR_comes at h
  refine zc_i_of (by decide) rfl (Nat.le_of_ble_eq_true rfl) (fun X cx cq => ?_)
  refine zz_aload_n cx dn_X0_comes_0 rfl rfl ?_
  refine zz_get cx zi_X0 (v := .ref (ad_p E 2)) (ci := 0) rfl 0 1 rfl (by decide) zk_X0_20 rfl dn_X0_comes_1 ?_
  refine zz_iload_n cx dn_X0_comes_4 rfl rfl ?_
  refine gs_bind h (fun q1 e_q1 h => ?_)
  refine zz_callVNi cx (As := [.int x1]) (rest := []) (c2 := 0) (s2 := 0) (z_cS_hasBar E G x1 _ e_q1) zm_X1_hasBar zk_X0_45 zv_X1_hasBar 2 rfl rfl (by decide) rfl (Nat.le_of_ble_eq_true rfl) rfl rfl (by decide) (wc_c_addr E _ _) dn_X0_comes_5 ?_
  refine zz_if_ne cx (tgt := 21) dn_X0_comes_8 (by decide) h (fun h => ?_) (fun h => ?_)
  · exact absurd (gs_pair h).1 (fun z => nomatch z)
  · refine zz_aload_n cx dn_X0_comes_21 rfl rfl ?_
    refine zz_get cx zi_X0 (v := .ref (ad_p E 1)) (ci := 0) rfl 0 0 rfl (by decide) zk_X0_10 rfl dn_X0_comes_22 ?_
    refine zz_getN cx zi_X2 (v := .ref (ad_p E 23)) (ci := 2) rfl 1 6 rfl (by decide) zk_X0_143 rfl dn_X0_comes_25 ?_
    refine zz_iload_n cx dn_X0_comes_28 rfl rfl ?_
    refine zz_iald cx 23 0 rfl rfl h (v := (gs_a G 20 x1)) rfl dn_X0_comes_29 (fun h => ?_)
    obtain ⟨e1, e2⟩ := gs_pair h
    cases e1
    subst e2
    exact zz_iret cx cq (by decide) (by decide) dn_X0_comes_30
set_option maxHeartbeats 4000000 in
set_option maxRecDepth 100000 in
theorem z_cR_fold_50_r (E : ze_T) (n : Nat) (x1 x2 : Int32) (rv : Int32) (G1 : gs_T) (X : zx_T) (cx : zx (zF E) X cn_X0_fold yn_X0_fold.cls { frames := 4, cells := 0, slots := 0, locals := 93 } 4) (cq : zq_i (zF E) X (wc_c E G1) .int rv) : ∀ (k : Nat) (x3 : Int32) (G : gs_T), cR_fold_50 n x1 x2 k x3 G = some (.inl rv, G1) → zj (zF E) X 0 0 (wc_c E G) 50 [some (.ref (ad_p E 0)), some (.int x1), some (.int x2), some (.int x3)] [] := by
  intro k
  induction k with
  | zero => intro x3 G h; cases h
  | succ k ih =>
    intro x3 G h
    rw [cR_fold_50] at h
    refine zz_iload_n cx dn_X0_fold_50 rfl rfl ?_
    refine zz_iload_n cx dn_X0_fold_51 rfl rfl ?_
    refine zz_icmp_ge cx (tgt := 89) dn_X0_fold_52 (by decide) h (fun h => ?_) (fun h => ?_)
    · refine zz_aload_n cx dn_X0_fold_89 rfl rfl ?_
      refine zz_get cx zi_X0 (v := .ref (ad_p E 26)) (ci := 0) rfl 0 2 rfl (by decide) zk_X0_24 rfl dn_X0_fold_90 ?_
      refine zz_iload_n cx dn_X0_fold_93 rfl rfl ?_
      refine gs_bind h (fun q1 e_q1 h => ?_)
      refine zz_callVNi cx (As := [.int x2]) (rest := []) (c2 := 0) (s2 := 0) (z_cT_writeRow E n G x2 _ e_q1) zm_X3_writeRow zk_X0_153 zv_X3_writeRow 26 rfl rfl (by decide) rfl (Nat.le_of_ble_eq_true rfl) rfl rfl (by decide) (wc_c_addr E _ _) dn_X0_fold_94 ?_
      obtain ⟨e1, e2⟩ := gs_pair h
      cases e1
      subst e2
      exact zz_iret cx cq (by decide) (by decide) dn_X0_fold_97
    · refine zz_aload_n cx dn_X0_fold_55 rfl rfl ?_
      refine zz_get cx zi_X0 (v := .ref (ad_p E 26)) (ci := 0) rfl 0 2 rfl (by decide) zk_X0_24 rfl dn_X0_fold_56 ?_
      refine zz_getN cx zi_X3 (v := .ref (ad_p E 27)) (ci := 3) rfl 26 0 rfl (by decide) zk_X0_150 rfl dn_X0_fold_59 ?_
      refine zz_iload_n cx dn_X0_fold_62 rfl rfl ?_
      refine zz_aload_n cx dn_X0_fold_63 rfl rfl ?_
      refine zz_get cx zi_X0 (v := .ref (ad_p E 2)) (ci := 0) rfl 0 1 rfl (by decide) zk_X0_20 rfl dn_X0_fold_64 ?_
      refine zz_getN cx zi_X1 (v := .ref (ad_p E 3)) (ci := 1) rfl 2 0 rfl (by decide) zk_X0_126 rfl dn_X0_fold_67 ?_
      refine zz_aload_n cx dn_X0_fold_70 rfl rfl ?_
      refine zz_get cx zi_X0 (v := .ref (ad_p E 1)) (ci := 0) rfl 0 0 rfl (by decide) zk_X0_10 rfl dn_X0_fold_71 ?_
      refine zz_getN cx zi_X2 (v := .ref (ad_p E 18)) (ci := 2) rfl 1 1 rfl (by decide) zk_X0_122 rfl dn_X0_fold_74 ?_
      refine zz_iload_n cx dn_X0_fold_77 rfl rfl ?_
      refine zz_iload_n cx dn_X0_fold_78 rfl rfl ?_
      refine zz_iadd cx dn_X0_fold_79 ?_
      refine zz_iald cx 18 0 rfl rfl h (v := (gs_a G 15 (x1 + x3))) rfl dn_X0_fold_80 (fun h => ?_)
      refine zz_iald cx 3 0 rfl rfl h (v := (gs_a G 0 (gs_a G 15 (x1 + x3)))) rfl dn_X0_fold_81 (fun h => ?_)
      refine zz_iast cx 27 0 rfl rfl h (ws2 := (wc_c E (gs_sa G 23 x3 (gs_a G 0 (gs_a G 15 (x1 + x3)))))) (wc_c_a23 E _ _ _) dn_X0_fold_82 (fun h => ?_)
      refine zz_iinc cx dn_X0_fold_83 (d := (1 : Int32)) rfl (by decide) (by decide) rfl ?_
      refine zz_goto cx dn_X0_fold_86 (tgt := 50) (by decide) ?_
      exact ih (x3 + (1 : Int32)) (gs_sa G 23 x3 (gs_a G 0 (gs_a G 15 (x1 + x3)))) h
set_option maxHeartbeats 4000000 in
set_option maxRecDepth 100000 in
theorem z_cR_fold_r (E : ze_T) (n : Nat) (G : gs_T) (x1 x2 : Int32) (rv : Int32) (G1 : gs_T) (h : cR_fold n G x1 x2 = some (.inl rv, G1)) : zc_i (zF E) (wc_c E G) (wc_c E G1) yn_X0_fold cn_X0_fold 4 .int { frames := 4, cells := 0, slots := 0, locals := 93 } [.ref (ad_p E 0), .int x1, .int x2] rv := by
  unfold cR_fold at h
  refine zc_i_of (by decide) rfl (Nat.le_of_ble_eq_true rfl) (fun X cx cq => ?_)
  refine zz_iload_n cx dn_X0_fold_0 rfl rfl ?_
  refine zz_iconst cx dn_X0_fold_1 (v := (1 : Int32)) (by decide) ?_
  refine zz_icmp_lt cx (tgt := 11) dn_X0_fold_2 (by decide) h (fun h => ?_) (fun h => ?_)
  · exact absurd (gs_pair h).1 (fun z => nomatch z)
  · refine zz_iload_n cx dn_X0_fold_5 rfl rfl ?_
    refine zz_bipush cx dn_X0_fold_6 (v := (40 : Int32)) (by decide) ?_
    refine zz_icmp_le cx (tgt := 21) dn_X0_fold_8 (by decide) h (fun h => ?_) (fun h => ?_)
    · refine zz_iload_n cx dn_X0_fold_21 rfl rfl ?_
      refine zz_if_lt cx (tgt := 38) dn_X0_fold_22 (by decide) h (fun h => ?_) (fun h => ?_)
      · exact absurd (gs_pair h).1 (fun z => nomatch z)
      · refine zz_iload_n cx dn_X0_fold_25 rfl rfl ?_
        refine zz_aload_n cx dn_X0_fold_26 rfl rfl ?_
        refine zz_get cx zi_X0 (v := .ref (ad_p E 1)) (ci := 0) rfl 0 0 rfl (by decide) zk_X0_10 rfl dn_X0_fold_27 ?_
        refine zz_getN cx zi_X2 (v := .int (G.1 0)) (ci := 2) rfl 1 9 rfl (by decide) zk_X0_117 rfl dn_X0_fold_30 ?_
        refine zz_iload_n cx dn_X0_fold_33 rfl rfl ?_
        refine zz_isub cx dn_X0_fold_34 ?_
        refine zz_icmp_le cx (tgt := 48) dn_X0_fold_35 (by decide) h (fun h => ?_) (fun h => ?_)
        · refine zz_iconst cx dn_X0_fold_48 (v := (0 : Int32)) (by decide) ?_
          refine zz_istore_n cx dn_X0_fold_49 rfl (by decide) rfl ?_
          exact z_cR_fold_50_r E n x1 x2 _ _ X cx cq n (0 : Int32) G h
        · exact absurd (gs_pair h).1 (fun z => nomatch z)
    · exact absurd (gs_pair h).1 (fun z => nomatch z)
set_option maxHeartbeats 4000000 in
set_option maxRecDepth 100000 in
theorem z_cR_folded_r (E : ze_T) (G : gs_T) (x1 x2 : Int32) (rv : Int32) (G1 : gs_T) (h : cR_folded G x1 x2 = some (.inl rv, G1)) : zc_i (zF E) (wc_c E G) (wc_c E G1) yn_X0_folded cn_X0_folded 3 .int { frames := 0, cells := 0, slots := 0, locals := 0 } [.ref (ad_p E 0), .int x1, .int x2] rv := by
  unfold cR_folded at h
  refine zc_i_of (by decide) rfl (Nat.le_of_ble_eq_true rfl) (fun X cx cq => ?_)
  refine zz_iload_n cx dn_X0_folded_0 rfl rfl ?_
  refine zz_if_lt cx (tgt := 15) dn_X0_folded_1 (by decide) h (fun h => ?_) (fun h => ?_)
  · exact absurd (gs_pair h).1 (fun z => nomatch z)
  · refine zz_iload_n cx dn_X0_folded_4 rfl rfl ?_
    refine zz_aload_n cx dn_X0_folded_5 rfl rfl ?_
    refine zz_get cx zi_X0 (v := .ref (ad_p E 26)) (ci := 0) rfl 0 2 rfl (by decide) zk_X0_24 rfl dn_X0_folded_6 ?_
    refine zz_getN cx zi_X3 (v := .int (G.1 11)) (ci := 3) rfl 26 9 rfl (by decide) zk_X0_156 rfl dn_X0_folded_9 ?_
    refine zz_icmp_lt cx (tgt := 25) dn_X0_folded_12 (by decide) h (fun h => ?_) (fun h => ?_)
    · refine zz_iload_n cx dn_X0_folded_25 rfl rfl ?_
      refine gs_if h (fun hc_0 h => ?_) (fun hc_0 h => ?_)
      · refine zz_swl cx dn_X0_folded_26 (by decide) (off := 26) (tgt := 52) (by rw [hc_0]; decide) (by decide) ?_
        refine zz_aload_n cx dn_X0_folded_52 rfl rfl ?_
        refine zz_get cx zi_X0 (v := .ref (ad_p E 26)) (ci := 0) rfl 0 2 rfl (by decide) zk_X0_24 rfl dn_X0_folded_53 ?_
        refine zz_getN cx zi_X3 (v := .ref (ad_p E 33)) (ci := 3) rfl 26 6 rfl (by decide) zk_X0_161 rfl dn_X0_folded_56 ?_
        refine zz_iload_n cx dn_X0_folded_59 rfl rfl ?_
        refine zz_iald cx 33 0 rfl rfl h (v := (gs_a G 29 x1)) rfl dn_X0_folded_60 (fun h => ?_)
        obtain ⟨e1, e2⟩ := gs_pair h
        cases e1
        subst e2
        exact zz_iret cx cq (by decide) (by decide) dn_X0_folded_61
      refine gs_if h (fun hc_1 h => ?_) (fun hc_1 h => ?_)
      · refine zz_swl cx dn_X0_folded_26 (by decide) (off := 36) (tgt := 62) (by rw [hc_1]; decide) (by decide) ?_
        refine zz_aload_n cx dn_X0_folded_62 rfl rfl ?_
        refine zz_get cx zi_X0 (v := .ref (ad_p E 26)) (ci := 0) rfl 0 2 rfl (by decide) zk_X0_24 rfl dn_X0_folded_63 ?_
        refine zz_getN cx zi_X3 (v := .ref (ad_p E 34)) (ci := 3) rfl 26 7 rfl (by decide) zk_X0_164 rfl dn_X0_folded_66 ?_
        refine zz_iload_n cx dn_X0_folded_69 rfl rfl ?_
        refine zz_iald cx 34 0 rfl rfl h (v := (gs_a G 30 x1)) rfl dn_X0_folded_70 (fun h => ?_)
        obtain ⟨e1, e2⟩ := gs_pair h
        cases e1
        subst e2
        exact zz_iret cx cq (by decide) (by decide) dn_X0_folded_71
      refine zz_swl cx dn_X0_folded_26 (by decide) (off := 46) (tgt := 72) (zs_l2 hc_0 hc_1) (by decide) ?_
      exact absurd (gs_pair h).1 (fun z => nomatch z)
    · exact absurd (gs_pair h).1 (fun z => nomatch z)
set_option maxHeartbeats 4000000 in
set_option maxRecDepth 100000 in
theorem z_cR_told_r (E : ze_T) (G : gs_T) (x1 : Int32) (rv : Int32) (G1 : gs_T) (h : cR_told G x1 = some (.inl rv, G1)) : zc_i (zF E) (wc_c E G) (wc_c E G1) yn_X0_told cn_X0_told 2 .int { frames := 0, cells := 0, slots := 0, locals := 0 } [.ref (ad_p E 0), .int x1] rv := by
  unfold cR_told at h
  refine zc_i_of (by decide) rfl (Nat.le_of_ble_eq_true rfl) (fun X cx cq => ?_)
  refine zz_iload_n cx dn_X0_told_0 rfl rfl ?_
  refine gs_if h (fun hc_0 h => ?_) (fun hc_0 h => ?_)
  · refine zz_swin cx dn_X0_told_1 hc_0 (by decide) (by decide) (off := 47) (tgt := 48) (by decide) (by decide) ?_
    refine zz_aload_n cx dn_X0_told_48 rfl rfl ?_
    refine zz_get cx zi_X0 (v := .ref (ad_p E 2)) (ci := 0) rfl 0 1 rfl (by decide) zk_X0_20 rfl dn_X0_told_49 ?_
    refine zz_getN cx zi_X1 (v := .int (G.1 6)) (ci := 1) rfl 2 15 rfl (by decide) zk_X0_28 rfl dn_X0_told_52 ?_
    obtain ⟨e1, e2⟩ := gs_pair h
    cases e1
    subst e2
    exact zz_iret cx cq (by decide) (by decide) dn_X0_told_55
  refine gs_if h (fun hc_1 h => ?_) (fun hc_1 h => ?_)
  · refine zz_swin cx dn_X0_told_1 hc_1 (by decide) (by decide) (off := 55) (tgt := 56) (by decide) (by decide) ?_
    refine zz_aload_n cx dn_X0_told_56 rfl rfl ?_
    refine zz_get cx zi_X0 (v := .ref (ad_p E 2)) (ci := 0) rfl 0 1 rfl (by decide) zk_X0_20 rfl dn_X0_told_57 ?_
    refine zz_getN cx zi_X1 (v := .int (G.1 7)) (ci := 1) rfl 2 16 rfl (by decide) zk_X0_169 rfl dn_X0_told_60 ?_
    obtain ⟨e1, e2⟩ := gs_pair h
    cases e1
    subst e2
    exact zz_iret cx cq (by decide) (by decide) dn_X0_told_63
  refine gs_if h (fun hc_2 h => ?_) (fun hc_2 h => ?_)
  · refine zz_swin cx dn_X0_told_1 hc_2 (by decide) (by decide) (off := 63) (tgt := 64) (by decide) (by decide) ?_
    refine zz_aload_n cx dn_X0_told_64 rfl rfl ?_
    refine zz_get cx zi_X0 (v := .ref (ad_p E 2)) (ci := 0) rfl 0 1 rfl (by decide) zk_X0_20 rfl dn_X0_told_65 ?_
    refine zz_getN cx zi_X1 (v := .int (G.1 8)) (ci := 1) rfl 2 17 rfl (by decide) zk_X0_172 rfl dn_X0_told_68 ?_
    obtain ⟨e1, e2⟩ := gs_pair h
    cases e1
    subst e2
    exact zz_iret cx cq (by decide) (by decide) dn_X0_told_71
  refine gs_if h (fun hc_3 h => ?_) (fun hc_3 h => ?_)
  · refine zz_swin cx dn_X0_told_1 hc_3 (by decide) (by decide) (off := 71) (tgt := 72) (by decide) (by decide) ?_
    refine zz_aload_n cx dn_X0_told_72 rfl rfl ?_
    refine zz_get cx zi_X0 (v := .ref (ad_p E 2)) (ci := 0) rfl 0 1 rfl (by decide) zk_X0_20 rfl dn_X0_told_73 ?_
    refine zz_getN cx zi_X1 (v := .int (G.1 9)) (ci := 1) rfl 2 18 rfl (by decide) zk_X0_175 rfl dn_X0_told_76 ?_
    obtain ⟨e1, e2⟩ := gs_pair h
    cases e1
    subst e2
    exact zz_iret cx cq (by decide) (by decide) dn_X0_told_79
  refine gs_if h (fun hc_4 h => ?_) (fun hc_4 h => ?_)
  · refine zz_swin cx dn_X0_told_1 hc_4 (by decide) (by decide) (off := 79) (tgt := 80) (by decide) (by decide) ?_
    refine zz_aload_n cx dn_X0_told_80 rfl rfl ?_
    refine zz_get cx zi_X0 (v := .ref (ad_p E 1)) (ci := 0) rfl 0 0 rfl (by decide) zk_X0_10 rfl dn_X0_told_81 ?_
    refine zz_getN cx zi_X2 (v := .int (G.1 0)) (ci := 2) rfl 1 9 rfl (by decide) zk_X0_117 rfl dn_X0_told_84 ?_
    obtain ⟨e1, e2⟩ := gs_pair h
    cases e1
    subst e2
    exact zz_iret cx cq (by decide) (by decide) dn_X0_told_87
  refine gs_if h (fun hc_5 h => ?_) (fun hc_5 h => ?_)
  · refine zz_swin cx dn_X0_told_1 hc_5 (by decide) (by decide) (off := 87) (tgt := 88) (by decide) (by decide) ?_
    refine zz_aload_n cx dn_X0_told_88 rfl rfl ?_
    refine zz_get cx zi_X0 (v := .ref (ad_p E 1)) (ci := 0) rfl 0 0 rfl (by decide) zk_X0_10 rfl dn_X0_told_89 ?_
    refine zz_getN cx zi_X2 (v := .int (G.1 1)) (ci := 2) rfl 1 10 rfl (by decide) zk_X0_178 rfl dn_X0_told_92 ?_
    obtain ⟨e1, e2⟩ := gs_pair h
    cases e1
    subst e2
    exact zz_iret cx cq (by decide) (by decide) dn_X0_told_95
  refine gs_if h (fun hc_6 h => ?_) (fun hc_6 h => ?_)
  · refine zz_swin cx dn_X0_told_1 hc_6 (by decide) (by decide) (off := 95) (tgt := 96) (by decide) (by decide) ?_
    refine zz_aload_n cx dn_X0_told_96 rfl rfl ?_
    refine zz_get cx zi_X0 (v := .ref (ad_p E 26)) (ci := 0) rfl 0 2 rfl (by decide) zk_X0_24 rfl dn_X0_told_97 ?_
    refine zz_getN cx zi_X3 (v := .int (G.1 11)) (ci := 3) rfl 26 9 rfl (by decide) zk_X0_156 rfl dn_X0_told_100 ?_
    obtain ⟨e1, e2⟩ := gs_pair h
    cases e1
    subst e2
    exact zz_iret cx cq (by decide) (by decide) dn_X0_told_103
  refine gs_if h (fun hc_7 h => ?_) (fun hc_7 h => ?_)
  · refine zz_swin cx dn_X0_told_1 hc_7 (by decide) (by decide) (off := 103) (tgt := 104) (by decide) (by decide) ?_
    refine zz_aload_n cx dn_X0_told_104 rfl rfl ?_
    refine zz_get cx zi_X0 (v := .ref (ad_p E 26)) (ci := 0) rfl 0 2 rfl (by decide) zk_X0_24 rfl dn_X0_told_105 ?_
    refine zz_getN cx zi_X3 (v := .int (G.1 12)) (ci := 3) rfl 26 10 rfl (by decide) zk_X0_179 rfl dn_X0_told_108 ?_
    obtain ⟨e1, e2⟩ := gs_pair h
    cases e1
    subst e2
    exact zz_iret cx cq (by decide) (by decide) dn_X0_told_111
  refine zz_swout cx 7 (by decide) dn_X0_told_1 (fun j hj => match j, hj with | 0, _ => hc_0 | 1, _ => hc_1 | 2, _ => hc_2 | 3, _ => hc_3 | 4, _ => hc_4 | 5, _ => hc_5 | 6, _ => hc_6 | 7, _ => hc_7 | j + 8, hj => absurd hj (by omega)) (tgt := 112) (by decide) ?_
  exact absurd (gs_pair h).1 (fun z => nomatch z)
