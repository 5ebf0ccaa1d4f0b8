/-! ===== own: the law's body (printed by genlaw.py) ===== -/
def zs_ok (X : zx_T) (b L : Nat) (xs : Nat → Int32) : Prop :=
  match X with
  | (_, _, _, s, _, _, _, _, _, A, _, _) => va_X b L xs s s.heap ∧ b < s.heap.size ∧ ¬ A b
def zh_ok (X : zx_T) : Prop :=
  match X with
  | (_, _, _, s, _, _, _, _, _, A, _, _) => xt_ok A s s.heap ∧ xn_ok s
section ZK
variable {F : zf_T} {X : zx_T} {cc : ByteArray} {own : String} {rm : Room} {cells slots pc ml : Nat} {ws : va_W} {L : List (Option Value)} {st : List Value}
theorem zz_sld (cx : zx F X cc own rm ml) {b n : Nat} {xs : Nat → Int32} (sx : zs_ok X b n xs) {i v : Int32} (hin : vp_in i n) (hv : xs i.toNatClampNeg = v) (hd : decode cc pc = .ok (.iaload, 1)) (k : zj F X cells slots ws (pc + 1) L (.int v :: st)) : zj F X cells slots ws pc L (.int i :: .ref b :: st) := by
  subst hv
  obtain ⟨l, D, tys⟩ := F
  obtain ⟨p, e, R, s, m, args, below, meth, c, A, nL, Q⟩ := X
  obtain ⟨hx, hb, hml, hown, hts, hK, hn, hlo, hA, hR, hL9⟩ := cx
  obtain ⟨hX, hbl, hbA⟩ := sx
  exact fun H locs ls hP hD hS hl => va_sld hx hb hX hbl hbA hS hin hd (k H locs ls hP hD hS hl)
theorem zz_slen (cx : zx F X cc own rm ml) {b n : Nat} {xs : Nat → Int32} (sx : zs_ok X b n xs) (hd : decode cc pc = .ok (.arraylength, 1)) (k : zj F X cells slots ws (pc + 1) L (.int (Int32.ofNat n) :: st)) : zj F X cells slots ws pc L (.ref b :: st) := by
  obtain ⟨l, D, tys⟩ := F
  obtain ⟨p, e, R, s, m, args, below, meth, c, A, nL, Q⟩ := X
  obtain ⟨hx, hb, hml, hown, hts, hK, hn, hlo, hA, hR, hL9⟩ := cx
  obtain ⟨hX, hbl, hbA⟩ := sx
  exact fun H locs ls hP hD hS hl => va_slen hx hb hX hbl hbA hS hd (k H locs ls hP hD hS hl)
theorem zz_wide {c2 s2 : Nat} (h1 : cells ≤ c2) (h2 : slots ≤ s2) (k : zj F X c2 s2 ws pc L st) : zj F X cells slots ws pc L st := by
  obtain ⟨l, D, tys⟩ := F
  obtain ⟨p, e, R, s, m, args, below, meth, c, A, nL, Q⟩ := X
  exact fun H locs ls hP hD hS hl => W.widen h1 h2 (k H locs ls hP hD hS hl)
end ZK
theorem zy_ad2 {a : Nat} {e1 e2 : va_E} {l1 l2 : va_W} (h : l1.map Prod.fst = l2.map Prod.fst) : ((a, e1) :: l1).map Prod.fst = ((a, e2) :: l2).map Prod.fst := congrArg (a :: ·) h
theorem zy_ap4 {α : Type} (x : α) (S T : List α) : (x :: S) ++ T = [x] ++ (S ++ T) := rfl
theorem zy_ap5 {α : Type} (S T : List α) : S ++ T = S ++ (T ++ []) := by rw [List.append_nil]
theorem zy_ap6 {α : Type} (S T : List α) : S ++ T = [] ++ (S ++ T) := rfl
theorem zy_up0 (f : Nat → Int64) (v : Int64) : (vp_updL f 0 v) (0 : Int32).toNatClampNeg = v := by
  show (vp_updL f 0 v) 0 = v
  simp [vp_updL]
theorem zy_cmp (v : Int64) : lg_cmp v v = 0 := by simp [lg_cmp]
abbrev wl_w (E : ze_T) (am : Nat → Nat) (o : Nat) (f : Nat → Int64) (G Gm : gs_T) : va_W := (wo_e E o f :: wc_c E G) ++ wc_m (ze_ad E am) Gm
abbrev wl_L (E : ze_T) (am : Nat → Nat) (o b : Nat) (i : Int32) : List (Option Value) := [some (.ref b), some (.ref (ad_p E 0)), some (.ref (ad_p (ze_ad E am) 0)), some (.ref o), some (.int i), none, none]

set_option maxHeartbeats 4000000 in
set_option maxRecDepth 100000 in
theorem zl_bar_r (E : ze_T) (am : Nat → Nat) (o b L : Nat) (xs : Nat → Int32) (X : zx_T) (cx : zx (zF E) X code rn_XL room_1 7) (sx : zs_ok X b L xs) (hx9 : zh_ok X) (c s : Nat) (hf0 : c ≤ room_1.cells ∧ s ≤ room_1.slots) (f : Nat → Int64) (G Gm : gs_T) (i : Int32) (y1 : Int32) (h1 : vp_in (i + 1) L) (e1 : xs (i + 1).toNatClampNeg = y1) (rv : Int32) (G1 : gs_T) (hc : cR_bar G y1 = some (.inl rv, G1)) (mr : Int32 × gs_T) (hm : mM_bar Gm y1 = some mr) (ht : mM_thrown mr.2 = some (0 : Int32)) (hv : rv = mr.1) (k : zj (zF E) X c s (wl_w E am o (vp_updL f 0 rv.toInt64) G1 mr.2) 926 (wl_L E am o b i) []) : zj (zF E) X c s (wl_w E am o f G Gm) 108 (wl_L E am o b i) [] := by
  refine zz_aload_n cx dn_XL_law_108 rfl rfl ?_
  refine zz_aload_n cx dn_XL_law_109 rfl rfl ?_
  refine zz_iload cx dn_XL_law_110 rfl ?_
  refine zz_iconst cx dn_XL_law_112 (v := (1 : Int32)) (by decide) ?_
  refine zz_iadd cx dn_XL_law_113 ?_
  refine zz_sld cx sx h1 e1 dn_XL_law_114 ?_
  refine zz_aload_n cx dn_XL_law_115 rfl rfl ?_
  refine zy_callW cx (wl := []) (wr := wc_m (ze_ad E am) Gm) (As := [.ref (ad_p E 0), .int y1, .ref o]) (rest := []) (hh9 := []) (n := 3) (zh_bar_r E o f G y1 rv G1 hc) (zy_ap6 _ _) hx9 zo_XL zw_bar (by decide) (by decide +kernel) zk_XL_61 zs_XL_bar (by decide) rfl (Nat.le_of_ble_eq_true rfl) (c2 := c) (s2 := s) rfl rfl hf0 (zy_ad2 (wc_c_addr E _ _)) dn_XL_law_116 ?_
  refine zy_eq (ws2 := wl_w E am o (vp_updL f 0 rv.toInt64) G1 Gm) rfl ?_
  refine zz_istore cx dn_XL_law_119 (by decide) rfl ?_
  refine zz_aload_n cx dn_XL_law_121 rfl rfl ?_
  refine zz_aload_n cx dn_XL_law_122 rfl rfl ?_
  refine zz_iload cx dn_XL_law_123 rfl ?_
  refine zz_iconst cx dn_XL_law_125 (v := (1 : Int32)) (by decide) ?_
  refine zz_iadd cx dn_XL_law_126 ?_
  refine zz_sld cx sx h1 e1 dn_XL_law_127 ?_
  refine zy_callVi cx (wl := wo_e E o (vp_updL f 0 rv.toInt64) :: wc_c E G1) (wr := []) (As := [.int y1]) (rest := []) (z_mM_bar (ze_ad E am) Gm y1 mr hm) (zy_ap5 _ _) zm_X4_bar zk_XL_66 zv_X4_bar 0 (ci := 4) rfl rfl (by decide) rfl (Nat.le_of_ble_eq_true rfl) (c2 := c) (s2 := s) rfl rfl hf0 (wc_m_addr _ _ _) dn_XL_law_128 ?_
  refine zy_eq (ws2 := wl_w E am o (vp_updL f 0 rv.toInt64) G1 mr.2) (zy_ap5 _ _).symm ?_
  refine zz_istore cx dn_XL_law_131 (by decide) rfl ?_
  refine zz_aload_n cx dn_XL_law_133 rfl rfl ?_
  refine zy_callVi cx (wl := wo_e E o (vp_updL f 0 rv.toInt64) :: wc_c E G1) (wr := []) (As := []) (rest := []) (z_mM_thrown (ze_ad E am) mr.2 _ ht) (zy_ap5 _ _) zm_X4_thrown zk_XL_67 zv_X4_thrown 0 (ci := 4) rfl rfl (by decide) rfl (Nat.le_of_ble_eq_true rfl) (c2 := c) (s2 := s) rfl rfl hf0 (wc_m_addr _ _ _) dn_XL_law_134 ?_
  refine zy_eq (ws2 := wl_w E am o (vp_updL f 0 rv.toInt64) G1 mr.2) (zy_ap5 _ _).symm ?_
  refine zz_iload cx dn_XL_law_137 rfl ?_
  refine zz_icmp_eq_t cx (tgt := 144) dn_XL_law_139 (by decide) rfl ?_
  refine zz_iload cx dn_XL_law_144 rfl ?_
  refine zz_if_ne_f cx (tgt := 161) dn_XL_law_146 (by decide) (by decide) ?_
  refine zz_aload_n cx dn_XL_law_149 rfl rfl ?_
  refine zz_iconst cx dn_XL_law_150 (v := (0 : Int32)) (by decide) ?_
  refine zz_lald cx 0 2 rfl rfl zi_01 (zy_up0 _ _) dn_XL_law_151 ?_
  refine zz_iload cx dn_XL_law_152 rfl ?_
  refine zz_i2l cx dn_XL_law_154 ?_
  refine zz_lcmp cx dn_XL_law_155 ?_
  rw [show lg_cmp rv.toInt64 mr.1.toInt64 = 0 by rw [hv, zy_cmp]]
  refine zz_if_eq_t cx (tgt := 161) dn_XL_law_156 (by decide) rfl ?_
  refine zz_goto cx dn_XL_law_161 (tgt := 926) (by decide) ?_
  refine zz_less (L2 := wl_L E am o b i) ⟨rfl, rfl, rfl, rfl, rfl, trivial⟩ ?_
  exact k
set_option maxHeartbeats 4000000 in
set_option maxRecDepth 100000 in
theorem zl_bar_t0 (E : ze_T) (am : Nat → Nat) (o b L : Nat) (xs : Nat → Int32) (X : zx_T) (cx : zx (zF E) X code rn_XL room_1 7) (sx : zs_ok X b L xs) (hx9 : zh_ok X) (c s : Nat) (hf0 : c ≤ room_1.cells ∧ s ≤ room_1.slots) (f : Nat → Int64) (G Gm : gs_T) (i : Int32) (y1 : Int32) (h1 : vp_in (i + 1) L) (e1 : xs (i + 1).toNatClampNeg = y1) (hf1 : c + 1 ≤ room_1.cells ∧ s + 6 ≤ room_1.slots) (hl : (zF E).1.stackTraces = false) (G1 : gs_T) (hc : cR_bar G y1 = some (.inr 0, G1)) (mr : Int32 × gs_T) (hm : mM_bar Gm y1 = some mr) (ht : mM_thrown mr.2 = some (1 : Int32)) (k : zj (zF E) X (c + 1) (s + 6) (wl_w E am o f G1 mr.2) 926 (wl_L E am o b i) []) : zj (zF E) X c s (wl_w E am o f G Gm) 108 (wl_L E am o b i) [] := by
  refine zz_aload_n cx dn_XL_law_108 rfl rfl ?_
  refine zz_aload_n cx dn_XL_law_109 rfl rfl ?_
  refine zz_iload cx dn_XL_law_110 rfl ?_
  refine zz_iconst cx dn_XL_law_112 (v := (1 : Int32)) (by decide) ?_
  refine zz_iadd cx dn_XL_law_113 ?_
  refine zz_sld cx sx h1 e1 dn_XL_law_114 ?_
  refine zz_aload_n cx dn_XL_law_115 rfl rfl ?_
  refine zy_callW cx (wl := []) (wr := wc_m (ze_ad E am) Gm) (As := [.ref (ad_p E 0), .int y1, .ref o]) (rest := []) (hh9 := []) (n := 3) (zh_bar_t0 E o f G y1 G1 hl hc) (zy_ap6 _ _) hx9 zo_XL zw_bar (by decide) (by decide +kernel) zk_XL_61 zs_XL_bar (by decide) rfl (Nat.le_of_ble_eq_true rfl) (c2 := (c + 1)) (s2 := (s + 6)) rfl rfl hf1 (zy_ad2 (wc_c_addr E _ _)) dn_XL_law_116 ?_
  refine zy_eq (ws2 := wl_w E am o f G1 Gm) rfl ?_
  refine zz_istore cx dn_XL_law_119 (by decide) rfl ?_
  refine zz_aload_n cx dn_XL_law_121 rfl rfl ?_
  refine zz_aload_n cx dn_XL_law_122 rfl rfl ?_
  refine zz_iload cx dn_XL_law_123 rfl ?_
  refine zz_iconst cx dn_XL_law_125 (v := (1 : Int32)) (by decide) ?_
  refine zz_iadd cx dn_XL_law_126 ?_
  refine zz_sld cx sx h1 e1 dn_XL_law_127 ?_
  refine zy_callVi cx (wl := wo_e E o f :: wc_c E G1) (wr := []) (As := [.int y1]) (rest := []) (z_mM_bar (ze_ad E am) Gm y1 mr hm) (zy_ap5 _ _) zm_X4_bar zk_XL_66 zv_X4_bar 0 (ci := 4) rfl rfl (by decide) rfl (Nat.le_of_ble_eq_true rfl) (c2 := (c + 1)) (s2 := (s + 6)) rfl rfl hf1 (wc_m_addr _ _ _) dn_XL_law_128 ?_
  refine zy_eq (ws2 := wl_w E am o f G1 mr.2) (zy_ap5 _ _).symm ?_
  refine zz_istore cx dn_XL_law_131 (by decide) rfl ?_
  refine zz_aload_n cx dn_XL_law_133 rfl rfl ?_
  refine zy_callVi cx (wl := wo_e E o f :: wc_c E G1) (wr := []) (As := []) (rest := []) (z_mM_thrown (ze_ad E am) mr.2 _ ht) (zy_ap5 _ _) zm_X4_thrown zk_XL_67 zv_X4_thrown 0 (ci := 4) rfl rfl (by decide) rfl (Nat.le_of_ble_eq_true rfl) (c2 := (c + 1)) (s2 := (s + 6)) rfl rfl hf1 (wc_m_addr _ _ _) dn_XL_law_134 ?_
  refine zy_eq (ws2 := wl_w E am o f G1 mr.2) (zy_ap5 _ _).symm ?_
  refine zz_iload cx dn_XL_law_137 rfl ?_
  refine zz_icmp_eq_t cx (tgt := 144) dn_XL_law_139 (by decide) rfl ?_
  refine zz_iload cx dn_XL_law_144 rfl ?_
  refine zz_if_ne_t cx (tgt := 161) dn_XL_law_146 (by decide) (by decide) ?_
  refine zz_goto cx dn_XL_law_161 (tgt := 926) (by decide) ?_
  refine zz_less (L2 := wl_L E am o b i) ⟨rfl, rfl, rfl, rfl, rfl, trivial⟩ ?_
  exact k
set_option maxHeartbeats 4000000 in
set_option maxRecDepth 100000 in
theorem zl_repeat_r (E : ze_T) (am : Nat → Nat) (o b L : Nat) (xs : Nat → Int32) (X : zx_T) (cx : zx (zF E) X code rn_XL room_1 7) (sx : zs_ok X b L xs) (hx9 : zh_ok X) (c s : Nat) (hf0 : c ≤ room_1.cells ∧ s ≤ room_1.slots) (f : Nat → Int64) (G Gm : gs_T) (i : Int32) (y1 : Int32) (h1 : vp_in (i + 1) L) (e1 : xs (i + 1).toNatClampNeg = y1) (y2 : Int32) (h2 : vp_in (i + 2) L) (e2 : xs (i + 2).toNatClampNeg = y2) (y3 : Int32) (h3 : vp_in (i + 3) L) (e3 : xs (i + 3).toNatClampNeg = y3) (n : Nat) (k9 : Nat) (rv : Int32) (G1 : gs_T) (hc : cR_repeat n G y1 y2 y3 = some (.inl rv, G1)) (mr : Int32 × gs_T) (hm : mM_repeat k9 Gm y1 y2 y3 = some mr) (ht : mM_thrown mr.2 = some (0 : Int32)) (hv : rv = mr.1) (k : zj (zF E) X c s (wl_w E am o (vp_updL f 0 rv.toInt64) G1 mr.2) 926 (wl_L E am o b i) []) : zj (zF E) X c s (wl_w E am o f G Gm) 164 (wl_L E am o b i) [] := by
  refine zz_aload_n cx dn_XL_law_164 rfl rfl ?_
  refine zz_aload_n cx dn_XL_law_165 rfl rfl ?_
  refine zz_iload cx dn_XL_law_166 rfl ?_
  refine zz_iconst cx dn_XL_law_168 (v := (1 : Int32)) (by decide) ?_
  refine zz_iadd cx dn_XL_law_169 ?_
  refine zz_sld cx sx h1 e1 dn_XL_law_170 ?_
  refine zz_aload_n cx dn_XL_law_171 rfl rfl ?_
  refine zz_iload cx dn_XL_law_172 rfl ?_
  refine zz_iconst cx dn_XL_law_174 (v := (2 : Int32)) (by decide) ?_
  refine zz_iadd cx dn_XL_law_175 ?_
  refine zz_sld cx sx h2 e2 dn_XL_law_176 ?_
  refine zz_aload_n cx dn_XL_law_177 rfl rfl ?_
  refine zz_iload cx dn_XL_law_178 rfl ?_
  refine zz_iconst cx dn_XL_law_180 (v := (3 : Int32)) (by decide) ?_
  refine zz_iadd cx dn_XL_law_181 ?_
  refine zz_sld cx sx h3 e3 dn_XL_law_182 ?_
  refine zz_aload_n cx dn_XL_law_183 rfl rfl ?_
  refine zy_callW cx (wl := []) (wr := wc_m (ze_ad E am) Gm) (As := [.ref (ad_p E 0), .int y1, .int y2, .int y3, .ref o]) (rest := []) (hh9 := []) (n := 5) (zh_repeat_r E o f n G y1 y2 y3 rv G1 hc) (zy_ap6 _ _) hx9 zo_XL zw_repeat (by decide) (by decide +kernel) zk_XL_71 zs_XL_repeat (by decide) rfl (Nat.le_of_ble_eq_true rfl) (c2 := c) (s2 := s) rfl rfl hf0 (zy_ad2 (wc_c_addr E _ _)) dn_XL_law_184 ?_
  refine zy_eq (ws2 := wl_w E am o (vp_updL f 0 rv.toInt64) G1 Gm) rfl ?_
  refine zz_istore cx dn_XL_law_187 (by decide) rfl ?_
  refine zz_aload_n cx dn_XL_law_189 rfl rfl ?_
  refine zz_aload_n cx dn_XL_law_190 rfl rfl ?_
  refine zz_iload cx dn_XL_law_191 rfl ?_
  refine zz_iconst cx dn_XL_law_193 (v := (1 : Int32)) (by decide) ?_
  refine zz_iadd cx dn_XL_law_194 ?_
  refine zz_sld cx sx h1 e1 dn_XL_law_195 ?_
  refine zz_aload_n cx dn_XL_law_196 rfl rfl ?_
  refine zz_iload cx dn_XL_law_197 rfl ?_
  refine zz_iconst cx dn_XL_law_199 (v := (2 : Int32)) (by decide) ?_
  refine zz_iadd cx dn_XL_law_200 ?_
  refine zz_sld cx sx h2 e2 dn_XL_law_201 ?_
  refine zz_aload_n cx dn_XL_law_202 rfl rfl ?_
  refine zz_iload cx dn_XL_law_203 rfl ?_
  refine zz_iconst cx dn_XL_law_205 (v := (3 : Int32)) (by decide) ?_
  refine zz_iadd cx dn_XL_law_206 ?_
  refine zz_sld cx sx h3 e3 dn_XL_law_207 ?_
  refine zy_callVi cx (wl := wo_e E o (vp_updL f 0 rv.toInt64) :: wc_c E G1) (wr := []) (As := [.int y1, .int y2, .int y3]) (rest := []) (z_mM_repeat (ze_ad E am) k9 Gm y1 y2 y3 mr hm) (zy_ap5 _ _) zm_X4_repeat zk_XL_74 zv_X4_repeat 0 (ci := 4) rfl rfl (by decide) rfl (Nat.le_of_ble_eq_true rfl) (c2 := c) (s2 := s) rfl rfl hf0 (wc_m_addr _ _ _) dn_XL_law_208 ?_
  refine zy_eq (ws2 := wl_w E am o (vp_updL f 0 rv.toInt64) G1 mr.2) (zy_ap5 _ _).symm ?_
  refine zz_istore cx dn_XL_law_211 (by decide) rfl ?_
  refine zz_aload_n cx dn_XL_law_213 rfl rfl ?_
  refine zy_callVi cx (wl := wo_e E o (vp_updL f 0 rv.toInt64) :: wc_c E G1) (wr := []) (As := []) (rest := []) (z_mM_thrown (ze_ad E am) mr.2 _ ht) (zy_ap5 _ _) zm_X4_thrown zk_XL_67 zv_X4_thrown 0 (ci := 4) rfl rfl (by decide) rfl (Nat.le_of_ble_eq_true rfl) (c2 := c) (s2 := s) rfl rfl hf0 (wc_m_addr _ _ _) dn_XL_law_214 ?_
  refine zy_eq (ws2 := wl_w E am o (vp_updL f 0 rv.toInt64) G1 mr.2) (zy_ap5 _ _).symm ?_
  refine zz_iload cx dn_XL_law_217 rfl ?_
  refine zz_icmp_eq_t cx (tgt := 224) dn_XL_law_219 (by decide) rfl ?_
  refine zz_iload cx dn_XL_law_224 rfl ?_
  refine zz_if_ne_f cx (tgt := 241) dn_XL_law_226 (by decide) (by decide) ?_
  refine zz_aload_n cx dn_XL_law_229 rfl rfl ?_
  refine zz_iconst cx dn_XL_law_230 (v := (0 : Int32)) (by decide) ?_
  refine zz_lald cx 0 2 rfl rfl zi_01 (zy_up0 _ _) dn_XL_law_231 ?_
  refine zz_iload cx dn_XL_law_232 rfl ?_
  refine zz_i2l cx dn_XL_law_234 ?_
  refine zz_lcmp cx dn_XL_law_235 ?_
  rw [show lg_cmp rv.toInt64 mr.1.toInt64 = 0 by rw [hv, zy_cmp]]
  refine zz_if_eq_t cx (tgt := 241) dn_XL_law_236 (by decide) rfl ?_
  refine zz_goto cx dn_XL_law_241 (tgt := 926) (by decide) ?_
  refine zz_less (L2 := wl_L E am o b i) ⟨rfl, rfl, rfl, rfl, rfl, trivial⟩ ?_
  exact k
set_option maxHeartbeats 4000000 in
set_option maxRecDepth 100000 in
theorem zl_repeat_t1 (E : ze_T) (am : Nat → Nat) (o b L : Nat) (xs : Nat → Int32) (X : zx_T) (cx : zx (zF E) X code rn_XL room_1 7) (sx : zs_ok X b L xs) (hx9 : zh_ok X) (c s : Nat) (hf0 : c ≤ room_1.cells ∧ s ≤ room_1.slots) (f : Nat → Int64) (G Gm : gs_T) (i : Int32) (y1 : Int32) (h1 : vp_in (i + 1) L) (e1 : xs (i + 1).toNatClampNeg = y1) (y2 : Int32) (h2 : vp_in (i + 2) L) (e2 : xs (i + 2).toNatClampNeg = y2) (y3 : Int32) (h3 : vp_in (i + 3) L) (e3 : xs (i + 3).toNatClampNeg = y3) (n : Nat) (k9 : Nat) (hf1 : c + 1 ≤ room_1.cells ∧ s + 6 ≤ room_1.slots) (hl : (zF E).1.stackTraces = false) (G1 : gs_T) (hc : cR_repeat n G y1 y2 y3 = some (.inr 1, G1)) (mr : Int32 × gs_T) (hm : mM_repeat k9 Gm y1 y2 y3 = some mr) (ht : mM_thrown mr.2 = some (1 : Int32)) (k : zj (zF E) X (c + 1) (s + 6) (wl_w E am o f G1 mr.2) 926 (wl_L E am o b i) []) : zj (zF E) X c s (wl_w E am o f G Gm) 164 (wl_L E am o b i) [] := by
  refine zz_aload_n cx dn_XL_law_164 rfl rfl ?_
  refine zz_aload_n cx dn_XL_law_165 rfl rfl ?_
  refine zz_iload cx dn_XL_law_166 rfl ?_
  refine zz_iconst cx dn_XL_law_168 (v := (1 : Int32)) (by decide) ?_
  refine zz_iadd cx dn_XL_law_169 ?_
  refine zz_sld cx sx h1 e1 dn_XL_law_170 ?_
  refine zz_aload_n cx dn_XL_law_171 rfl rfl ?_
  refine zz_iload cx dn_XL_law_172 rfl ?_
  refine zz_iconst cx dn_XL_law_174 (v := (2 : Int32)) (by decide) ?_
  refine zz_iadd cx dn_XL_law_175 ?_
  refine zz_sld cx sx h2 e2 dn_XL_law_176 ?_
  refine zz_aload_n cx dn_XL_law_177 rfl rfl ?_
  refine zz_iload cx dn_XL_law_178 rfl ?_
  refine zz_iconst cx dn_XL_law_180 (v := (3 : Int32)) (by decide) ?_
  refine zz_iadd cx dn_XL_law_181 ?_
  refine zz_sld cx sx h3 e3 dn_XL_law_182 ?_
  refine zz_aload_n cx dn_XL_law_183 rfl rfl ?_
  refine zy_callW cx (wl := []) (wr := wc_m (ze_ad E am) Gm) (As := [.ref (ad_p E 0), .int y1, .int y2, .int y3, .ref o]) (rest := []) (hh9 := []) (n := 5) (zh_repeat_t1 E o f n G y1 y2 y3 G1 hl hc) (zy_ap6 _ _) hx9 zo_XL zw_repeat (by decide) (by decide +kernel) zk_XL_71 zs_XL_repeat (by decide) rfl (Nat.le_of_ble_eq_true rfl) (c2 := (c + 1)) (s2 := (s + 6)) rfl rfl hf1 (zy_ad2 (wc_c_addr E _ _)) dn_XL_law_184 ?_
  refine zy_eq (ws2 := wl_w E am o f G1 Gm) rfl ?_
  refine zz_istore cx dn_XL_law_187 (by decide) rfl ?_
  refine zz_aload_n cx dn_XL_law_189 rfl rfl ?_
  refine zz_aload_n cx dn_XL_law_190 rfl rfl ?_
  refine zz_iload cx dn_XL_law_191 rfl ?_
  refine zz_iconst cx dn_XL_law_193 (v := (1 : Int32)) (by decide) ?_
  refine zz_iadd cx dn_XL_law_194 ?_
  refine zz_sld cx sx h1 e1 dn_XL_law_195 ?_
  refine zz_aload_n cx dn_XL_law_196 rfl rfl ?_
  refine zz_iload cx dn_XL_law_197 rfl ?_
  refine zz_iconst cx dn_XL_law_199 (v := (2 : Int32)) (by decide) ?_
  refine zz_iadd cx dn_XL_law_200 ?_
  refine zz_sld cx sx h2 e2 dn_XL_law_201 ?_
  refine zz_aload_n cx dn_XL_law_202 rfl rfl ?_
  refine zz_iload cx dn_XL_law_203 rfl ?_
  refine zz_iconst cx dn_XL_law_205 (v := (3 : Int32)) (by decide) ?_
  refine zz_iadd cx dn_XL_law_206 ?_
  refine zz_sld cx sx h3 e3 dn_XL_law_207 ?_
  refine zy_callVi cx (wl := wo_e E o f :: wc_c E G1) (wr := []) (As := [.int y1, .int y2, .int y3]) (rest := []) (z_mM_repeat (ze_ad E am) k9 Gm y1 y2 y3 mr hm) (zy_ap5 _ _) zm_X4_repeat zk_XL_74 zv_X4_repeat 0 (ci := 4) rfl rfl (by decide) rfl (Nat.le_of_ble_eq_true rfl) (c2 := (c + 1)) (s2 := (s + 6)) rfl rfl hf1 (wc_m_addr _ _ _) dn_XL_law_208 ?_
  refine zy_eq (ws2 := wl_w E am o f G1 mr.2) (zy_ap5 _ _).symm ?_
  refine zz_istore cx dn_XL_law_211 (by decide) rfl ?_
  refine zz_aload_n cx dn_XL_law_213 rfl rfl ?_
  refine zy_callVi cx (wl := wo_e E o f :: wc_c E G1) (wr := []) (As := []) (rest := []) (z_mM_thrown (ze_ad E am) mr.2 _ ht) (zy_ap5 _ _) zm_X4_thrown zk_XL_67 zv_X4_thrown 0 (ci := 4) rfl rfl (by decide) rfl (Nat.le_of_ble_eq_true rfl) (c2 := (c + 1)) (s2 := (s + 6)) rfl rfl hf1 (wc_m_addr _ _ _) dn_XL_law_214 ?_
  refine zy_eq (ws2 := wl_w E am o f G1 mr.2) (zy_ap5 _ _).symm ?_
  refine zz_iload cx dn_XL_law_217 rfl ?_
  refine zz_icmp_eq_t cx (tgt := 224) dn_XL_law_219 (by decide) rfl ?_
  refine zz_iload cx dn_XL_law_224 rfl ?_
  refine zz_if_ne_t cx (tgt := 241) dn_XL_law_226 (by decide) (by decide) ?_
  refine zz_goto cx dn_XL_law_241 (tgt := 926) (by decide) ?_
  refine zz_less (L2 := wl_L E am o b i) ⟨rfl, rfl, rfl, rfl, rfl, trivial⟩ ?_
  exact k
set_option maxHeartbeats 4000000 in
set_option maxRecDepth 100000 in
theorem zl_repeat_t2 (E : ze_T) (am : Nat → Nat) (o b L : Nat) (xs : Nat → Int32) (X : zx_T) (cx : zx (zF E) X code rn_XL room_1 7) (sx : zs_ok X b L xs) (hx9 : zh_ok X) (c s : Nat) (hf0 : c ≤ room_1.cells ∧ s ≤ room_1.slots) (f : Nat → Int64) (G Gm : gs_T) (i : Int32) (y1 : Int32) (h1 : vp_in (i + 1) L) (e1 : xs (i + 1).toNatClampNeg = y1) (y2 : Int32) (h2 : vp_in (i + 2) L) (e2 : xs (i + 2).toNatClampNeg = y2) (y3 : Int32) (h3 : vp_in (i + 3) L) (e3 : xs (i + 3).toNatClampNeg = y3) (n : Nat) (k9 : Nat) (hf1 : c + 1 ≤ room_1.cells ∧ s + 6 ≤ room_1.slots) (hl : (zF E).1.stackTraces = false) (G1 : gs_T) (hc : cR_repeat n G y1 y2 y3 = some (.inr 2, G1)) (mr : Int32 × gs_T) (hm : mM_repeat k9 Gm y1 y2 y3 = some mr) (ht : mM_thrown mr.2 = some (2 : Int32)) (k : zj (zF E) X (c + 1) (s + 6) (wl_w E am o f G1 mr.2) 926 (wl_L E am o b i) []) : zj (zF E) X c s (wl_w E am o f G Gm) 164 (wl_L E am o b i) [] := by
  refine zz_aload_n cx dn_XL_law_164 rfl rfl ?_
  refine zz_aload_n cx dn_XL_law_165 rfl rfl ?_
  refine zz_iload cx dn_XL_law_166 rfl ?_
  refine zz_iconst cx dn_XL_law_168 (v := (1 : Int32)) (by decide) ?_
  refine zz_iadd cx dn_XL_law_169 ?_
  refine zz_sld cx sx h1 e1 dn_XL_law_170 ?_
  refine zz_aload_n cx dn_XL_law_171 rfl rfl ?_
  refine zz_iload cx dn_XL_law_172 rfl ?_
  refine zz_iconst cx dn_XL_law_174 (v := (2 : Int32)) (by decide) ?_
  refine zz_iadd cx dn_XL_law_175 ?_
  refine zz_sld cx sx h2 e2 dn_XL_law_176 ?_
  refine zz_aload_n cx dn_XL_law_177 rfl rfl ?_
  refine zz_iload cx dn_XL_law_178 rfl ?_
  refine zz_iconst cx dn_XL_law_180 (v := (3 : Int32)) (by decide) ?_
  refine zz_iadd cx dn_XL_law_181 ?_
  refine zz_sld cx sx h3 e3 dn_XL_law_182 ?_
  refine zz_aload_n cx dn_XL_law_183 rfl rfl ?_
  refine zy_callW cx (wl := []) (wr := wc_m (ze_ad E am) Gm) (As := [.ref (ad_p E 0), .int y1, .int y2, .int y3, .ref o]) (rest := []) (hh9 := []) (n := 5) (zh_repeat_t2 E o f n G y1 y2 y3 G1 hl hc) (zy_ap6 _ _) hx9 zo_XL zw_repeat (by decide) (by decide +kernel) zk_XL_71 zs_XL_repeat (by decide) rfl (Nat.le_of_ble_eq_true rfl) (c2 := (c + 1)) (s2 := (s + 6)) rfl rfl hf1 (zy_ad2 (wc_c_addr E _ _)) dn_XL_law_184 ?_
  refine zy_eq (ws2 := wl_w E am o f G1 Gm) rfl ?_
  refine zz_istore cx dn_XL_law_187 (by decide) rfl ?_
  refine zz_aload_n cx dn_XL_law_189 rfl rfl ?_
  refine zz_aload_n cx dn_XL_law_190 rfl rfl ?_
  refine zz_iload cx dn_XL_law_191 rfl ?_
  refine zz_iconst cx dn_XL_law_193 (v := (1 : Int32)) (by decide) ?_
  refine zz_iadd cx dn_XL_law_194 ?_
  refine zz_sld cx sx h1 e1 dn_XL_law_195 ?_
  refine zz_aload_n cx dn_XL_law_196 rfl rfl ?_
  refine zz_iload cx dn_XL_law_197 rfl ?_
  refine zz_iconst cx dn_XL_law_199 (v := (2 : Int32)) (by decide) ?_
  refine zz_iadd cx dn_XL_law_200 ?_
  refine zz_sld cx sx h2 e2 dn_XL_law_201 ?_
  refine zz_aload_n cx dn_XL_law_202 rfl rfl ?_
  refine zz_iload cx dn_XL_law_203 rfl ?_
  refine zz_iconst cx dn_XL_law_205 (v := (3 : Int32)) (by decide) ?_
  refine zz_iadd cx dn_XL_law_206 ?_
  refine zz_sld cx sx h3 e3 dn_XL_law_207 ?_
  refine zy_callVi cx (wl := wo_e E o f :: wc_c E G1) (wr := []) (As := [.int y1, .int y2, .int y3]) (rest := []) (z_mM_repeat (ze_ad E am) k9 Gm y1 y2 y3 mr hm) (zy_ap5 _ _) zm_X4_repeat zk_XL_74 zv_X4_repeat 0 (ci := 4) rfl rfl (by decide) rfl (Nat.le_of_ble_eq_true rfl) (c2 := (c + 1)) (s2 := (s + 6)) rfl rfl hf1 (wc_m_addr _ _ _) dn_XL_law_208 ?_
  refine zy_eq (ws2 := wl_w E am o f G1 mr.2) (zy_ap5 _ _).symm ?_
  refine zz_istore cx dn_XL_law_211 (by decide) rfl ?_
  refine zz_aload_n cx dn_XL_law_213 rfl rfl ?_
  refine zy_callVi cx (wl := wo_e E o f :: wc_c E G1) (wr := []) (As := []) (rest := []) (z_mM_thrown (ze_ad E am) mr.2 _ ht) (zy_ap5 _ _) zm_X4_thrown zk_XL_67 zv_X4_thrown 0 (ci := 4) rfl rfl (by decide) rfl (Nat.le_of_ble_eq_true rfl) (c2 := (c + 1)) (s2 := (s + 6)) rfl rfl hf1 (wc_m_addr _ _ _) dn_XL_law_214 ?_
  refine zy_eq (ws2 := wl_w E am o f G1 mr.2) (zy_ap5 _ _).symm ?_
  refine zz_iload cx dn_XL_law_217 rfl ?_
  refine zz_icmp_eq_t cx (tgt := 224) dn_XL_law_219 (by decide) rfl ?_
  refine zz_iload cx dn_XL_law_224 rfl ?_
  refine zz_if_ne_t cx (tgt := 241) dn_XL_law_226 (by decide) (by decide) ?_
  refine zz_goto cx dn_XL_law_241 (tgt := 926) (by decide) ?_
  refine zz_less (L2 := wl_L E am o b i) ⟨rfl, rfl, rfl, rfl, rfl, trivial⟩ ?_
  exact k
set_option maxHeartbeats 4000000 in
set_option maxRecDepth 100000 in
theorem zl_repeat_t0 (E : ze_T) (am : Nat → Nat) (o b L : Nat) (xs : Nat → Int32) (X : zx_T) (cx : zx (zF E) X code rn_XL room_1 7) (sx : zs_ok X b L xs) (hx9 : zh_ok X) (c s : Nat) (hf0 : c ≤ room_1.cells ∧ s ≤ room_1.slots) (f : Nat → Int64) (G Gm : gs_T) (i : Int32) (y1 : Int32) (h1 : vp_in (i + 1) L) (e1 : xs (i + 1).toNatClampNeg = y1) (y2 : Int32) (h2 : vp_in (i + 2) L) (e2 : xs (i + 2).toNatClampNeg = y2) (y3 : Int32) (h3 : vp_in (i + 3) L) (e3 : xs (i + 3).toNatClampNeg = y3) (n : Nat) (k9 : Nat) (hf1 : c + 1 ≤ room_1.cells ∧ s + 6 ≤ room_1.slots) (hl : (zF E).1.stackTraces = false) (G1 : gs_T) (hc : cR_repeat n G y1 y2 y3 = some (.inr 0, G1)) (mr : Int32 × gs_T) (hm : mM_repeat k9 Gm y1 y2 y3 = some mr) (ht : mM_thrown mr.2 = some (3 : Int32)) (k : zj (zF E) X (c + 1) (s + 6) (wl_w E am o f G1 mr.2) 926 (wl_L E am o b i) []) : zj (zF E) X c s (wl_w E am o f G Gm) 164 (wl_L E am o b i) [] := by
  refine zz_aload_n cx dn_XL_law_164 rfl rfl ?_
  refine zz_aload_n cx dn_XL_law_165 rfl rfl ?_
  refine zz_iload cx dn_XL_law_166 rfl ?_
  refine zz_iconst cx dn_XL_law_168 (v := (1 : Int32)) (by decide) ?_
  refine zz_iadd cx dn_XL_law_169 ?_
  refine zz_sld cx sx h1 e1 dn_XL_law_170 ?_
  refine zz_aload_n cx dn_XL_law_171 rfl rfl ?_
  refine zz_iload cx dn_XL_law_172 rfl ?_
  refine zz_iconst cx dn_XL_law_174 (v := (2 : Int32)) (by decide) ?_
  refine zz_iadd cx dn_XL_law_175 ?_
  refine zz_sld cx sx h2 e2 dn_XL_law_176 ?_
  refine zz_aload_n cx dn_XL_law_177 rfl rfl ?_
  refine zz_iload cx dn_XL_law_178 rfl ?_
  refine zz_iconst cx dn_XL_law_180 (v := (3 : Int32)) (by decide) ?_
  refine zz_iadd cx dn_XL_law_181 ?_
  refine zz_sld cx sx h3 e3 dn_XL_law_182 ?_
  refine zz_aload_n cx dn_XL_law_183 rfl rfl ?_
  refine zy_callW cx (wl := []) (wr := wc_m (ze_ad E am) Gm) (As := [.ref (ad_p E 0), .int y1, .int y2, .int y3, .ref o]) (rest := []) (hh9 := []) (n := 5) (zh_repeat_t0 E o f n G y1 y2 y3 G1 hl hc) (zy_ap6 _ _) hx9 zo_XL zw_repeat (by decide) (by decide +kernel) zk_XL_71 zs_XL_repeat (by decide) rfl (Nat.le_of_ble_eq_true rfl) (c2 := (c + 1)) (s2 := (s + 6)) rfl rfl hf1 (zy_ad2 (wc_c_addr E _ _)) dn_XL_law_184 ?_
  refine zy_eq (ws2 := wl_w E am o f G1 Gm) rfl ?_
  refine zz_istore cx dn_XL_law_187 (by decide) rfl ?_
  refine zz_aload_n cx dn_XL_law_189 rfl rfl ?_
  refine zz_aload_n cx dn_XL_law_190 rfl rfl ?_
  refine zz_iload cx dn_XL_law_191 rfl ?_
  refine zz_iconst cx dn_XL_law_193 (v := (1 : Int32)) (by decide) ?_
  refine zz_iadd cx dn_XL_law_194 ?_
  refine zz_sld cx sx h1 e1 dn_XL_law_195 ?_
  refine zz_aload_n cx dn_XL_law_196 rfl rfl ?_
  refine zz_iload cx dn_XL_law_197 rfl ?_
  refine zz_iconst cx dn_XL_law_199 (v := (2 : Int32)) (by decide) ?_
  refine zz_iadd cx dn_XL_law_200 ?_
  refine zz_sld cx sx h2 e2 dn_XL_law_201 ?_
  refine zz_aload_n cx dn_XL_law_202 rfl rfl ?_
  refine zz_iload cx dn_XL_law_203 rfl ?_
  refine zz_iconst cx dn_XL_law_205 (v := (3 : Int32)) (by decide) ?_
  refine zz_iadd cx dn_XL_law_206 ?_
  refine zz_sld cx sx h3 e3 dn_XL_law_207 ?_
  refine zy_callVi cx (wl := wo_e E o f :: wc_c E G1) (wr := []) (As := [.int y1, .int y2, .int y3]) (rest := []) (z_mM_repeat (ze_ad E am) k9 Gm y1 y2 y3 mr hm) (zy_ap5 _ _) zm_X4_repeat zk_XL_74 zv_X4_repeat 0 (ci := 4) rfl rfl (by decide) rfl (Nat.le_of_ble_eq_true rfl) (c2 := (c + 1)) (s2 := (s + 6)) rfl rfl hf1 (wc_m_addr _ _ _) dn_XL_law_208 ?_
  refine zy_eq (ws2 := wl_w E am o f G1 mr.2) (zy_ap5 _ _).symm ?_
  refine zz_istore cx dn_XL_law_211 (by decide) rfl ?_
  refine zz_aload_n cx dn_XL_law_213 rfl rfl ?_
  refine zy_callVi cx (wl := wo_e E o f :: wc_c E G1) (wr := []) (As := []) (rest := []) (z_mM_thrown (ze_ad E am) mr.2 _ ht) (zy_ap5 _ _) zm_X4_thrown zk_XL_67 zv_X4_thrown 0 (ci := 4) rfl rfl (by decide) rfl (Nat.le_of_ble_eq_true rfl) (c2 := (c + 1)) (s2 := (s + 6)) rfl rfl hf1 (wc_m_addr _ _ _) dn_XL_law_214 ?_
  refine zy_eq (ws2 := wl_w E am o f G1 mr.2) (zy_ap5 _ _).symm ?_
  refine zz_iload cx dn_XL_law_217 rfl ?_
  refine zz_icmp_eq_t cx (tgt := 224) dn_XL_law_219 (by decide) rfl ?_
  refine zz_iload cx dn_XL_law_224 rfl ?_
  refine zz_if_ne_t cx (tgt := 241) dn_XL_law_226 (by decide) (by decide) ?_
  refine zz_goto cx dn_XL_law_241 (tgt := 926) (by decide) ?_
  refine zz_less (L2 := wl_L E am o b i) ⟨rfl, rfl, rfl, rfl, rfl, trivial⟩ ?_
  exact k
set_option maxHeartbeats 4000000 in
set_option maxRecDepth 100000 in
theorem zl_ending_r (E : ze_T) (am : Nat → Nat) (o b L : Nat) (xs : Nat → Int32) (X : zx_T) (cx : zx (zF E) X code rn_XL room_1 7) (sx : zs_ok X b L xs) (hx9 : zh_ok X) (c s : Nat) (hf0 : c ≤ room_1.cells ∧ s ≤ room_1.slots) (f : Nat → Int64) (G Gm : gs_T) (i : Int32) (y1 : Int32) (h1 : vp_in (i + 1) L) (e1 : xs (i + 1).toNatClampNeg = y1) (y2 : Int32) (h2 : vp_in (i + 2) L) (e2 : xs (i + 2).toNatClampNeg = y2) (y3 : Int32) (h3 : vp_in (i + 3) L) (e3 : xs (i + 3).toNatClampNeg = y3) (y4 : Int32) (h4 : vp_in (i + 4) L) (e4 : xs (i + 4).toNatClampNeg = y4) (n : Nat) (k9 : Nat) (rv : Int32) (G1 : gs_T) (hc : cR_ending n G y1 y2 y3 y4 = some (.inl rv, G1)) (mr : Int32 × gs_T) (hm : mM_ending k9 Gm y1 y2 y3 y4 = some mr) (ht : mM_thrown mr.2 = some (0 : Int32)) (hv : rv = mr.1) (k : zj (zF E) X c s (wl_w E am o (vp_updL f 0 rv.toInt64) G1 mr.2) 926 (wl_L E am o b i) []) : zj (zF E) X c s (wl_w E am o f G Gm) 244 (wl_L E am o b i) [] := by
  refine zz_aload_n cx dn_XL_law_244 rfl rfl ?_
  refine zz_aload_n cx dn_XL_law_245 rfl rfl ?_
  refine zz_iload cx dn_XL_law_246 rfl ?_
  refine zz_iconst cx dn_XL_law_248 (v := (1 : Int32)) (by decide) ?_
  refine zz_iadd cx dn_XL_law_249 ?_
  refine zz_sld cx sx h1 e1 dn_XL_law_250 ?_
  refine zz_aload_n cx dn_XL_law_251 rfl rfl ?_
  refine zz_iload cx dn_XL_law_252 rfl ?_
  refine zz_iconst cx dn_XL_law_254 (v := (2 : Int32)) (by decide) ?_
  refine zz_iadd cx dn_XL_law_255 ?_
  refine zz_sld cx sx h2 e2 dn_XL_law_256 ?_
  refine zz_aload_n cx dn_XL_law_257 rfl rfl ?_
  refine zz_iload cx dn_XL_law_258 rfl ?_
  refine zz_iconst cx dn_XL_law_260 (v := (3 : Int32)) (by decide) ?_
  refine zz_iadd cx dn_XL_law_261 ?_
  refine zz_sld cx sx h3 e3 dn_XL_law_262 ?_
  refine zz_aload_n cx dn_XL_law_263 rfl rfl ?_
  refine zz_iload cx dn_XL_law_264 rfl ?_
  refine zz_iconst cx dn_XL_law_266 (v := (4 : Int32)) (by decide) ?_
  refine zz_iadd cx dn_XL_law_267 ?_
  refine zz_sld cx sx h4 e4 dn_XL_law_268 ?_
  refine zz_aload_n cx dn_XL_law_269 rfl rfl ?_
  refine zy_callW cx (wl := []) (wr := wc_m (ze_ad E am) Gm) (As := [.ref (ad_p E 0), .int y1, .int y2, .int y3, .int y4, .ref o]) (rest := []) (hh9 := []) (n := 6) (zh_ending_r E o f n G y1 y2 y3 y4 rv G1 hc) (zy_ap6 _ _) hx9 zo_XL zw_ending (by decide) (by decide +kernel) zk_XL_75 zs_XL_ending (by decide) rfl (Nat.le_of_ble_eq_true rfl) (c2 := c) (s2 := s) rfl rfl hf0 (zy_ad2 (wc_c_addr E _ _)) dn_XL_law_270 ?_
  refine zy_eq (ws2 := wl_w E am o (vp_updL f 0 rv.toInt64) G1 Gm) rfl ?_
  refine zz_istore cx dn_XL_law_273 (by decide) rfl ?_
  refine zz_aload_n cx dn_XL_law_275 rfl rfl ?_
  refine zz_aload_n cx dn_XL_law_276 rfl rfl ?_
  refine zz_iload cx dn_XL_law_277 rfl ?_
  refine zz_iconst cx dn_XL_law_279 (v := (1 : Int32)) (by decide) ?_
  refine zz_iadd cx dn_XL_law_280 ?_
  refine zz_sld cx sx h1 e1 dn_XL_law_281 ?_
  refine zz_aload_n cx dn_XL_law_282 rfl rfl ?_
  refine zz_iload cx dn_XL_law_283 rfl ?_
  refine zz_iconst cx dn_XL_law_285 (v := (2 : Int32)) (by decide) ?_
  refine zz_iadd cx dn_XL_law_286 ?_
  refine zz_sld cx sx h2 e2 dn_XL_law_287 ?_
  refine zz_aload_n cx dn_XL_law_288 rfl rfl ?_
  refine zz_iload cx dn_XL_law_289 rfl ?_
  refine zz_iconst cx dn_XL_law_291 (v := (3 : Int32)) (by decide) ?_
  refine zz_iadd cx dn_XL_law_292 ?_
  refine zz_sld cx sx h3 e3 dn_XL_law_293 ?_
  refine zz_aload_n cx dn_XL_law_294 rfl rfl ?_
  refine zz_iload cx dn_XL_law_295 rfl ?_
  refine zz_iconst cx dn_XL_law_297 (v := (4 : Int32)) (by decide) ?_
  refine zz_iadd cx dn_XL_law_298 ?_
  refine zz_sld cx sx h4 e4 dn_XL_law_299 ?_
  refine zy_callVi cx (wl := wo_e E o (vp_updL f 0 rv.toInt64) :: wc_c E G1) (wr := []) (As := [.int y1, .int y2, .int y3, .int y4]) (rest := []) (z_mM_ending (ze_ad E am) k9 Gm y1 y2 y3 y4 mr hm) (zy_ap5 _ _) zm_X4_ending zk_XL_78 zv_X4_ending 0 (ci := 4) rfl rfl (by decide) rfl (Nat.le_of_ble_eq_true rfl) (c2 := c) (s2 := s) rfl rfl hf0 (wc_m_addr _ _ _) dn_XL_law_300 ?_
  refine zy_eq (ws2 := wl_w E am o (vp_updL f 0 rv.toInt64) G1 mr.2) (zy_ap5 _ _).symm ?_
  refine zz_istore cx dn_XL_law_303 (by decide) rfl ?_
  refine zz_aload_n cx dn_XL_law_305 rfl rfl ?_
  refine zy_callVi cx (wl := wo_e E o (vp_updL f 0 rv.toInt64) :: wc_c E G1) (wr := []) (As := []) (rest := []) (z_mM_thrown (ze_ad E am) mr.2 _ ht) (zy_ap5 _ _) zm_X4_thrown zk_XL_67 zv_X4_thrown 0 (ci := 4) rfl rfl (by decide) rfl (Nat.le_of_ble_eq_true rfl) (c2 := c) (s2 := s) rfl rfl hf0 (wc_m_addr _ _ _) dn_XL_law_306 ?_
  refine zy_eq (ws2 := wl_w E am o (vp_updL f 0 rv.toInt64) G1 mr.2) (zy_ap5 _ _).symm ?_
  refine zz_iload cx dn_XL_law_309 rfl ?_
  refine zz_icmp_eq_t cx (tgt := 316) dn_XL_law_311 (by decide) rfl ?_
  refine zz_iload cx dn_XL_law_316 rfl ?_
  refine zz_if_ne_f cx (tgt := 333) dn_XL_law_318 (by decide) (by decide) ?_
  refine zz_aload_n cx dn_XL_law_321 rfl rfl ?_
  refine zz_iconst cx dn_XL_law_322 (v := (0 : Int32)) (by decide) ?_
  refine zz_lald cx 0 2 rfl rfl zi_01 (zy_up0 _ _) dn_XL_law_323 ?_
  refine zz_iload cx dn_XL_law_324 rfl ?_
  refine zz_i2l cx dn_XL_law_326 ?_
  refine zz_lcmp cx dn_XL_law_327 ?_
  rw [show lg_cmp rv.toInt64 mr.1.toInt64 = 0 by rw [hv, zy_cmp]]
  refine zz_if_eq_t cx (tgt := 333) dn_XL_law_328 (by decide) rfl ?_
  refine zz_goto cx dn_XL_law_333 (tgt := 926) (by decide) ?_
  refine zz_less (L2 := wl_L E am o b i) ⟨rfl, rfl, rfl, rfl, rfl, trivial⟩ ?_
  exact k
set_option maxHeartbeats 4000000 in
set_option maxRecDepth 100000 in
theorem zl_ending_t1 (E : ze_T) (am : Nat → Nat) (o b L : Nat) (xs : Nat → Int32) (X : zx_T) (cx : zx (zF E) X code rn_XL room_1 7) (sx : zs_ok X b L xs) (hx9 : zh_ok X) (c s : Nat) (hf0 : c ≤ room_1.cells ∧ s ≤ room_1.slots) (f : Nat → Int64) (G Gm : gs_T) (i : Int32) (y1 : Int32) (h1 : vp_in (i + 1) L) (e1 : xs (i + 1).toNatClampNeg = y1) (y2 : Int32) (h2 : vp_in (i + 2) L) (e2 : xs (i + 2).toNatClampNeg = y2) (y3 : Int32) (h3 : vp_in (i + 3) L) (e3 : xs (i + 3).toNatClampNeg = y3) (y4 : Int32) (h4 : vp_in (i + 4) L) (e4 : xs (i + 4).toNatClampNeg = y4) (n : Nat) (k9 : Nat) (hf1 : c + 1 ≤ room_1.cells ∧ s + 6 ≤ room_1.slots) (hl : (zF E).1.stackTraces = false) (G1 : gs_T) (hc : cR_ending n G y1 y2 y3 y4 = some (.inr 1, G1)) (mr : Int32 × gs_T) (hm : mM_ending k9 Gm y1 y2 y3 y4 = some mr) (ht : mM_thrown mr.2 = some (1 : Int32)) (k : zj (zF E) X (c + 1) (s + 6) (wl_w E am o f G1 mr.2) 926 (wl_L E am o b i) []) : zj (zF E) X c s (wl_w E am o f G Gm) 244 (wl_L E am o b i) [] := by
  refine zz_aload_n cx dn_XL_law_244 rfl rfl ?_
  refine zz_aload_n cx dn_XL_law_245 rfl rfl ?_
  refine zz_iload cx dn_XL_law_246 rfl ?_
  refine zz_iconst cx dn_XL_law_248 (v := (1 : Int32)) (by decide) ?_
  refine zz_iadd cx dn_XL_law_249 ?_
  refine zz_sld cx sx h1 e1 dn_XL_law_250 ?_
  refine zz_aload_n cx dn_XL_law_251 rfl rfl ?_
  refine zz_iload cx dn_XL_law_252 rfl ?_
  refine zz_iconst cx dn_XL_law_254 (v := (2 : Int32)) (by decide) ?_
  refine zz_iadd cx dn_XL_law_255 ?_
  refine zz_sld cx sx h2 e2 dn_XL_law_256 ?_
  refine zz_aload_n cx dn_XL_law_257 rfl rfl ?_
  refine zz_iload cx dn_XL_law_258 rfl ?_
  refine zz_iconst cx dn_XL_law_260 (v := (3 : Int32)) (by decide) ?_
  refine zz_iadd cx dn_XL_law_261 ?_
  refine zz_sld cx sx h3 e3 dn_XL_law_262 ?_
  refine zz_aload_n cx dn_XL_law_263 rfl rfl ?_
  refine zz_iload cx dn_XL_law_264 rfl ?_
  refine zz_iconst cx dn_XL_law_266 (v := (4 : Int32)) (by decide) ?_
  refine zz_iadd cx dn_XL_law_267 ?_
  refine zz_sld cx sx h4 e4 dn_XL_law_268 ?_
  refine zz_aload_n cx dn_XL_law_269 rfl rfl ?_
  refine zy_callW cx (wl := []) (wr := wc_m (ze_ad E am) Gm) (As := [.ref (ad_p E 0), .int y1, .int y2, .int y3, .int y4, .ref o]) (rest := []) (hh9 := []) (n := 6) (zh_ending_t1 E o f n G y1 y2 y3 y4 G1 hl hc) (zy_ap6 _ _) hx9 zo_XL zw_ending (by decide) (by decide +kernel) zk_XL_75 zs_XL_ending (by decide) rfl (Nat.le_of_ble_eq_true rfl) (c2 := (c + 1)) (s2 := (s + 6)) rfl rfl hf1 (zy_ad2 (wc_c_addr E _ _)) dn_XL_law_270 ?_
  refine zy_eq (ws2 := wl_w E am o f G1 Gm) rfl ?_
  refine zz_istore cx dn_XL_law_273 (by decide) rfl ?_
  refine zz_aload_n cx dn_XL_law_275 rfl rfl ?_
  refine zz_aload_n cx dn_XL_law_276 rfl rfl ?_
  refine zz_iload cx dn_XL_law_277 rfl ?_
  refine zz_iconst cx dn_XL_law_279 (v := (1 : Int32)) (by decide) ?_
  refine zz_iadd cx dn_XL_law_280 ?_
  refine zz_sld cx sx h1 e1 dn_XL_law_281 ?_
  refine zz_aload_n cx dn_XL_law_282 rfl rfl ?_
  refine zz_iload cx dn_XL_law_283 rfl ?_
  refine zz_iconst cx dn_XL_law_285 (v := (2 : Int32)) (by decide) ?_
  refine zz_iadd cx dn_XL_law_286 ?_
  refine zz_sld cx sx h2 e2 dn_XL_law_287 ?_
  refine zz_aload_n cx dn_XL_law_288 rfl rfl ?_
  refine zz_iload cx dn_XL_law_289 rfl ?_
  refine zz_iconst cx dn_XL_law_291 (v := (3 : Int32)) (by decide) ?_
  refine zz_iadd cx dn_XL_law_292 ?_
  refine zz_sld cx sx h3 e3 dn_XL_law_293 ?_
  refine zz_aload_n cx dn_XL_law_294 rfl rfl ?_
  refine zz_iload cx dn_XL_law_295 rfl ?_
  refine zz_iconst cx dn_XL_law_297 (v := (4 : Int32)) (by decide) ?_
  refine zz_iadd cx dn_XL_law_298 ?_
  refine zz_sld cx sx h4 e4 dn_XL_law_299 ?_
  refine zy_callVi cx (wl := wo_e E o f :: wc_c E G1) (wr := []) (As := [.int y1, .int y2, .int y3, .int y4]) (rest := []) (z_mM_ending (ze_ad E am) k9 Gm y1 y2 y3 y4 mr hm) (zy_ap5 _ _) zm_X4_ending zk_XL_78 zv_X4_ending 0 (ci := 4) rfl rfl (by decide) rfl (Nat.le_of_ble_eq_true rfl) (c2 := (c + 1)) (s2 := (s + 6)) rfl rfl hf1 (wc_m_addr _ _ _) dn_XL_law_300 ?_
  refine zy_eq (ws2 := wl_w E am o f G1 mr.2) (zy_ap5 _ _).symm ?_
  refine zz_istore cx dn_XL_law_303 (by decide) rfl ?_
  refine zz_aload_n cx dn_XL_law_305 rfl rfl ?_
  refine zy_callVi cx (wl := wo_e E o f :: wc_c E G1) (wr := []) (As := []) (rest := []) (z_mM_thrown (ze_ad E am) mr.2 _ ht) (zy_ap5 _ _) zm_X4_thrown zk_XL_67 zv_X4_thrown 0 (ci := 4) rfl rfl (by decide) rfl (Nat.le_of_ble_eq_true rfl) (c2 := (c + 1)) (s2 := (s + 6)) rfl rfl hf1 (wc_m_addr _ _ _) dn_XL_law_306 ?_
  refine zy_eq (ws2 := wl_w E am o f G1 mr.2) (zy_ap5 _ _).symm ?_
  refine zz_iload cx dn_XL_law_309 rfl ?_
  refine zz_icmp_eq_t cx (tgt := 316) dn_XL_law_311 (by decide) rfl ?_
  refine zz_iload cx dn_XL_law_316 rfl ?_
  refine zz_if_ne_t cx (tgt := 333) dn_XL_law_318 (by decide) (by decide) ?_
  refine zz_goto cx dn_XL_law_333 (tgt := 926) (by decide) ?_
  refine zz_less (L2 := wl_L E am o b i) ⟨rfl, rfl, rfl, rfl, rfl, trivial⟩ ?_
  exact k
set_option maxHeartbeats 4000000 in
set_option maxRecDepth 100000 in
theorem zl_ending_t2 (E : ze_T) (am : Nat → Nat) (o b L : Nat) (xs : Nat → Int32) (X : zx_T) (cx : zx (zF E) X code rn_XL room_1 7) (sx : zs_ok X b L xs) (hx9 : zh_ok X) (c s : Nat) (hf0 : c ≤ room_1.cells ∧ s ≤ room_1.slots) (f : Nat → Int64) (G Gm : gs_T) (i : Int32) (y1 : Int32) (h1 : vp_in (i + 1) L) (e1 : xs (i + 1).toNatClampNeg = y1) (y2 : Int32) (h2 : vp_in (i + 2) L) (e2 : xs (i + 2).toNatClampNeg = y2) (y3 : Int32) (h3 : vp_in (i + 3) L) (e3 : xs (i + 3).toNatClampNeg = y3) (y4 : Int32) (h4 : vp_in (i + 4) L) (e4 : xs (i + 4).toNatClampNeg = y4) (n : Nat) (k9 : Nat) (hf1 : c + 1 ≤ room_1.cells ∧ s + 6 ≤ room_1.slots) (hl : (zF E).1.stackTraces = false) (G1 : gs_T) (hc : cR_ending n G y1 y2 y3 y4 = some (.inr 2, G1)) (mr : Int32 × gs_T) (hm : mM_ending k9 Gm y1 y2 y3 y4 = some mr) (ht : mM_thrown mr.2 = some (2 : Int32)) (k : zj (zF E) X (c + 1) (s + 6) (wl_w E am o f G1 mr.2) 926 (wl_L E am o b i) []) : zj (zF E) X c s (wl_w E am o f G Gm) 244 (wl_L E am o b i) [] := by
  refine zz_aload_n cx dn_XL_law_244 rfl rfl ?_
  refine zz_aload_n cx dn_XL_law_245 rfl rfl ?_
  refine zz_iload cx dn_XL_law_246 rfl ?_
  refine zz_iconst cx dn_XL_law_248 (v := (1 : Int32)) (by decide) ?_
  refine zz_iadd cx dn_XL_law_249 ?_
  refine zz_sld cx sx h1 e1 dn_XL_law_250 ?_
  refine zz_aload_n cx dn_XL_law_251 rfl rfl ?_
  refine zz_iload cx dn_XL_law_252 rfl ?_
  refine zz_iconst cx dn_XL_law_254 (v := (2 : Int32)) (by decide) ?_
  refine zz_iadd cx dn_XL_law_255 ?_
  refine zz_sld cx sx h2 e2 dn_XL_law_256 ?_
  refine zz_aload_n cx dn_XL_law_257 rfl rfl ?_
  refine zz_iload cx dn_XL_law_258 rfl ?_
  refine zz_iconst cx dn_XL_law_260 (v := (3 : Int32)) (by decide) ?_
  refine zz_iadd cx dn_XL_law_261 ?_
  refine zz_sld cx sx h3 e3 dn_XL_law_262 ?_
  refine zz_aload_n cx dn_XL_law_263 rfl rfl ?_
  refine zz_iload cx dn_XL_law_264 rfl ?_
  refine zz_iconst cx dn_XL_law_266 (v := (4 : Int32)) (by decide) ?_
  refine zz_iadd cx dn_XL_law_267 ?_
  refine zz_sld cx sx h4 e4 dn_XL_law_268 ?_
  refine zz_aload_n cx dn_XL_law_269 rfl rfl ?_
  refine zy_callW cx (wl := []) (wr := wc_m (ze_ad E am) Gm) (As := [.ref (ad_p E 0), .int y1, .int y2, .int y3, .int y4, .ref o]) (rest := []) (hh9 := []) (n := 6) (zh_ending_t2 E o f n G y1 y2 y3 y4 G1 hl hc) (zy_ap6 _ _) hx9 zo_XL zw_ending (by decide) (by decide +kernel) zk_XL_75 zs_XL_ending (by decide) rfl (Nat.le_of_ble_eq_true rfl) (c2 := (c + 1)) (s2 := (s + 6)) rfl rfl hf1 (zy_ad2 (wc_c_addr E _ _)) dn_XL_law_270 ?_
  refine zy_eq (ws2 := wl_w E am o f G1 Gm) rfl ?_
  refine zz_istore cx dn_XL_law_273 (by decide) rfl ?_
  refine zz_aload_n cx dn_XL_law_275 rfl rfl ?_
  refine zz_aload_n cx dn_XL_law_276 rfl rfl ?_
  refine zz_iload cx dn_XL_law_277 rfl ?_
  refine zz_iconst cx dn_XL_law_279 (v := (1 : Int32)) (by decide) ?_
  refine zz_iadd cx dn_XL_law_280 ?_
  refine zz_sld cx sx h1 e1 dn_XL_law_281 ?_
  refine zz_aload_n cx dn_XL_law_282 rfl rfl ?_
  refine zz_iload cx dn_XL_law_283 rfl ?_
  refine zz_iconst cx dn_XL_law_285 (v := (2 : Int32)) (by decide) ?_
  refine zz_iadd cx dn_XL_law_286 ?_
  refine zz_sld cx sx h2 e2 dn_XL_law_287 ?_
  refine zz_aload_n cx dn_XL_law_288 rfl rfl ?_
  refine zz_iload cx dn_XL_law_289 rfl ?_
  refine zz_iconst cx dn_XL_law_291 (v := (3 : Int32)) (by decide) ?_
  refine zz_iadd cx dn_XL_law_292 ?_
  refine zz_sld cx sx h3 e3 dn_XL_law_293 ?_
  refine zz_aload_n cx dn_XL_law_294 rfl rfl ?_
  refine zz_iload cx dn_XL_law_295 rfl ?_
  refine zz_iconst cx dn_XL_law_297 (v := (4 : Int32)) (by decide) ?_
  refine zz_iadd cx dn_XL_law_298 ?_
  refine zz_sld cx sx h4 e4 dn_XL_law_299 ?_
  refine zy_callVi cx (wl := wo_e E o f :: wc_c E G1) (wr := []) (As := [.int y1, .int y2, .int y3, .int y4]) (rest := []) (z_mM_ending (ze_ad E am) k9 Gm y1 y2 y3 y4 mr hm) (zy_ap5 _ _) zm_X4_ending zk_XL_78 zv_X4_ending 0 (ci := 4) rfl rfl (by decide) rfl (Nat.le_of_ble_eq_true rfl) (c2 := (c + 1)) (s2 := (s + 6)) rfl rfl hf1 (wc_m_addr _ _ _) dn_XL_law_300 ?_
  refine zy_eq (ws2 := wl_w E am o f G1 mr.2) (zy_ap5 _ _).symm ?_
  refine zz_istore cx dn_XL_law_303 (by decide) rfl ?_
  refine zz_aload_n cx dn_XL_law_305 rfl rfl ?_
  refine zy_callVi cx (wl := wo_e E o f :: wc_c E G1) (wr := []) (As := []) (rest := []) (z_mM_thrown (ze_ad E am) mr.2 _ ht) (zy_ap5 _ _) zm_X4_thrown zk_XL_67 zv_X4_thrown 0 (ci := 4) rfl rfl (by decide) rfl (Nat.le_of_ble_eq_true rfl) (c2 := (c + 1)) (s2 := (s + 6)) rfl rfl hf1 (wc_m_addr _ _ _) dn_XL_law_306 ?_
  refine zy_eq (ws2 := wl_w E am o f G1 mr.2) (zy_ap5 _ _).symm ?_
  refine zz_iload cx dn_XL_law_309 rfl ?_
  refine zz_icmp_eq_t cx (tgt := 316) dn_XL_law_311 (by decide) rfl ?_
  refine zz_iload cx dn_XL_law_316 rfl ?_
  refine zz_if_ne_t cx (tgt := 333) dn_XL_law_318 (by decide) (by decide) ?_
  refine zz_goto cx dn_XL_law_333 (tgt := 926) (by decide) ?_
  refine zz_less (L2 := wl_L E am o b i) ⟨rfl, rfl, rfl, rfl, rfl, trivial⟩ ?_
  exact k
set_option maxHeartbeats 4000000 in
set_option maxRecDepth 100000 in
theorem zl_ending_t0 (E : ze_T) (am : Nat → Nat) (o b L : Nat) (xs : Nat → Int32) (X : zx_T) (cx : zx (zF E) X code rn_XL room_1 7) (sx : zs_ok X b L xs) (hx9 : zh_ok X) (c s : Nat) (hf0 : c ≤ room_1.cells ∧ s ≤ room_1.slots) (f : Nat → Int64) (G Gm : gs_T) (i : Int32) (y1 : Int32) (h1 : vp_in (i + 1) L) (e1 : xs (i + 1).toNatClampNeg = y1) (y2 : Int32) (h2 : vp_in (i + 2) L) (e2 : xs (i + 2).toNatClampNeg = y2) (y3 : Int32) (h3 : vp_in (i + 3) L) (e3 : xs (i + 3).toNatClampNeg = y3) (y4 : Int32) (h4 : vp_in (i + 4) L) (e4 : xs (i + 4).toNatClampNeg = y4) (n : Nat) (k9 : Nat) (hf1 : c + 1 ≤ room_1.cells ∧ s + 6 ≤ room_1.slots) (hl : (zF E).1.stackTraces = false) (G1 : gs_T) (hc : cR_ending n G y1 y2 y3 y4 = some (.inr 0, G1)) (mr : Int32 × gs_T) (hm : mM_ending k9 Gm y1 y2 y3 y4 = some mr) (ht : mM_thrown mr.2 = some (3 : Int32)) (k : zj (zF E) X (c + 1) (s + 6) (wl_w E am o f G1 mr.2) 926 (wl_L E am o b i) []) : zj (zF E) X c s (wl_w E am o f G Gm) 244 (wl_L E am o b i) [] := by
  refine zz_aload_n cx dn_XL_law_244 rfl rfl ?_
  refine zz_aload_n cx dn_XL_law_245 rfl rfl ?_
  refine zz_iload cx dn_XL_law_246 rfl ?_
  refine zz_iconst cx dn_XL_law_248 (v := (1 : Int32)) (by decide) ?_
  refine zz_iadd cx dn_XL_law_249 ?_
  refine zz_sld cx sx h1 e1 dn_XL_law_250 ?_
  refine zz_aload_n cx dn_XL_law_251 rfl rfl ?_
  refine zz_iload cx dn_XL_law_252 rfl ?_
  refine zz_iconst cx dn_XL_law_254 (v := (2 : Int32)) (by decide) ?_
  refine zz_iadd cx dn_XL_law_255 ?_
  refine zz_sld cx sx h2 e2 dn_XL_law_256 ?_
  refine zz_aload_n cx dn_XL_law_257 rfl rfl ?_
  refine zz_iload cx dn_XL_law_258 rfl ?_
  refine zz_iconst cx dn_XL_law_260 (v := (3 : Int32)) (by decide) ?_
  refine zz_iadd cx dn_XL_law_261 ?_
  refine zz_sld cx sx h3 e3 dn_XL_law_262 ?_
  refine zz_aload_n cx dn_XL_law_263 rfl rfl ?_
  refine zz_iload cx dn_XL_law_264 rfl ?_
  refine zz_iconst cx dn_XL_law_266 (v := (4 : Int32)) (by decide) ?_
  refine zz_iadd cx dn_XL_law_267 ?_
  refine zz_sld cx sx h4 e4 dn_XL_law_268 ?_
  refine zz_aload_n cx dn_XL_law_269 rfl rfl ?_
  refine zy_callW cx (wl := []) (wr := wc_m (ze_ad E am) Gm) (As := [.ref (ad_p E 0), .int y1, .int y2, .int y3, .int y4, .ref o]) (rest := []) (hh9 := []) (n := 6) (zh_ending_t0 E o f n G y1 y2 y3 y4 G1 hl hc) (zy_ap6 _ _) hx9 zo_XL zw_ending (by decide) (by decide +kernel) zk_XL_75 zs_XL_ending (by decide) rfl (Nat.le_of_ble_eq_true rfl) (c2 := (c + 1)) (s2 := (s + 6)) rfl rfl hf1 (zy_ad2 (wc_c_addr E _ _)) dn_XL_law_270 ?_
  refine zy_eq (ws2 := wl_w E am o f G1 Gm) rfl ?_
  refine zz_istore cx dn_XL_law_273 (by decide) rfl ?_
  refine zz_aload_n cx dn_XL_law_275 rfl rfl ?_
  refine zz_aload_n cx dn_XL_law_276 rfl rfl ?_
  refine zz_iload cx dn_XL_law_277 rfl ?_
  refine zz_iconst cx dn_XL_law_279 (v := (1 : Int32)) (by decide) ?_
  refine zz_iadd cx dn_XL_law_280 ?_
  refine zz_sld cx sx h1 e1 dn_XL_law_281 ?_
  refine zz_aload_n cx dn_XL_law_282 rfl rfl ?_
  refine zz_iload cx dn_XL_law_283 rfl ?_
  refine zz_iconst cx dn_XL_law_285 (v := (2 : Int32)) (by decide) ?_
  refine zz_iadd cx dn_XL_law_286 ?_
  refine zz_sld cx sx h2 e2 dn_XL_law_287 ?_
  refine zz_aload_n cx dn_XL_law_288 rfl rfl ?_
  refine zz_iload cx dn_XL_law_289 rfl ?_
  refine zz_iconst cx dn_XL_law_291 (v := (3 : Int32)) (by decide) ?_
  refine zz_iadd cx dn_XL_law_292 ?_
  refine zz_sld cx sx h3 e3 dn_XL_law_293 ?_
  refine zz_aload_n cx dn_XL_law_294 rfl rfl ?_
  refine zz_iload cx dn_XL_law_295 rfl ?_
  refine zz_iconst cx dn_XL_law_297 (v := (4 : Int32)) (by decide) ?_
  refine zz_iadd cx dn_XL_law_298 ?_
  refine zz_sld cx sx h4 e4 dn_XL_law_299 ?_
  refine zy_callVi cx (wl := wo_e E o f :: wc_c E G1) (wr := []) (As := [.int y1, .int y2, .int y3, .int y4]) (rest := []) (z_mM_ending (ze_ad E am) k9 Gm y1 y2 y3 y4 mr hm) (zy_ap5 _ _) zm_X4_ending zk_XL_78 zv_X4_ending 0 (ci := 4) rfl rfl (by decide) rfl (Nat.le_of_ble_eq_true rfl) (c2 := (c + 1)) (s2 := (s + 6)) rfl rfl hf1 (wc_m_addr _ _ _) dn_XL_law_300 ?_
  refine zy_eq (ws2 := wl_w E am o f G1 mr.2) (zy_ap5 _ _).symm ?_
  refine zz_istore cx dn_XL_law_303 (by decide) rfl ?_
  refine zz_aload_n cx dn_XL_law_305 rfl rfl ?_
  refine zy_callVi cx (wl := wo_e E o f :: wc_c E G1) (wr := []) (As := []) (rest := []) (z_mM_thrown (ze_ad E am) mr.2 _ ht) (zy_ap5 _ _) zm_X4_thrown zk_XL_67 zv_X4_thrown 0 (ci := 4) rfl rfl (by decide) rfl (Nat.le_of_ble_eq_true rfl) (c2 := (c + 1)) (s2 := (s + 6)) rfl rfl hf1 (wc_m_addr _ _ _) dn_XL_law_306 ?_
  refine zy_eq (ws2 := wl_w E am o f G1 mr.2) (zy_ap5 _ _).symm ?_
  refine zz_iload cx dn_XL_law_309 rfl ?_
  refine zz_icmp_eq_t cx (tgt := 316) dn_XL_law_311 (by decide) rfl ?_
  refine zz_iload cx dn_XL_law_316 rfl ?_
  refine zz_if_ne_t cx (tgt := 333) dn_XL_law_318 (by decide) (by decide) ?_
  refine zz_goto cx dn_XL_law_333 (tgt := 926) (by decide) ?_
  refine zz_less (L2 := wl_L E am o b i) ⟨rfl, rfl, rfl, rfl, rfl, trivial⟩ ?_
  exact k
set_option maxHeartbeats 4000000 in
set_option maxRecDepth 100000 in
theorem zl_sign_r (E : ze_T) (am : Nat → Nat) (o b L : Nat) (xs : Nat → Int32) (X : zx_T) (cx : zx (zF E) X code rn_XL room_1 7) (sx : zs_ok X b L xs) (hx9 : zh_ok X) (c s : Nat) (hf0 : c ≤ room_1.cells ∧ s ≤ room_1.slots) (f : Nat → Int64) (G Gm : gs_T) (i : Int32) (y1 : Int32) (h1 : vp_in (i + 1) L) (e1 : xs (i + 1).toNatClampNeg = y1) (y2 : Int32) (h2 : vp_in (i + 2) L) (e2 : xs (i + 2).toNatClampNeg = y2) (rv : Int32) (G1 : gs_T) (hc : cR_sign G y1 y2 = some (.inl rv, G1)) (mr : Int32 × gs_T) (hm : mM_sign Gm y1 y2 = some mr) (ht : mM_thrown mr.2 = some (0 : Int32)) (hv : rv = mr.1) (k : zj (zF E) X c s (wl_w E am o (vp_updL f 0 rv.toInt64) G1 mr.2) 926 (wl_L E am o b i) []) : zj (zF E) X c s (wl_w E am o f G Gm) 336 (wl_L E am o b i) [] := by
  refine zz_aload_n cx dn_XL_law_336 rfl rfl ?_
  refine zz_aload_n cx dn_XL_law_337 rfl rfl ?_
  refine zz_iload cx dn_XL_law_338 rfl ?_
  refine zz_iconst cx dn_XL_law_340 (v := (1 : Int32)) (by decide) ?_
  refine zz_iadd cx dn_XL_law_341 ?_
  refine zz_sld cx sx h1 e1 dn_XL_law_342 ?_
  refine zz_aload_n cx dn_XL_law_343 rfl rfl ?_
  refine zz_iload cx dn_XL_law_344 rfl ?_
  refine zz_iconst cx dn_XL_law_346 (v := (2 : Int32)) (by decide) ?_
  refine zz_iadd cx dn_XL_law_347 ?_
  refine zz_sld cx sx h2 e2 dn_XL_law_348 ?_
  refine zz_aload_n cx dn_XL_law_349 rfl rfl ?_
  refine zy_callW cx (wl := []) (wr := wc_m (ze_ad E am) Gm) (As := [.ref (ad_p E 0), .int y1, .int y2, .ref o]) (rest := []) (hh9 := []) (n := 4) (zh_sign_r E o f G y1 y2 rv G1 hc) (zy_ap6 _ _) hx9 zo_XL zw_sign (by decide) (by decide +kernel) zk_XL_79 zs_XL_sign (by decide) rfl (Nat.le_of_ble_eq_true rfl) (c2 := c) (s2 := s) rfl rfl hf0 (zy_ad2 (wc_c_addr E _ _)) dn_XL_law_350 ?_
  refine zy_eq (ws2 := wl_w E am o (vp_updL f 0 rv.toInt64) G1 Gm) rfl ?_
  refine zz_istore cx dn_XL_law_353 (by decide) rfl ?_
  refine zz_aload_n cx dn_XL_law_355 rfl rfl ?_
  refine zz_aload_n cx dn_XL_law_356 rfl rfl ?_
  refine zz_iload cx dn_XL_law_357 rfl ?_
  refine zz_iconst cx dn_XL_law_359 (v := (1 : Int32)) (by decide) ?_
  refine zz_iadd cx dn_XL_law_360 ?_
  refine zz_sld cx sx h1 e1 dn_XL_law_361 ?_
  refine zz_aload_n cx dn_XL_law_362 rfl rfl ?_
  refine zz_iload cx dn_XL_law_363 rfl ?_
  refine zz_iconst cx dn_XL_law_365 (v := (2 : Int32)) (by decide) ?_
  refine zz_iadd cx dn_XL_law_366 ?_
  refine zz_sld cx sx h2 e2 dn_XL_law_367 ?_
  refine zy_callVi cx (wl := wo_e E o (vp_updL f 0 rv.toInt64) :: wc_c E G1) (wr := []) (As := [.int y1, .int y2]) (rest := []) (z_mM_sign (ze_ad E am) Gm y1 y2 mr hm) (zy_ap5 _ _) zm_X4_sign zk_XL_82 zv_X4_sign 0 (ci := 4) rfl rfl (by decide) rfl (Nat.le_of_ble_eq_true rfl) (c2 := c) (s2 := s) rfl rfl hf0 (wc_m_addr _ _ _) dn_XL_law_368 ?_
  refine zy_eq (ws2 := wl_w E am o (vp_updL f 0 rv.toInt64) G1 mr.2) (zy_ap5 _ _).symm ?_
  refine zz_istore cx dn_XL_law_371 (by decide) rfl ?_
  refine zz_aload_n cx dn_XL_law_373 rfl rfl ?_
  refine zy_callVi cx (wl := wo_e E o (vp_updL f 0 rv.toInt64) :: wc_c E G1) (wr := []) (As := []) (rest := []) (z_mM_thrown (ze_ad E am) mr.2 _ ht) (zy_ap5 _ _) zm_X4_thrown zk_XL_67 zv_X4_thrown 0 (ci := 4) rfl rfl (by decide) rfl (Nat.le_of_ble_eq_true rfl) (c2 := c) (s2 := s) rfl rfl hf0 (wc_m_addr _ _ _) dn_XL_law_374 ?_
  refine zy_eq (ws2 := wl_w E am o (vp_updL f 0 rv.toInt64) G1 mr.2) (zy_ap5 _ _).symm ?_
  refine zz_iload cx dn_XL_law_377 rfl ?_
  refine zz_icmp_eq_t cx (tgt := 384) dn_XL_law_379 (by decide) rfl ?_
  refine zz_iload cx dn_XL_law_384 rfl ?_
  refine zz_if_ne_f cx (tgt := 401) dn_XL_law_386 (by decide) (by decide) ?_
  refine zz_aload_n cx dn_XL_law_389 rfl rfl ?_
  refine zz_iconst cx dn_XL_law_390 (v := (0 : Int32)) (by decide) ?_
  refine zz_lald cx 0 2 rfl rfl zi_01 (zy_up0 _ _) dn_XL_law_391 ?_
  refine zz_iload cx dn_XL_law_392 rfl ?_
  refine zz_i2l cx dn_XL_law_394 ?_
  refine zz_lcmp cx dn_XL_law_395 ?_
  rw [show lg_cmp rv.toInt64 mr.1.toInt64 = 0 by rw [hv, zy_cmp]]
  refine zz_if_eq_t cx (tgt := 401) dn_XL_law_396 (by decide) rfl ?_
  refine zz_goto cx dn_XL_law_401 (tgt := 926) (by decide) ?_
  refine zz_less (L2 := wl_L E am o b i) ⟨rfl, rfl, rfl, rfl, rfl, trivial⟩ ?_
  exact k
set_option maxHeartbeats 4000000 in
set_option maxRecDepth 100000 in
theorem zl_sign_t2 (E : ze_T) (am : Nat → Nat) (o b L : Nat) (xs : Nat → Int32) (X : zx_T) (cx : zx (zF E) X code rn_XL room_1 7) (sx : zs_ok X b L xs) (hx9 : zh_ok X) (c s : Nat) (hf0 : c ≤ room_1.cells ∧ s ≤ room_1.slots) (f : Nat → Int64) (G Gm : gs_T) (i : Int32) (y1 : Int32) (h1 : vp_in (i + 1) L) (e1 : xs (i + 1).toNatClampNeg = y1) (y2 : Int32) (h2 : vp_in (i + 2) L) (e2 : xs (i + 2).toNatClampNeg = y2) (hf1 : c + 1 ≤ room_1.cells ∧ s + 6 ≤ room_1.slots) (hl : (zF E).1.stackTraces = false) (G1 : gs_T) (hc : cR_sign G y1 y2 = some (.inr 2, G1)) (mr : Int32 × gs_T) (hm : mM_sign Gm y1 y2 = some mr) (ht : mM_thrown mr.2 = some (1 : Int32)) (k : zj (zF E) X (c + 1) (s + 6) (wl_w E am o f G1 mr.2) 926 (wl_L E am o b i) []) : zj (zF E) X c s (wl_w E am o f G Gm) 336 (wl_L E am o b i) [] := by
  refine zz_aload_n cx dn_XL_law_336 rfl rfl ?_
  refine zz_aload_n cx dn_XL_law_337 rfl rfl ?_
  refine zz_iload cx dn_XL_law_338 rfl ?_
  refine zz_iconst cx dn_XL_law_340 (v := (1 : Int32)) (by decide) ?_
  refine zz_iadd cx dn_XL_law_341 ?_
  refine zz_sld cx sx h1 e1 dn_XL_law_342 ?_
  refine zz_aload_n cx dn_XL_law_343 rfl rfl ?_
  refine zz_iload cx dn_XL_law_344 rfl ?_
  refine zz_iconst cx dn_XL_law_346 (v := (2 : Int32)) (by decide) ?_
  refine zz_iadd cx dn_XL_law_347 ?_
  refine zz_sld cx sx h2 e2 dn_XL_law_348 ?_
  refine zz_aload_n cx dn_XL_law_349 rfl rfl ?_
  refine zy_callW cx (wl := []) (wr := wc_m (ze_ad E am) Gm) (As := [.ref (ad_p E 0), .int y1, .int y2, .ref o]) (rest := []) (hh9 := []) (n := 4) (zh_sign_t2 E o f G y1 y2 G1 hl hc) (zy_ap6 _ _) hx9 zo_XL zw_sign (by decide) (by decide +kernel) zk_XL_79 zs_XL_sign (by decide) rfl (Nat.le_of_ble_eq_true rfl) (c2 := (c + 1)) (s2 := (s + 6)) rfl rfl hf1 (zy_ad2 (wc_c_addr E _ _)) dn_XL_law_350 ?_
  refine zy_eq (ws2 := wl_w E am o f G1 Gm) rfl ?_
  refine zz_istore cx dn_XL_law_353 (by decide) rfl ?_
  refine zz_aload_n cx dn_XL_law_355 rfl rfl ?_
  refine zz_aload_n cx dn_XL_law_356 rfl rfl ?_
  refine zz_iload cx dn_XL_law_357 rfl ?_
  refine zz_iconst cx dn_XL_law_359 (v := (1 : Int32)) (by decide) ?_
  refine zz_iadd cx dn_XL_law_360 ?_
  refine zz_sld cx sx h1 e1 dn_XL_law_361 ?_
  refine zz_aload_n cx dn_XL_law_362 rfl rfl ?_
  refine zz_iload cx dn_XL_law_363 rfl ?_
  refine zz_iconst cx dn_XL_law_365 (v := (2 : Int32)) (by decide) ?_
  refine zz_iadd cx dn_XL_law_366 ?_
  refine zz_sld cx sx h2 e2 dn_XL_law_367 ?_
  refine zy_callVi cx (wl := wo_e E o f :: wc_c E G1) (wr := []) (As := [.int y1, .int y2]) (rest := []) (z_mM_sign (ze_ad E am) Gm y1 y2 mr hm) (zy_ap5 _ _) zm_X4_sign zk_XL_82 zv_X4_sign 0 (ci := 4) rfl rfl (by decide) rfl (Nat.le_of_ble_eq_true rfl) (c2 := (c + 1)) (s2 := (s + 6)) rfl rfl hf1 (wc_m_addr _ _ _) dn_XL_law_368 ?_
  refine zy_eq (ws2 := wl_w E am o f G1 mr.2) (zy_ap5 _ _).symm ?_
  refine zz_istore cx dn_XL_law_371 (by decide) rfl ?_
  refine zz_aload_n cx dn_XL_law_373 rfl rfl ?_
  refine zy_callVi cx (wl := wo_e E o f :: wc_c E G1) (wr := []) (As := []) (rest := []) (z_mM_thrown (ze_ad E am) mr.2 _ ht) (zy_ap5 _ _) zm_X4_thrown zk_XL_67 zv_X4_thrown 0 (ci := 4) rfl rfl (by decide) rfl (Nat.le_of_ble_eq_true rfl) (c2 := (c + 1)) (s2 := (s + 6)) rfl rfl hf1 (wc_m_addr _ _ _) dn_XL_law_374 ?_
  refine zy_eq (ws2 := wl_w E am o f G1 mr.2) (zy_ap5 _ _).symm ?_
  refine zz_iload cx dn_XL_law_377 rfl ?_
  refine zz_icmp_eq_t cx (tgt := 384) dn_XL_law_379 (by decide) rfl ?_
  refine zz_iload cx dn_XL_law_384 rfl ?_
  refine zz_if_ne_t cx (tgt := 401) dn_XL_law_386 (by decide) (by decide) ?_
  refine zz_goto cx dn_XL_law_401 (tgt := 926) (by decide) ?_
  refine zz_less (L2 := wl_L E am o b i) ⟨rfl, rfl, rfl, rfl, rfl, trivial⟩ ?_
  exact k
set_option maxHeartbeats 4000000 in
set_option maxRecDepth 100000 in
theorem zl_sign_t1 (E : ze_T) (am : Nat → Nat) (o b L : Nat) (xs : Nat → Int32) (X : zx_T) (cx : zx (zF E) X code rn_XL room_1 7) (sx : zs_ok X b L xs) (hx9 : zh_ok X) (c s : Nat) (hf0 : c ≤ room_1.cells ∧ s ≤ room_1.slots) (f : Nat → Int64) (G Gm : gs_T) (i : Int32) (y1 : Int32) (h1 : vp_in (i + 1) L) (e1 : xs (i + 1).toNatClampNeg = y1) (y2 : Int32) (h2 : vp_in (i + 2) L) (e2 : xs (i + 2).toNatClampNeg = y2) (hf1 : c + 1 ≤ room_1.cells ∧ s + 6 ≤ room_1.slots) (hl : (zF E).1.stackTraces = false) (G1 : gs_T) (hc : cR_sign G y1 y2 = some (.inr 1, G1)) (mr : Int32 × gs_T) (hm : mM_sign Gm y1 y2 = some mr) (ht : mM_thrown mr.2 = some (2 : Int32)) (k : zj (zF E) X (c + 1) (s + 6) (wl_w E am o f G1 mr.2) 926 (wl_L E am o b i) []) : zj (zF E) X c s (wl_w E am o f G Gm) 336 (wl_L E am o b i) [] := by
  refine zz_aload_n cx dn_XL_law_336 rfl rfl ?_
  refine zz_aload_n cx dn_XL_law_337 rfl rfl ?_
  refine zz_iload cx dn_XL_law_338 rfl ?_
  refine zz_iconst cx dn_XL_law_340 (v := (1 : Int32)) (by decide) ?_
  refine zz_iadd cx dn_XL_law_341 ?_
  refine zz_sld cx sx h1 e1 dn_XL_law_342 ?_
  refine zz_aload_n cx dn_XL_law_343 rfl rfl ?_
  refine zz_iload cx dn_XL_law_344 rfl ?_
  refine zz_iconst cx dn_XL_law_346 (v := (2 : Int32)) (by decide) ?_
  refine zz_iadd cx dn_XL_law_347 ?_
  refine zz_sld cx sx h2 e2 dn_XL_law_348 ?_
  refine zz_aload_n cx dn_XL_law_349 rfl rfl ?_
  refine zy_callW cx (wl := []) (wr := wc_m (ze_ad E am) Gm) (As := [.ref (ad_p E 0), .int y1, .int y2, .ref o]) (rest := []) (hh9 := []) (n := 4) (zh_sign_t1 E o f G y1 y2 G1 hl hc) (zy_ap6 _ _) hx9 zo_XL zw_sign (by decide) (by decide +kernel) zk_XL_79 zs_XL_sign (by decide) rfl (Nat.le_of_ble_eq_true rfl) (c2 := (c + 1)) (s2 := (s + 6)) rfl rfl hf1 (zy_ad2 (wc_c_addr E _ _)) dn_XL_law_350 ?_
  refine zy_eq (ws2 := wl_w E am o f G1 Gm) rfl ?_
  refine zz_istore cx dn_XL_law_353 (by decide) rfl ?_
  refine zz_aload_n cx dn_XL_law_355 rfl rfl ?_
  refine zz_aload_n cx dn_XL_law_356 rfl rfl ?_
  refine zz_iload cx dn_XL_law_357 rfl ?_
  refine zz_iconst cx dn_XL_law_359 (v := (1 : Int32)) (by decide) ?_
  refine zz_iadd cx dn_XL_law_360 ?_
  refine zz_sld cx sx h1 e1 dn_XL_law_361 ?_
  refine zz_aload_n cx dn_XL_law_362 rfl rfl ?_
  refine zz_iload cx dn_XL_law_363 rfl ?_
  refine zz_iconst cx dn_XL_law_365 (v := (2 : Int32)) (by decide) ?_
  refine zz_iadd cx dn_XL_law_366 ?_
  refine zz_sld cx sx h2 e2 dn_XL_law_367 ?_
  refine zy_callVi cx (wl := wo_e E o f :: wc_c E G1) (wr := []) (As := [.int y1, .int y2]) (rest := []) (z_mM_sign (ze_ad E am) Gm y1 y2 mr hm) (zy_ap5 _ _) zm_X4_sign zk_XL_82 zv_X4_sign 0 (ci := 4) rfl rfl (by decide) rfl (Nat.le_of_ble_eq_true rfl) (c2 := (c + 1)) (s2 := (s + 6)) rfl rfl hf1 (wc_m_addr _ _ _) dn_XL_law_368 ?_
  refine zy_eq (ws2 := wl_w E am o f G1 mr.2) (zy_ap5 _ _).symm ?_
  refine zz_istore cx dn_XL_law_371 (by decide) rfl ?_
  refine zz_aload_n cx dn_XL_law_373 rfl rfl ?_
  refine zy_callVi cx (wl := wo_e E o f :: wc_c E G1) (wr := []) (As := []) (rest := []) (z_mM_thrown (ze_ad E am) mr.2 _ ht) (zy_ap5 _ _) zm_X4_thrown zk_XL_67 zv_X4_thrown 0 (ci := 4) rfl rfl (by decide) rfl (Nat.le_of_ble_eq_true rfl) (c2 := (c + 1)) (s2 := (s + 6)) rfl rfl hf1 (wc_m_addr _ _ _) dn_XL_law_374 ?_
  refine zy_eq (ws2 := wl_w E am o f G1 mr.2) (zy_ap5 _ _).symm ?_
  refine zz_iload cx dn_XL_law_377 rfl ?_
  refine zz_icmp_eq_t cx (tgt := 384) dn_XL_law_379 (by decide) rfl ?_
  refine zz_iload cx dn_XL_law_384 rfl ?_
  refine zz_if_ne_t cx (tgt := 401) dn_XL_law_386 (by decide) (by decide) ?_
  refine zz_goto cx dn_XL_law_401 (tgt := 926) (by decide) ?_
  refine zz_less (L2 := wl_L E am o b i) ⟨rfl, rfl, rfl, rfl, rfl, trivial⟩ ?_
  exact k
set_option maxHeartbeats 4000000 in
set_option maxRecDepth 100000 in
theorem zl_jump_r_z0 (E : ze_T) (am : Nat → Nat) (o b L : Nat) (xs : Nat → Int32) (X : zx_T) (cx : zx (zF E) X code rn_XL room_1 7) (sx : zs_ok X b L xs) (hx9 : zh_ok X) (c s : Nat) (hf0 : c ≤ room_1.cells ∧ s ≤ room_1.slots) (f : Nat → Int64) (G Gm : gs_T) (i : Int32) (y1 : Int32) (h1 : vp_in (i + 1) L) (e1 : xs (i + 1).toNatClampNeg = y1) (y2 : Int32) (h2 : vp_in (i + 2) L) (e2 : xs (i + 2).toNatClampNeg = y2) (y3 : Int32) (h3 : vp_in (i + 3) L) (e3 : xs (i + 3).toNatClampNeg = y3) (y4 : Int32) (h4 : vp_in (i + 4) L) (e4 : xs (i + 4).toNatClampNeg = y4) (hz : y4 = 0) (G1 : gs_T) (hc : cR_jump G y1 y2 y3 (0 : Int32) = some (.inl (), G1)) (mr : gs_T) (hm : mM_jump Gm y1 y2 y3 (0 : Int32) = some mr) (ht : mM_thrown mr = some (0 : Int32)) (k : zj (zF E) X c s (wl_w E am o f G1 mr) 926 (wl_L E am o b i) []) : zj (zF E) X c s (wl_w E am o f G Gm) 404 (wl_L E am o b i) [] := by
  refine zz_aload_n cx dn_XL_law_404 rfl rfl ?_
  refine zz_aload_n cx dn_XL_law_405 rfl rfl ?_
  refine zz_iload cx dn_XL_law_406 rfl ?_
  refine zz_iconst cx dn_XL_law_408 (v := (1 : Int32)) (by decide) ?_
  refine zz_iadd cx dn_XL_law_409 ?_
  refine zz_sld cx sx h1 e1 dn_XL_law_410 ?_
  refine zz_aload_n cx dn_XL_law_411 rfl rfl ?_
  refine zz_iload cx dn_XL_law_412 rfl ?_
  refine zz_iconst cx dn_XL_law_414 (v := (2 : Int32)) (by decide) ?_
  refine zz_iadd cx dn_XL_law_415 ?_
  refine zz_sld cx sx h2 e2 dn_XL_law_416 ?_
  refine zz_aload_n cx dn_XL_law_417 rfl rfl ?_
  refine zz_iload cx dn_XL_law_418 rfl ?_
  refine zz_iconst cx dn_XL_law_420 (v := (3 : Int32)) (by decide) ?_
  refine zz_iadd cx dn_XL_law_421 ?_
  refine zz_sld cx sx h3 e3 dn_XL_law_422 ?_
  refine zz_aload_n cx dn_XL_law_423 rfl rfl ?_
  refine zz_iload cx dn_XL_law_424 rfl ?_
  refine zz_iconst cx dn_XL_law_426 (v := (4 : Int32)) (by decide) ?_
  refine zz_iadd cx dn_XL_law_427 ?_
  refine zz_sld cx sx h4 e4 dn_XL_law_428 ?_
  refine zz_if_eq_t cx (tgt := 436) dn_XL_law_429 (by decide) hz ?_
  refine zz_iconst cx dn_XL_law_436 (v := (0 : Int32)) (by decide) ?_
  refine zy_callW cx (wl := [wo_e E o f]) (wr := wc_m (ze_ad E am) Gm) (As := [.ref (ad_p E 0), .int y1, .int y2, .int y3, .int (0 : Int32)]) (rest := []) (hh9 := []) (n := 5) (zh_jump_r E G y1 y2 y3 (0 : Int32) G1 hc) (zy_ap4 _ _ _) hx9 zo_XL zw_jump (by decide) (by decide +kernel) zk_XL_83 zs_XL_jump (by decide) rfl (Nat.le_of_ble_eq_true rfl) (c2 := c) (s2 := s) rfl rfl hf0 (wc_c_addr E _ _) dn_XL_law_437 ?_
  refine zy_eq (ws2 := wl_w E am o f G1 Gm) rfl ?_
  refine zz_istore cx dn_XL_law_440 (by decide) rfl ?_
  refine zz_aload_n cx dn_XL_law_442 rfl rfl ?_
  refine zz_aload_n cx dn_XL_law_443 rfl rfl ?_
  refine zz_iload cx dn_XL_law_444 rfl ?_
  refine zz_iconst cx dn_XL_law_446 (v := (1 : Int32)) (by decide) ?_
  refine zz_iadd cx dn_XL_law_447 ?_
  refine zz_sld cx sx h1 e1 dn_XL_law_448 ?_
  refine zz_aload_n cx dn_XL_law_449 rfl rfl ?_
  refine zz_iload cx dn_XL_law_450 rfl ?_
  refine zz_iconst cx dn_XL_law_452 (v := (2 : Int32)) (by decide) ?_
  refine zz_iadd cx dn_XL_law_453 ?_
  refine zz_sld cx sx h2 e2 dn_XL_law_454 ?_
  refine zz_aload_n cx dn_XL_law_455 rfl rfl ?_
  refine zz_iload cx dn_XL_law_456 rfl ?_
  refine zz_iconst cx dn_XL_law_458 (v := (3 : Int32)) (by decide) ?_
  refine zz_iadd cx dn_XL_law_459 ?_
  refine zz_sld cx sx h3 e3 dn_XL_law_460 ?_
  refine zz_aload_n cx dn_XL_law_461 rfl rfl ?_
  refine zz_iload cx dn_XL_law_462 rfl ?_
  refine zz_iconst cx dn_XL_law_464 (v := (4 : Int32)) (by decide) ?_
  refine zz_iadd cx dn_XL_law_465 ?_
  refine zz_sld cx sx h4 e4 dn_XL_law_466 ?_
  refine zz_if_eq_t cx (tgt := 474) dn_XL_law_467 (by decide) hz ?_
  refine zz_iconst cx dn_XL_law_474 (v := (0 : Int32)) (by decide) ?_
  refine zy_callVv cx (wl := wo_e E o f :: wc_c E G1) (wr := []) (As := [.int y1, .int y2, .int y3, .int (0 : Int32)]) (rest := []) (z_mM_jump (ze_ad E am) Gm y1 y2 y3 (0 : Int32) mr hm) (zy_ap5 _ _) zm_X4_jump zk_XL_86 zv_X4_jump 0 (ci := 4) rfl rfl (by decide) rfl (Nat.le_of_ble_eq_true rfl) (c2 := c) (s2 := s) rfl rfl hf0 (wc_m_addr _ _ _) dn_XL_law_475 ?_
  refine zy_eq (ws2 := wl_w E am o f G1 mr) (zy_ap5 _ _).symm ?_
  refine zz_aload_n cx dn_XL_law_478 rfl rfl ?_
  refine zy_callVi cx (wl := wo_e E o f :: wc_c E G1) (wr := []) (As := []) (rest := []) (z_mM_thrown (ze_ad E am) mr _ ht) (zy_ap5 _ _) zm_X4_thrown zk_XL_67 zv_X4_thrown 0 (ci := 4) rfl rfl (by decide) rfl (Nat.le_of_ble_eq_true rfl) (c2 := c) (s2 := s) rfl rfl hf0 (wc_m_addr _ _ _) dn_XL_law_479 ?_
  refine zy_eq (ws2 := wl_w E am o f G1 mr) (zy_ap5 _ _).symm ?_
  refine zz_iload cx dn_XL_law_482 rfl ?_
  refine zz_icmp_eq_t cx (tgt := 489) dn_XL_law_484 (by decide) rfl ?_
  refine zz_goto cx dn_XL_law_489 (tgt := 926) (by decide) ?_
  refine zz_less (L2 := wl_L E am o b i) ⟨rfl, rfl, rfl, rfl, rfl, trivial⟩ ?_
  exact k
set_option maxHeartbeats 4000000 in
set_option maxRecDepth 100000 in
theorem zl_jump_t1_z0 (E : ze_T) (am : Nat → Nat) (o b L : Nat) (xs : Nat → Int32) (X : zx_T) (cx : zx (zF E) X code rn_XL room_1 7) (sx : zs_ok X b L xs) (hx9 : zh_ok X) (c s : Nat) (hf0 : c ≤ room_1.cells ∧ s ≤ room_1.slots) (f : Nat → Int64) (G Gm : gs_T) (i : Int32) (y1 : Int32) (h1 : vp_in (i + 1) L) (e1 : xs (i + 1).toNatClampNeg = y1) (y2 : Int32) (h2 : vp_in (i + 2) L) (e2 : xs (i + 2).toNatClampNeg = y2) (y3 : Int32) (h3 : vp_in (i + 3) L) (e3 : xs (i + 3).toNatClampNeg = y3) (y4 : Int32) (h4 : vp_in (i + 4) L) (e4 : xs (i + 4).toNatClampNeg = y4) (hz : y4 = 0) (hf1 : c + 1 ≤ room_1.cells ∧ s + 6 ≤ room_1.slots) (hl : (zF E).1.stackTraces = false) (G1 : gs_T) (hc : cR_jump G y1 y2 y3 (0 : Int32) = some (.inr 1, G1)) (mr : gs_T) (hm : mM_jump Gm y1 y2 y3 (0 : Int32) = some mr) (ht : mM_thrown mr = some (1 : Int32)) (k : zj (zF E) X (c + 1) (s + 6) (wl_w E am o f G1 mr) 926 (wl_L E am o b i) []) : zj (zF E) X c s (wl_w E am o f G Gm) 404 (wl_L E am o b i) [] := by
  refine zz_aload_n cx dn_XL_law_404 rfl rfl ?_
  refine zz_aload_n cx dn_XL_law_405 rfl rfl ?_
  refine zz_iload cx dn_XL_law_406 rfl ?_
  refine zz_iconst cx dn_XL_law_408 (v := (1 : Int32)) (by decide) ?_
  refine zz_iadd cx dn_XL_law_409 ?_
  refine zz_sld cx sx h1 e1 dn_XL_law_410 ?_
  refine zz_aload_n cx dn_XL_law_411 rfl rfl ?_
  refine zz_iload cx dn_XL_law_412 rfl ?_
  refine zz_iconst cx dn_XL_law_414 (v := (2 : Int32)) (by decide) ?_
  refine zz_iadd cx dn_XL_law_415 ?_
  refine zz_sld cx sx h2 e2 dn_XL_law_416 ?_
  refine zz_aload_n cx dn_XL_law_417 rfl rfl ?_
  refine zz_iload cx dn_XL_law_418 rfl ?_
  refine zz_iconst cx dn_XL_law_420 (v := (3 : Int32)) (by decide) ?_
  refine zz_iadd cx dn_XL_law_421 ?_
  refine zz_sld cx sx h3 e3 dn_XL_law_422 ?_
  refine zz_aload_n cx dn_XL_law_423 rfl rfl ?_
  refine zz_iload cx dn_XL_law_424 rfl ?_
  refine zz_iconst cx dn_XL_law_426 (v := (4 : Int32)) (by decide) ?_
  refine zz_iadd cx dn_XL_law_427 ?_
  refine zz_sld cx sx h4 e4 dn_XL_law_428 ?_
  refine zz_if_eq_t cx (tgt := 436) dn_XL_law_429 (by decide) hz ?_
  refine zz_iconst cx dn_XL_law_436 (v := (0 : Int32)) (by decide) ?_
  refine zy_callW cx (wl := [wo_e E o f]) (wr := wc_m (ze_ad E am) Gm) (As := [.ref (ad_p E 0), .int y1, .int y2, .int y3, .int (0 : Int32)]) (rest := []) (hh9 := []) (n := 5) (zh_jump_t1 E G y1 y2 y3 (0 : Int32) G1 hl hc) (zy_ap4 _ _ _) hx9 zo_XL zw_jump (by decide) (by decide +kernel) zk_XL_83 zs_XL_jump (by decide) rfl (Nat.le_of_ble_eq_true rfl) (c2 := (c + 1)) (s2 := (s + 6)) rfl rfl hf1 (wc_c_addr E _ _) dn_XL_law_437 ?_
  refine zy_eq (ws2 := wl_w E am o f G1 Gm) rfl ?_
  refine zz_istore cx dn_XL_law_440 (by decide) rfl ?_
  refine zz_aload_n cx dn_XL_law_442 rfl rfl ?_
  refine zz_aload_n cx dn_XL_law_443 rfl rfl ?_
  refine zz_iload cx dn_XL_law_444 rfl ?_
  refine zz_iconst cx dn_XL_law_446 (v := (1 : Int32)) (by decide) ?_
  refine zz_iadd cx dn_XL_law_447 ?_
  refine zz_sld cx sx h1 e1 dn_XL_law_448 ?_
  refine zz_aload_n cx dn_XL_law_449 rfl rfl ?_
  refine zz_iload cx dn_XL_law_450 rfl ?_
  refine zz_iconst cx dn_XL_law_452 (v := (2 : Int32)) (by decide) ?_
  refine zz_iadd cx dn_XL_law_453 ?_
  refine zz_sld cx sx h2 e2 dn_XL_law_454 ?_
  refine zz_aload_n cx dn_XL_law_455 rfl rfl ?_
  refine zz_iload cx dn_XL_law_456 rfl ?_
  refine zz_iconst cx dn_XL_law_458 (v := (3 : Int32)) (by decide) ?_
  refine zz_iadd cx dn_XL_law_459 ?_
  refine zz_sld cx sx h3 e3 dn_XL_law_460 ?_
  refine zz_aload_n cx dn_XL_law_461 rfl rfl ?_
  refine zz_iload cx dn_XL_law_462 rfl ?_
  refine zz_iconst cx dn_XL_law_464 (v := (4 : Int32)) (by decide) ?_
  refine zz_iadd cx dn_XL_law_465 ?_
  refine zz_sld cx sx h4 e4 dn_XL_law_466 ?_
  refine zz_if_eq_t cx (tgt := 474) dn_XL_law_467 (by decide) hz ?_
  refine zz_iconst cx dn_XL_law_474 (v := (0 : Int32)) (by decide) ?_
  refine zy_callVv cx (wl := wo_e E o f :: wc_c E G1) (wr := []) (As := [.int y1, .int y2, .int y3, .int (0 : Int32)]) (rest := []) (z_mM_jump (ze_ad E am) Gm y1 y2 y3 (0 : Int32) mr hm) (zy_ap5 _ _) zm_X4_jump zk_XL_86 zv_X4_jump 0 (ci := 4) rfl rfl (by decide) rfl (Nat.le_of_ble_eq_true rfl) (c2 := (c + 1)) (s2 := (s + 6)) rfl rfl hf1 (wc_m_addr _ _ _) dn_XL_law_475 ?_
  refine zy_eq (ws2 := wl_w E am o f G1 mr) (zy_ap5 _ _).symm ?_
  refine zz_aload_n cx dn_XL_law_478 rfl rfl ?_
  refine zy_callVi cx (wl := wo_e E o f :: wc_c E G1) (wr := []) (As := []) (rest := []) (z_mM_thrown (ze_ad E am) mr _ ht) (zy_ap5 _ _) zm_X4_thrown zk_XL_67 zv_X4_thrown 0 (ci := 4) rfl rfl (by decide) rfl (Nat.le_of_ble_eq_true rfl) (c2 := (c + 1)) (s2 := (s + 6)) rfl rfl hf1 (wc_m_addr _ _ _) dn_XL_law_479 ?_
  refine zy_eq (ws2 := wl_w E am o f G1 mr) (zy_ap5 _ _).symm ?_
  refine zz_iload cx dn_XL_law_482 rfl ?_
  refine zz_icmp_eq_t cx (tgt := 489) dn_XL_law_484 (by decide) rfl ?_
  refine zz_goto cx dn_XL_law_489 (tgt := 926) (by decide) ?_
  refine zz_less (L2 := wl_L E am o b i) ⟨rfl, rfl, rfl, rfl, rfl, trivial⟩ ?_
  exact k
set_option maxHeartbeats 4000000 in
set_option maxRecDepth 100000 in
theorem zl_jump_t2_z0 (E : ze_T) (am : Nat → Nat) (o b L : Nat) (xs : Nat → Int32) (X : zx_T) (cx : zx (zF E) X code rn_XL room_1 7) (sx : zs_ok X b L xs) (hx9 : zh_ok X) (c s : Nat) (hf0 : c ≤ room_1.cells ∧ s ≤ room_1.slots) (f : Nat → Int64) (G Gm : gs_T) (i : Int32) (y1 : Int32) (h1 : vp_in (i + 1) L) (e1 : xs (i + 1).toNatClampNeg = y1) (y2 : Int32) (h2 : vp_in (i + 2) L) (e2 : xs (i + 2).toNatClampNeg = y2) (y3 : Int32) (h3 : vp_in (i + 3) L) (e3 : xs (i + 3).toNatClampNeg = y3) (y4 : Int32) (h4 : vp_in (i + 4) L) (e4 : xs (i + 4).toNatClampNeg = y4) (hz : y4 = 0) (hf1 : c + 1 ≤ room_1.cells ∧ s + 6 ≤ room_1.slots) (hl : (zF E).1.stackTraces = false) (G1 : gs_T) (hc : cR_jump G y1 y2 y3 (0 : Int32) = some (.inr 2, G1)) (mr : gs_T) (hm : mM_jump Gm y1 y2 y3 (0 : Int32) = some mr) (ht : mM_thrown mr = some (2 : Int32)) (k : zj (zF E) X (c + 1) (s + 6) (wl_w E am o f G1 mr) 926 (wl_L E am o b i) []) : zj (zF E) X c s (wl_w E am o f G Gm) 404 (wl_L E am o b i) [] := by
  refine zz_aload_n cx dn_XL_law_404 rfl rfl ?_
  refine zz_aload_n cx dn_XL_law_405 rfl rfl ?_
  refine zz_iload cx dn_XL_law_406 rfl ?_
  refine zz_iconst cx dn_XL_law_408 (v := (1 : Int32)) (by decide) ?_
  refine zz_iadd cx dn_XL_law_409 ?_
  refine zz_sld cx sx h1 e1 dn_XL_law_410 ?_
  refine zz_aload_n cx dn_XL_law_411 rfl rfl ?_
  refine zz_iload cx dn_XL_law_412 rfl ?_
  refine zz_iconst cx dn_XL_law_414 (v := (2 : Int32)) (by decide) ?_
  refine zz_iadd cx dn_XL_law_415 ?_
  refine zz_sld cx sx h2 e2 dn_XL_law_416 ?_
  refine zz_aload_n cx dn_XL_law_417 rfl rfl ?_
  refine zz_iload cx dn_XL_law_418 rfl ?_
  refine zz_iconst cx dn_XL_law_420 (v := (3 : Int32)) (by decide) ?_
  refine zz_iadd cx dn_XL_law_421 ?_
  refine zz_sld cx sx h3 e3 dn_XL_law_422 ?_
  refine zz_aload_n cx dn_XL_law_423 rfl rfl ?_
  refine zz_iload cx dn_XL_law_424 rfl ?_
  refine zz_iconst cx dn_XL_law_426 (v := (4 : Int32)) (by decide) ?_
  refine zz_iadd cx dn_XL_law_427 ?_
  refine zz_sld cx sx h4 e4 dn_XL_law_428 ?_
  refine zz_if_eq_t cx (tgt := 436) dn_XL_law_429 (by decide) hz ?_
  refine zz_iconst cx dn_XL_law_436 (v := (0 : Int32)) (by decide) ?_
  refine zy_callW cx (wl := [wo_e E o f]) (wr := wc_m (ze_ad E am) Gm) (As := [.ref (ad_p E 0), .int y1, .int y2, .int y3, .int (0 : Int32)]) (rest := []) (hh9 := []) (n := 5) (zh_jump_t2 E G y1 y2 y3 (0 : Int32) G1 hl hc) (zy_ap4 _ _ _) hx9 zo_XL zw_jump (by decide) (by decide +kernel) zk_XL_83 zs_XL_jump (by decide) rfl (Nat.le_of_ble_eq_true rfl) (c2 := (c + 1)) (s2 := (s + 6)) rfl rfl hf1 (wc_c_addr E _ _) dn_XL_law_437 ?_
  refine zy_eq (ws2 := wl_w E am o f G1 Gm) rfl ?_
  refine zz_istore cx dn_XL_law_440 (by decide) rfl ?_
  refine zz_aload_n cx dn_XL_law_442 rfl rfl ?_
  refine zz_aload_n cx dn_XL_law_443 rfl rfl ?_
  refine zz_iload cx dn_XL_law_444 rfl ?_
  refine zz_iconst cx dn_XL_law_446 (v := (1 : Int32)) (by decide) ?_
  refine zz_iadd cx dn_XL_law_447 ?_
  refine zz_sld cx sx h1 e1 dn_XL_law_448 ?_
  refine zz_aload_n cx dn_XL_law_449 rfl rfl ?_
  refine zz_iload cx dn_XL_law_450 rfl ?_
  refine zz_iconst cx dn_XL_law_452 (v := (2 : Int32)) (by decide) ?_
  refine zz_iadd cx dn_XL_law_453 ?_
  refine zz_sld cx sx h2 e2 dn_XL_law_454 ?_
  refine zz_aload_n cx dn_XL_law_455 rfl rfl ?_
  refine zz_iload cx dn_XL_law_456 rfl ?_
  refine zz_iconst cx dn_XL_law_458 (v := (3 : Int32)) (by decide) ?_
  refine zz_iadd cx dn_XL_law_459 ?_
  refine zz_sld cx sx h3 e3 dn_XL_law_460 ?_
  refine zz_aload_n cx dn_XL_law_461 rfl rfl ?_
  refine zz_iload cx dn_XL_law_462 rfl ?_
  refine zz_iconst cx dn_XL_law_464 (v := (4 : Int32)) (by decide) ?_
  refine zz_iadd cx dn_XL_law_465 ?_
  refine zz_sld cx sx h4 e4 dn_XL_law_466 ?_
  refine zz_if_eq_t cx (tgt := 474) dn_XL_law_467 (by decide) hz ?_
  refine zz_iconst cx dn_XL_law_474 (v := (0 : Int32)) (by decide) ?_
  refine zy_callVv cx (wl := wo_e E o f :: wc_c E G1) (wr := []) (As := [.int y1, .int y2, .int y3, .int (0 : Int32)]) (rest := []) (z_mM_jump (ze_ad E am) Gm y1 y2 y3 (0 : Int32) mr hm) (zy_ap5 _ _) zm_X4_jump zk_XL_86 zv_X4_jump 0 (ci := 4) rfl rfl (by decide) rfl (Nat.le_of_ble_eq_true rfl) (c2 := (c + 1)) (s2 := (s + 6)) rfl rfl hf1 (wc_m_addr _ _ _) dn_XL_law_475 ?_
  refine zy_eq (ws2 := wl_w E am o f G1 mr) (zy_ap5 _ _).symm ?_
  refine zz_aload_n cx dn_XL_law_478 rfl rfl ?_
  refine zy_callVi cx (wl := wo_e E o f :: wc_c E G1) (wr := []) (As := []) (rest := []) (z_mM_thrown (ze_ad E am) mr _ ht) (zy_ap5 _ _) zm_X4_thrown zk_XL_67 zv_X4_thrown 0 (ci := 4) rfl rfl (by decide) rfl (Nat.le_of_ble_eq_true rfl) (c2 := (c + 1)) (s2 := (s + 6)) rfl rfl hf1 (wc_m_addr _ _ _) dn_XL_law_479 ?_
  refine zy_eq (ws2 := wl_w E am o f G1 mr) (zy_ap5 _ _).symm ?_
  refine zz_iload cx dn_XL_law_482 rfl ?_
  refine zz_icmp_eq_t cx (tgt := 489) dn_XL_law_484 (by decide) rfl ?_
  refine zz_goto cx dn_XL_law_489 (tgt := 926) (by decide) ?_
  refine zz_less (L2 := wl_L E am o b i) ⟨rfl, rfl, rfl, rfl, rfl, trivial⟩ ?_
  exact k
set_option maxHeartbeats 4000000 in
set_option maxRecDepth 100000 in
theorem zl_jump_r_z1 (E : ze_T) (am : Nat → Nat) (o b L : Nat) (xs : Nat → Int32) (X : zx_T) (cx : zx (zF E) X code rn_XL room_1 7) (sx : zs_ok X b L xs) (hx9 : zh_ok X) (c s : Nat) (hf0 : c ≤ room_1.cells ∧ s ≤ room_1.slots) (f : Nat → Int64) (G Gm : gs_T) (i : Int32) (y1 : Int32) (h1 : vp_in (i + 1) L) (e1 : xs (i + 1).toNatClampNeg = y1) (y2 : Int32) (h2 : vp_in (i + 2) L) (e2 : xs (i + 2).toNatClampNeg = y2) (y3 : Int32) (h3 : vp_in (i + 3) L) (e3 : xs (i + 3).toNatClampNeg = y3) (y4 : Int32) (h4 : vp_in (i + 4) L) (e4 : xs (i + 4).toNatClampNeg = y4) (hz : ¬ y4 = 0) (G1 : gs_T) (hc : cR_jump G y1 y2 y3 (1 : Int32) = some (.inl (), G1)) (mr : gs_T) (hm : mM_jump Gm y1 y2 y3 (1 : Int32) = some mr) (ht : mM_thrown mr = some (0 : Int32)) (k : zj (zF E) X c s (wl_w E am o f G1 mr) 926 (wl_L E am o b i) []) : zj (zF E) X c s (wl_w E am o f G Gm) 404 (wl_L E am o b i) [] := by
  refine zz_aload_n cx dn_XL_law_404 rfl rfl ?_
  refine zz_aload_n cx dn_XL_law_405 rfl rfl ?_
  refine zz_iload cx dn_XL_law_406 rfl ?_
  refine zz_iconst cx dn_XL_law_408 (v := (1 : Int32)) (by decide) ?_
  refine zz_iadd cx dn_XL_law_409 ?_
  refine zz_sld cx sx h1 e1 dn_XL_law_410 ?_
  refine zz_aload_n cx dn_XL_law_411 rfl rfl ?_
  refine zz_iload cx dn_XL_law_412 rfl ?_
  refine zz_iconst cx dn_XL_law_414 (v := (2 : Int32)) (by decide) ?_
  refine zz_iadd cx dn_XL_law_415 ?_
  refine zz_sld cx sx h2 e2 dn_XL_law_416 ?_
  refine zz_aload_n cx dn_XL_law_417 rfl rfl ?_
  refine zz_iload cx dn_XL_law_418 rfl ?_
  refine zz_iconst cx dn_XL_law_420 (v := (3 : Int32)) (by decide) ?_
  refine zz_iadd cx dn_XL_law_421 ?_
  refine zz_sld cx sx h3 e3 dn_XL_law_422 ?_
  refine zz_aload_n cx dn_XL_law_423 rfl rfl ?_
  refine zz_iload cx dn_XL_law_424 rfl ?_
  refine zz_iconst cx dn_XL_law_426 (v := (4 : Int32)) (by decide) ?_
  refine zz_iadd cx dn_XL_law_427 ?_
  refine zz_sld cx sx h4 e4 dn_XL_law_428 ?_
  refine zz_if_eq_f cx (tgt := 436) dn_XL_law_429 (by decide) hz ?_
  refine zz_iconst cx dn_XL_law_432 (v := (1 : Int32)) (by decide) ?_
  refine zz_goto cx dn_XL_law_433 (tgt := 437) (by decide) ?_
  refine zy_callW cx (wl := [wo_e E o f]) (wr := wc_m (ze_ad E am) Gm) (As := [.ref (ad_p E 0), .int y1, .int y2, .int y3, .int (1 : Int32)]) (rest := []) (hh9 := []) (n := 5) (zh_jump_r E G y1 y2 y3 (1 : Int32) G1 hc) (zy_ap4 _ _ _) hx9 zo_XL zw_jump (by decide) (by decide +kernel) zk_XL_83 zs_XL_jump (by decide) rfl (Nat.le_of_ble_eq_true rfl) (c2 := c) (s2 := s) rfl rfl hf0 (wc_c_addr E _ _) dn_XL_law_437 ?_
  refine zy_eq (ws2 := wl_w E am o f G1 Gm) rfl ?_
  refine zz_istore cx dn_XL_law_440 (by decide) rfl ?_
  refine zz_aload_n cx dn_XL_law_442 rfl rfl ?_
  refine zz_aload_n cx dn_XL_law_443 rfl rfl ?_
  refine zz_iload cx dn_XL_law_444 rfl ?_
  refine zz_iconst cx dn_XL_law_446 (v := (1 : Int32)) (by decide) ?_
  refine zz_iadd cx dn_XL_law_447 ?_
  refine zz_sld cx sx h1 e1 dn_XL_law_448 ?_
  refine zz_aload_n cx dn_XL_law_449 rfl rfl ?_
  refine zz_iload cx dn_XL_law_450 rfl ?_
  refine zz_iconst cx dn_XL_law_452 (v := (2 : Int32)) (by decide) ?_
  refine zz_iadd cx dn_XL_law_453 ?_
  refine zz_sld cx sx h2 e2 dn_XL_law_454 ?_
  refine zz_aload_n cx dn_XL_law_455 rfl rfl ?_
  refine zz_iload cx dn_XL_law_456 rfl ?_
  refine zz_iconst cx dn_XL_law_458 (v := (3 : Int32)) (by decide) ?_
  refine zz_iadd cx dn_XL_law_459 ?_
  refine zz_sld cx sx h3 e3 dn_XL_law_460 ?_
  refine zz_aload_n cx dn_XL_law_461 rfl rfl ?_
  refine zz_iload cx dn_XL_law_462 rfl ?_
  refine zz_iconst cx dn_XL_law_464 (v := (4 : Int32)) (by decide) ?_
  refine zz_iadd cx dn_XL_law_465 ?_
  refine zz_sld cx sx h4 e4 dn_XL_law_466 ?_
  refine zz_if_eq_f cx (tgt := 474) dn_XL_law_467 (by decide) hz ?_
  refine zz_iconst cx dn_XL_law_470 (v := (1 : Int32)) (by decide) ?_
  refine zz_goto cx dn_XL_law_471 (tgt := 475) (by decide) ?_
  refine zy_callVv cx (wl := wo_e E o f :: wc_c E G1) (wr := []) (As := [.int y1, .int y2, .int y3, .int (1 : Int32)]) (rest := []) (z_mM_jump (ze_ad E am) Gm y1 y2 y3 (1 : Int32) mr hm) (zy_ap5 _ _) zm_X4_jump zk_XL_86 zv_X4_jump 0 (ci := 4) rfl rfl (by decide) rfl (Nat.le_of_ble_eq_true rfl) (c2 := c) (s2 := s) rfl rfl hf0 (wc_m_addr _ _ _) dn_XL_law_475 ?_
  refine zy_eq (ws2 := wl_w E am o f G1 mr) (zy_ap5 _ _).symm ?_
  refine zz_aload_n cx dn_XL_law_478 rfl rfl ?_
  refine zy_callVi cx (wl := wo_e E o f :: wc_c E G1) (wr := []) (As := []) (rest := []) (z_mM_thrown (ze_ad E am) mr _ ht) (zy_ap5 _ _) zm_X4_thrown zk_XL_67 zv_X4_thrown 0 (ci := 4) rfl rfl (by decide) rfl (Nat.le_of_ble_eq_true rfl) (c2 := c) (s2 := s) rfl rfl hf0 (wc_m_addr _ _ _) dn_XL_law_479 ?_
  refine zy_eq (ws2 := wl_w E am o f G1 mr) (zy_ap5 _ _).symm ?_
  refine zz_iload cx dn_XL_law_482 rfl ?_
  refine zz_icmp_eq_t cx (tgt := 489) dn_XL_law_484 (by decide) rfl ?_
  refine zz_goto cx dn_XL_law_489 (tgt := 926) (by decide) ?_
  refine zz_less (L2 := wl_L E am o b i) ⟨rfl, rfl, rfl, rfl, rfl, trivial⟩ ?_
  exact k
set_option maxHeartbeats 4000000 in
set_option maxRecDepth 100000 in
theorem zl_jump_t1_z1 (E : ze_T) (am : Nat → Nat) (o b L : Nat) (xs : Nat → Int32) (X : zx_T) (cx : zx (zF E) X code rn_XL room_1 7) (sx : zs_ok X b L xs) (hx9 : zh_ok X) (c s : Nat) (hf0 : c ≤ room_1.cells ∧ s ≤ room_1.slots) (f : Nat → Int64) (G Gm : gs_T) (i : Int32) (y1 : Int32) (h1 : vp_in (i + 1) L) (e1 : xs (i + 1).toNatClampNeg = y1) (y2 : Int32) (h2 : vp_in (i + 2) L) (e2 : xs (i + 2).toNatClampNeg = y2) (y3 : Int32) (h3 : vp_in (i + 3) L) (e3 : xs (i + 3).toNatClampNeg = y3) (y4 : Int32) (h4 : vp_in (i + 4) L) (e4 : xs (i + 4).toNatClampNeg = y4) (hz : ¬ y4 = 0) (hf1 : c + 1 ≤ room_1.cells ∧ s + 6 ≤ room_1.slots) (hl : (zF E).1.stackTraces = false) (G1 : gs_T) (hc : cR_jump G y1 y2 y3 (1 : Int32) = some (.inr 1, G1)) (mr : gs_T) (hm : mM_jump Gm y1 y2 y3 (1 : Int32) = some mr) (ht : mM_thrown mr = some (1 : Int32)) (k : zj (zF E) X (c + 1) (s + 6) (wl_w E am o f G1 mr) 926 (wl_L E am o b i) []) : zj (zF E) X c s (wl_w E am o f G Gm) 404 (wl_L E am o b i) [] := by
  refine zz_aload_n cx dn_XL_law_404 rfl rfl ?_
  refine zz_aload_n cx dn_XL_law_405 rfl rfl ?_
  refine zz_iload cx dn_XL_law_406 rfl ?_
  refine zz_iconst cx dn_XL_law_408 (v := (1 : Int32)) (by decide) ?_
  refine zz_iadd cx dn_XL_law_409 ?_
  refine zz_sld cx sx h1 e1 dn_XL_law_410 ?_
  refine zz_aload_n cx dn_XL_law_411 rfl rfl ?_
  refine zz_iload cx dn_XL_law_412 rfl ?_
  refine zz_iconst cx dn_XL_law_414 (v := (2 : Int32)) (by decide) ?_
  refine zz_iadd cx dn_XL_law_415 ?_
  refine zz_sld cx sx h2 e2 dn_XL_law_416 ?_
  refine zz_aload_n cx dn_XL_law_417 rfl rfl ?_
  refine zz_iload cx dn_XL_law_418 rfl ?_
  refine zz_iconst cx dn_XL_law_420 (v := (3 : Int32)) (by decide) ?_
  refine zz_iadd cx dn_XL_law_421 ?_
  refine zz_sld cx sx h3 e3 dn_XL_law_422 ?_
  refine zz_aload_n cx dn_XL_law_423 rfl rfl ?_
  refine zz_iload cx dn_XL_law_424 rfl ?_
  refine zz_iconst cx dn_XL_law_426 (v := (4 : Int32)) (by decide) ?_
  refine zz_iadd cx dn_XL_law_427 ?_
  refine zz_sld cx sx h4 e4 dn_XL_law_428 ?_
  refine zz_if_eq_f cx (tgt := 436) dn_XL_law_429 (by decide) hz ?_
  refine zz_iconst cx dn_XL_law_432 (v := (1 : Int32)) (by decide) ?_
  refine zz_goto cx dn_XL_law_433 (tgt := 437) (by decide) ?_
  refine zy_callW cx (wl := [wo_e E o f]) (wr := wc_m (ze_ad E am) Gm) (As := [.ref (ad_p E 0), .int y1, .int y2, .int y3, .int (1 : Int32)]) (rest := []) (hh9 := []) (n := 5) (zh_jump_t1 E G y1 y2 y3 (1 : Int32) G1 hl hc) (zy_ap4 _ _ _) hx9 zo_XL zw_jump (by decide) (by decide +kernel) zk_XL_83 zs_XL_jump (by decide) rfl (Nat.le_of_ble_eq_true rfl) (c2 := (c + 1)) (s2 := (s + 6)) rfl rfl hf1 (wc_c_addr E _ _) dn_XL_law_437 ?_
  refine zy_eq (ws2 := wl_w E am o f G1 Gm) rfl ?_
  refine zz_istore cx dn_XL_law_440 (by decide) rfl ?_
  refine zz_aload_n cx dn_XL_law_442 rfl rfl ?_
  refine zz_aload_n cx dn_XL_law_443 rfl rfl ?_
  refine zz_iload cx dn_XL_law_444 rfl ?_
  refine zz_iconst cx dn_XL_law_446 (v := (1 : Int32)) (by decide) ?_
  refine zz_iadd cx dn_XL_law_447 ?_
  refine zz_sld cx sx h1 e1 dn_XL_law_448 ?_
  refine zz_aload_n cx dn_XL_law_449 rfl rfl ?_
  refine zz_iload cx dn_XL_law_450 rfl ?_
  refine zz_iconst cx dn_XL_law_452 (v := (2 : Int32)) (by decide) ?_
  refine zz_iadd cx dn_XL_law_453 ?_
  refine zz_sld cx sx h2 e2 dn_XL_law_454 ?_
  refine zz_aload_n cx dn_XL_law_455 rfl rfl ?_
  refine zz_iload cx dn_XL_law_456 rfl ?_
  refine zz_iconst cx dn_XL_law_458 (v := (3 : Int32)) (by decide) ?_
  refine zz_iadd cx dn_XL_law_459 ?_
  refine zz_sld cx sx h3 e3 dn_XL_law_460 ?_
  refine zz_aload_n cx dn_XL_law_461 rfl rfl ?_
  refine zz_iload cx dn_XL_law_462 rfl ?_
  refine zz_iconst cx dn_XL_law_464 (v := (4 : Int32)) (by decide) ?_
  refine zz_iadd cx dn_XL_law_465 ?_
  refine zz_sld cx sx h4 e4 dn_XL_law_466 ?_
  refine zz_if_eq_f cx (tgt := 474) dn_XL_law_467 (by decide) hz ?_
  refine zz_iconst cx dn_XL_law_470 (v := (1 : Int32)) (by decide) ?_
  refine zz_goto cx dn_XL_law_471 (tgt := 475) (by decide) ?_
  refine zy_callVv cx (wl := wo_e E o f :: wc_c E G1) (wr := []) (As := [.int y1, .int y2, .int y3, .int (1 : Int32)]) (rest := []) (z_mM_jump (ze_ad E am) Gm y1 y2 y3 (1 : Int32) mr hm) (zy_ap5 _ _) zm_X4_jump zk_XL_86 zv_X4_jump 0 (ci := 4) rfl rfl (by decide) rfl (Nat.le_of_ble_eq_true rfl) (c2 := (c + 1)) (s2 := (s + 6)) rfl rfl hf1 (wc_m_addr _ _ _) dn_XL_law_475 ?_
  refine zy_eq (ws2 := wl_w E am o f G1 mr) (zy_ap5 _ _).symm ?_
  refine zz_aload_n cx dn_XL_law_478 rfl rfl ?_
  refine zy_callVi cx (wl := wo_e E o f :: wc_c E G1) (wr := []) (As := []) (rest := []) (z_mM_thrown (ze_ad E am) mr _ ht) (zy_ap5 _ _) zm_X4_thrown zk_XL_67 zv_X4_thrown 0 (ci := 4) rfl rfl (by decide) rfl (Nat.le_of_ble_eq_true rfl) (c2 := (c + 1)) (s2 := (s + 6)) rfl rfl hf1 (wc_m_addr _ _ _) dn_XL_law_479 ?_
  refine zy_eq (ws2 := wl_w E am o f G1 mr) (zy_ap5 _ _).symm ?_
  refine zz_iload cx dn_XL_law_482 rfl ?_
  refine zz_icmp_eq_t cx (tgt := 489) dn_XL_law_484 (by decide) rfl ?_
  refine zz_goto cx dn_XL_law_489 (tgt := 926) (by decide) ?_
  refine zz_less (L2 := wl_L E am o b i) ⟨rfl, rfl, rfl, rfl, rfl, trivial⟩ ?_
  exact k
set_option maxHeartbeats 4000000 in
set_option maxRecDepth 100000 in
theorem zl_jump_t2_z1 (E : ze_T) (am : Nat → Nat) (o b L : Nat) (xs : Nat → Int32) (X : zx_T) (cx : zx (zF E) X code rn_XL room_1 7) (sx : zs_ok X b L xs) (hx9 : zh_ok X) (c s : Nat) (hf0 : c ≤ room_1.cells ∧ s ≤ room_1.slots) (f : Nat → Int64) (G Gm : gs_T) (i : Int32) (y1 : Int32) (h1 : vp_in (i + 1) L) (e1 : xs (i + 1).toNatClampNeg = y1) (y2 : Int32) (h2 : vp_in (i + 2) L) (e2 : xs (i + 2).toNatClampNeg = y2) (y3 : Int32) (h3 : vp_in (i + 3) L) (e3 : xs (i + 3).toNatClampNeg = y3) (y4 : Int32) (h4 : vp_in (i + 4) L) (e4 : xs (i + 4).toNatClampNeg = y4) (hz : ¬ y4 = 0) (hf1 : c + 1 ≤ room_1.cells ∧ s + 6 ≤ room_1.slots) (hl : (zF E).1.stackTraces = false) (G1 : gs_T) (hc : cR_jump G y1 y2 y3 (1 : Int32) = some (.inr 2, G1)) (mr : gs_T) (hm : mM_jump Gm y1 y2 y3 (1 : Int32) = some mr) (ht : mM_thrown mr = some (2 : Int32)) (k : zj (zF E) X (c + 1) (s + 6) (wl_w E am o f G1 mr) 926 (wl_L E am o b i) []) : zj (zF E) X c s (wl_w E am o f G Gm) 404 (wl_L E am o b i) [] := by
  refine zz_aload_n cx dn_XL_law_404 rfl rfl ?_
  refine zz_aload_n cx dn_XL_law_405 rfl rfl ?_
  refine zz_iload cx dn_XL_law_406 rfl ?_
  refine zz_iconst cx dn_XL_law_408 (v := (1 : Int32)) (by decide) ?_
  refine zz_iadd cx dn_XL_law_409 ?_
  refine zz_sld cx sx h1 e1 dn_XL_law_410 ?_
  refine zz_aload_n cx dn_XL_law_411 rfl rfl ?_
  refine zz_iload cx dn_XL_law_412 rfl ?_
  refine zz_iconst cx dn_XL_law_414 (v := (2 : Int32)) (by decide) ?_
  refine zz_iadd cx dn_XL_law_415 ?_
  refine zz_sld cx sx h2 e2 dn_XL_law_416 ?_
  refine zz_aload_n cx dn_XL_law_417 rfl rfl ?_
  refine zz_iload cx dn_XL_law_418 rfl ?_
  refine zz_iconst cx dn_XL_law_420 (v := (3 : Int32)) (by decide) ?_
  refine zz_iadd cx dn_XL_law_421 ?_
  refine zz_sld cx sx h3 e3 dn_XL_law_422 ?_
  refine zz_aload_n cx dn_XL_law_423 rfl rfl ?_
  refine zz_iload cx dn_XL_law_424 rfl ?_
  refine zz_iconst cx dn_XL_law_426 (v := (4 : Int32)) (by decide) ?_
  refine zz_iadd cx dn_XL_law_427 ?_
  refine zz_sld cx sx h4 e4 dn_XL_law_428 ?_
  refine zz_if_eq_f cx (tgt := 436) dn_XL_law_429 (by decide) hz ?_
  refine zz_iconst cx dn_XL_law_432 (v := (1 : Int32)) (by decide) ?_
  refine zz_goto cx dn_XL_law_433 (tgt := 437) (by decide) ?_
  refine zy_callW cx (wl := [wo_e E o f]) (wr := wc_m (ze_ad E am) Gm) (As := [.ref (ad_p E 0), .int y1, .int y2, .int y3, .int (1 : Int32)]) (rest := []) (hh9 := []) (n := 5) (zh_jump_t2 E G y1 y2 y3 (1 : Int32) G1 hl hc) (zy_ap4 _ _ _) hx9 zo_XL zw_jump (by decide) (by decide +kernel) zk_XL_83 zs_XL_jump (by decide) rfl (Nat.le_of_ble_eq_true rfl) (c2 := (c + 1)) (s2 := (s + 6)) rfl rfl hf1 (wc_c_addr E _ _) dn_XL_law_437 ?_
  refine zy_eq (ws2 := wl_w E am o f G1 Gm) rfl ?_
  refine zz_istore cx dn_XL_law_440 (by decide) rfl ?_
  refine zz_aload_n cx dn_XL_law_442 rfl rfl ?_
  refine zz_aload_n cx dn_XL_law_443 rfl rfl ?_
  refine zz_iload cx dn_XL_law_444 rfl ?_
  refine zz_iconst cx dn_XL_law_446 (v := (1 : Int32)) (by decide) ?_
  refine zz_iadd cx dn_XL_law_447 ?_
  refine zz_sld cx sx h1 e1 dn_XL_law_448 ?_
  refine zz_aload_n cx dn_XL_law_449 rfl rfl ?_
  refine zz_iload cx dn_XL_law_450 rfl ?_
  refine zz_iconst cx dn_XL_law_452 (v := (2 : Int32)) (by decide) ?_
  refine zz_iadd cx dn_XL_law_453 ?_
  refine zz_sld cx sx h2 e2 dn_XL_law_454 ?_
  refine zz_aload_n cx dn_XL_law_455 rfl rfl ?_
  refine zz_iload cx dn_XL_law_456 rfl ?_
  refine zz_iconst cx dn_XL_law_458 (v := (3 : Int32)) (by decide) ?_
  refine zz_iadd cx dn_XL_law_459 ?_
  refine zz_sld cx sx h3 e3 dn_XL_law_460 ?_
  refine zz_aload_n cx dn_XL_law_461 rfl rfl ?_
  refine zz_iload cx dn_XL_law_462 rfl ?_
  refine zz_iconst cx dn_XL_law_464 (v := (4 : Int32)) (by decide) ?_
  refine zz_iadd cx dn_XL_law_465 ?_
  refine zz_sld cx sx h4 e4 dn_XL_law_466 ?_
  refine zz_if_eq_f cx (tgt := 474) dn_XL_law_467 (by decide) hz ?_
  refine zz_iconst cx dn_XL_law_470 (v := (1 : Int32)) (by decide) ?_
  refine zz_goto cx dn_XL_law_471 (tgt := 475) (by decide) ?_
  refine zy_callVv cx (wl := wo_e E o f :: wc_c E G1) (wr := []) (As := [.int y1, .int y2, .int y3, .int (1 : Int32)]) (rest := []) (z_mM_jump (ze_ad E am) Gm y1 y2 y3 (1 : Int32) mr hm) (zy_ap5 _ _) zm_X4_jump zk_XL_86 zv_X4_jump 0 (ci := 4) rfl rfl (by decide) rfl (Nat.le_of_ble_eq_true rfl) (c2 := (c + 1)) (s2 := (s + 6)) rfl rfl hf1 (wc_m_addr _ _ _) dn_XL_law_475 ?_
  refine zy_eq (ws2 := wl_w E am o f G1 mr) (zy_ap5 _ _).symm ?_
  refine zz_aload_n cx dn_XL_law_478 rfl rfl ?_
  refine zy_callVi cx (wl := wo_e E o f :: wc_c E G1) (wr := []) (As := []) (rest := []) (z_mM_thrown (ze_ad E am) mr _ ht) (zy_ap5 _ _) zm_X4_thrown zk_XL_67 zv_X4_thrown 0 (ci := 4) rfl rfl (by decide) rfl (Nat.le_of_ble_eq_true rfl) (c2 := (c + 1)) (s2 := (s + 6)) rfl rfl hf1 (wc_m_addr _ _ _) dn_XL_law_479 ?_
  refine zy_eq (ws2 := wl_w E am o f G1 mr) (zy_ap5 _ _).symm ?_
  refine zz_iload cx dn_XL_law_482 rfl ?_
  refine zz_icmp_eq_t cx (tgt := 489) dn_XL_law_484 (by decide) rfl ?_
  refine zz_goto cx dn_XL_law_489 (tgt := 926) (by decide) ?_
  refine zz_less (L2 := wl_L E am o b i) ⟨rfl, rfl, rfl, rfl, rfl, trivial⟩ ?_
  exact k
set_option maxHeartbeats 4000000 in
set_option maxRecDepth 100000 in
theorem zl_plain_r (E : ze_T) (am : Nat → Nat) (o b L : Nat) (xs : Nat → Int32) (X : zx_T) (cx : zx (zF E) X code rn_XL room_1 7) (sx : zs_ok X b L xs) (hx9 : zh_ok X) (c s : Nat) (hf0 : c ≤ room_1.cells ∧ s ≤ room_1.slots) (f : Nat → Int64) (G Gm : gs_T) (i : Int32) (y1 : Int32) (h1 : vp_in (i + 1) L) (e1 : xs (i + 1).toNatClampNeg = y1) (G1 : gs_T) (hc : cR_plain G y1 = some (.inl (), G1)) (mr : gs_T) (hm : mM_plain Gm y1 = some mr) (ht : mM_thrown mr = some (0 : Int32)) (k : zj (zF E) X c s (wl_w E am o f G1 mr) 926 (wl_L E am o b i) []) : zj (zF E) X c s (wl_w E am o f G Gm) 492 (wl_L E am o b i) [] := by
  refine zz_aload_n cx dn_XL_law_492 rfl rfl ?_
  refine zz_aload_n cx dn_XL_law_493 rfl rfl ?_
  refine zz_iload cx dn_XL_law_494 rfl ?_
  refine zz_iconst cx dn_XL_law_496 (v := (1 : Int32)) (by decide) ?_
  refine zz_iadd cx dn_XL_law_497 ?_
  refine zz_sld cx sx h1 e1 dn_XL_law_498 ?_
  refine zy_callW cx (wl := [wo_e E o f]) (wr := wc_m (ze_ad E am) Gm) (As := [.ref (ad_p E 0), .int y1]) (rest := []) (hh9 := []) (n := 2) (zh_plain_r E G y1 G1 hc) (zy_ap4 _ _ _) hx9 zo_XL zw_plain (by decide) (by decide +kernel) zk_XL_87 zs_XL_plain (by decide) rfl (Nat.le_of_ble_eq_true rfl) (c2 := c) (s2 := s) rfl rfl hf0 (wc_c_addr E _ _) dn_XL_law_499 ?_
  refine zy_eq (ws2 := wl_w E am o f G1 Gm) rfl ?_
  refine zz_istore cx dn_XL_law_502 (by decide) rfl ?_
  refine zz_aload_n cx dn_XL_law_504 rfl rfl ?_
  refine zz_aload_n cx dn_XL_law_505 rfl rfl ?_
  refine zz_iload cx dn_XL_law_506 rfl ?_
  refine zz_iconst cx dn_XL_law_508 (v := (1 : Int32)) (by decide) ?_
  refine zz_iadd cx dn_XL_law_509 ?_
  refine zz_sld cx sx h1 e1 dn_XL_law_510 ?_
  refine zy_callVv cx (wl := wo_e E o f :: wc_c E G1) (wr := []) (As := [.int y1]) (rest := []) (z_mM_plain (ze_ad E am) Gm y1 mr hm) (zy_ap5 _ _) zm_X4_plain zk_XL_90 zv_X4_plain 0 (ci := 4) rfl rfl (by decide) rfl (Nat.le_of_ble_eq_true rfl) (c2 := c) (s2 := s) rfl rfl hf0 (wc_m_addr _ _ _) dn_XL_law_511 ?_
  refine zy_eq (ws2 := wl_w E am o f G1 mr) (zy_ap5 _ _).symm ?_
  refine zz_aload_n cx dn_XL_law_514 rfl rfl ?_
  refine zy_callVi cx (wl := wo_e E o f :: wc_c E G1) (wr := []) (As := []) (rest := []) (z_mM_thrown (ze_ad E am) mr _ ht) (zy_ap5 _ _) zm_X4_thrown zk_XL_67 zv_X4_thrown 0 (ci := 4) rfl rfl (by decide) rfl (Nat.le_of_ble_eq_true rfl) (c2 := c) (s2 := s) rfl rfl hf0 (wc_m_addr _ _ _) dn_XL_law_515 ?_
  refine zy_eq (ws2 := wl_w E am o f G1 mr) (zy_ap5 _ _).symm ?_
  refine zz_iload cx dn_XL_law_518 rfl ?_
  refine zz_icmp_eq_t cx (tgt := 525) dn_XL_law_520 (by decide) rfl ?_
  refine zz_goto cx dn_XL_law_525 (tgt := 926) (by decide) ?_
  refine zz_less (L2 := wl_L E am o b i) ⟨rfl, rfl, rfl, rfl, rfl, trivial⟩ ?_
  exact k
set_option maxHeartbeats 4000000 in
set_option maxRecDepth 100000 in
theorem zl_plain_t1 (E : ze_T) (am : Nat → Nat) (o b L : Nat) (xs : Nat → Int32) (X : zx_T) (cx : zx (zF E) X code rn_XL room_1 7) (sx : zs_ok X b L xs) (hx9 : zh_ok X) (c s : Nat) (hf0 : c ≤ room_1.cells ∧ s ≤ room_1.slots) (f : Nat → Int64) (G Gm : gs_T) (i : Int32) (y1 : Int32) (h1 : vp_in (i + 1) L) (e1 : xs (i + 1).toNatClampNeg = y1) (hf1 : c + 1 ≤ room_1.cells ∧ s + 6 ≤ room_1.slots) (hl : (zF E).1.stackTraces = false) (G1 : gs_T) (hc : cR_plain G y1 = some (.inr 1, G1)) (mr : gs_T) (hm : mM_plain Gm y1 = some mr) (ht : mM_thrown mr = some (1 : Int32)) (k : zj (zF E) X (c + 1) (s + 6) (wl_w E am o f G1 mr) 926 (wl_L E am o b i) []) : zj (zF E) X c s (wl_w E am o f G Gm) 492 (wl_L E am o b i) [] := by
  refine zz_aload_n cx dn_XL_law_492 rfl rfl ?_
  refine zz_aload_n cx dn_XL_law_493 rfl rfl ?_
  refine zz_iload cx dn_XL_law_494 rfl ?_
  refine zz_iconst cx dn_XL_law_496 (v := (1 : Int32)) (by decide) ?_
  refine zz_iadd cx dn_XL_law_497 ?_
  refine zz_sld cx sx h1 e1 dn_XL_law_498 ?_
  refine zy_callW cx (wl := [wo_e E o f]) (wr := wc_m (ze_ad E am) Gm) (As := [.ref (ad_p E 0), .int y1]) (rest := []) (hh9 := []) (n := 2) (zh_plain_t1 E G y1 G1 hl hc) (zy_ap4 _ _ _) hx9 zo_XL zw_plain (by decide) (by decide +kernel) zk_XL_87 zs_XL_plain (by decide) rfl (Nat.le_of_ble_eq_true rfl) (c2 := (c + 1)) (s2 := (s + 6)) rfl rfl hf1 (wc_c_addr E _ _) dn_XL_law_499 ?_
  refine zy_eq (ws2 := wl_w E am o f G1 Gm) rfl ?_
  refine zz_istore cx dn_XL_law_502 (by decide) rfl ?_
  refine zz_aload_n cx dn_XL_law_504 rfl rfl ?_
  refine zz_aload_n cx dn_XL_law_505 rfl rfl ?_
  refine zz_iload cx dn_XL_law_506 rfl ?_
  refine zz_iconst cx dn_XL_law_508 (v := (1 : Int32)) (by decide) ?_
  refine zz_iadd cx dn_XL_law_509 ?_
  refine zz_sld cx sx h1 e1 dn_XL_law_510 ?_
  refine zy_callVv cx (wl := wo_e E o f :: wc_c E G1) (wr := []) (As := [.int y1]) (rest := []) (z_mM_plain (ze_ad E am) Gm y1 mr hm) (zy_ap5 _ _) zm_X4_plain zk_XL_90 zv_X4_plain 0 (ci := 4) rfl rfl (by decide) rfl (Nat.le_of_ble_eq_true rfl) (c2 := (c + 1)) (s2 := (s + 6)) rfl rfl hf1 (wc_m_addr _ _ _) dn_XL_law_511 ?_
  refine zy_eq (ws2 := wl_w E am o f G1 mr) (zy_ap5 _ _).symm ?_
  refine zz_aload_n cx dn_XL_law_514 rfl rfl ?_
  refine zy_callVi cx (wl := wo_e E o f :: wc_c E G1) (wr := []) (As := []) (rest := []) (z_mM_thrown (ze_ad E am) mr _ ht) (zy_ap5 _ _) zm_X4_thrown zk_XL_67 zv_X4_thrown 0 (ci := 4) rfl rfl (by decide) rfl (Nat.le_of_ble_eq_true rfl) (c2 := (c + 1)) (s2 := (s + 6)) rfl rfl hf1 (wc_m_addr _ _ _) dn_XL_law_515 ?_
  refine zy_eq (ws2 := wl_w E am o f G1 mr) (zy_ap5 _ _).symm ?_
  refine zz_iload cx dn_XL_law_518 rfl ?_
  refine zz_icmp_eq_t cx (tgt := 525) dn_XL_law_520 (by decide) rfl ?_
  refine zz_goto cx dn_XL_law_525 (tgt := 926) (by decide) ?_
  refine zz_less (L2 := wl_L E am o b i) ⟨rfl, rfl, rfl, rfl, rfl, trivial⟩ ?_
  exact k
set_option maxHeartbeats 4000000 in
set_option maxRecDepth 100000 in
theorem zl_plain_t0 (E : ze_T) (am : Nat → Nat) (o b L : Nat) (xs : Nat → Int32) (X : zx_T) (cx : zx (zF E) X code rn_XL room_1 7) (sx : zs_ok X b L xs) (hx9 : zh_ok X) (c s : Nat) (hf0 : c ≤ room_1.cells ∧ s ≤ room_1.slots) (f : Nat → Int64) (G Gm : gs_T) (i : Int32) (y1 : Int32) (h1 : vp_in (i + 1) L) (e1 : xs (i + 1).toNatClampNeg = y1) (hf1 : c + 1 ≤ room_1.cells ∧ s + 6 ≤ room_1.slots) (hl : (zF E).1.stackTraces = false) (G1 : gs_T) (hc : cR_plain G y1 = some (.inr 0, G1)) (mr : gs_T) (hm : mM_plain Gm y1 = some mr) (ht : mM_thrown mr = some (2 : Int32)) (k : zj (zF E) X (c + 1) (s + 6) (wl_w E am o f G1 mr) 926 (wl_L E am o b i) []) : zj (zF E) X c s (wl_w E am o f G Gm) 492 (wl_L E am o b i) [] := by
  refine zz_aload_n cx dn_XL_law_492 rfl rfl ?_
  refine zz_aload_n cx dn_XL_law_493 rfl rfl ?_
  refine zz_iload cx dn_XL_law_494 rfl ?_
  refine zz_iconst cx dn_XL_law_496 (v := (1 : Int32)) (by decide) ?_
  refine zz_iadd cx dn_XL_law_497 ?_
  refine zz_sld cx sx h1 e1 dn_XL_law_498 ?_
  refine zy_callW cx (wl := [wo_e E o f]) (wr := wc_m (ze_ad E am) Gm) (As := [.ref (ad_p E 0), .int y1]) (rest := []) (hh9 := []) (n := 2) (zh_plain_t0 E G y1 G1 hl hc) (zy_ap4 _ _ _) hx9 zo_XL zw_plain (by decide) (by decide +kernel) zk_XL_87 zs_XL_plain (by decide) rfl (Nat.le_of_ble_eq_true rfl) (c2 := (c + 1)) (s2 := (s + 6)) rfl rfl hf1 (wc_c_addr E _ _) dn_XL_law_499 ?_
  refine zy_eq (ws2 := wl_w E am o f G1 Gm) rfl ?_
  refine zz_istore cx dn_XL_law_502 (by decide) rfl ?_
  refine zz_aload_n cx dn_XL_law_504 rfl rfl ?_
  refine zz_aload_n cx dn_XL_law_505 rfl rfl ?_
  refine zz_iload cx dn_XL_law_506 rfl ?_
  refine zz_iconst cx dn_XL_law_508 (v := (1 : Int32)) (by decide) ?_
  refine zz_iadd cx dn_XL_law_509 ?_
  refine zz_sld cx sx h1 e1 dn_XL_law_510 ?_
  refine zy_callVv cx (wl := wo_e E o f :: wc_c E G1) (wr := []) (As := [.int y1]) (rest := []) (z_mM_plain (ze_ad E am) Gm y1 mr hm) (zy_ap5 _ _) zm_X4_plain zk_XL_90 zv_X4_plain 0 (ci := 4) rfl rfl (by decide) rfl (Nat.le_of_ble_eq_true rfl) (c2 := (c + 1)) (s2 := (s + 6)) rfl rfl hf1 (wc_m_addr _ _ _) dn_XL_law_511 ?_
  refine zy_eq (ws2 := wl_w E am o f G1 mr) (zy_ap5 _ _).symm ?_
  refine zz_aload_n cx dn_XL_law_514 rfl rfl ?_
  refine zy_callVi cx (wl := wo_e E o f :: wc_c E G1) (wr := []) (As := []) (rest := []) (z_mM_thrown (ze_ad E am) mr _ ht) (zy_ap5 _ _) zm_X4_thrown zk_XL_67 zv_X4_thrown 0 (ci := 4) rfl rfl (by decide) rfl (Nat.le_of_ble_eq_true rfl) (c2 := (c + 1)) (s2 := (s + 6)) rfl rfl hf1 (wc_m_addr _ _ _) dn_XL_law_515 ?_
  refine zy_eq (ws2 := wl_w E am o f G1 mr) (zy_ap5 _ _).symm ?_
  refine zz_iload cx dn_XL_law_518 rfl ?_
  refine zz_icmp_eq_t cx (tgt := 525) dn_XL_law_520 (by decide) rfl ?_
  refine zz_goto cx dn_XL_law_525 (tgt := 926) (by decide) ?_
  refine zz_less (L2 := wl_L E am o b i) ⟨rfl, rfl, rfl, rfl, rfl, trivial⟩ ?_
  exact k
set_option maxHeartbeats 4000000 in
set_option maxRecDepth 100000 in
theorem zl_unfold (E : ze_T) (am : Nat → Nat) (o b L : Nat) (xs : Nat → Int32) (X : zx_T) (cx : zx (zF E) X code rn_XL room_1 7) (sx : zs_ok X b L xs) (hx9 : zh_ok X) (c s : Nat) (hf0 : c ≤ room_1.cells ∧ s ≤ room_1.slots) (f : Nat → Int64) (G Gm : gs_T) (i : Int32) (n : Nat) (k9 : Nat) (rc : (Int32 × gs_T)) (hc : cR_unfold n G = some rc) (mr : Int32 × gs_T) (hm : mM_unfold k9 Gm = some mr) (hv : rc.1 = mr.1) (k : zj (zF E) X c s (wl_w E am o f rc.2 mr.2) 926 (wl_L E am o b i) []) : zj (zF E) X c s (wl_w E am o f G Gm) 528 (wl_L E am o b i) [] := by
  refine zz_aload_n cx dn_XL_law_528 rfl rfl ?_
  refine zy_callVi cx (wl := [wo_e E o f]) (wr := wc_m (ze_ad E am) Gm) (As := []) (rest := []) (z_cR_unfold E n G rc hc) (zy_ap4 _ _ _) zm_X0_unfold zk_XL_91 zv_X0_unfold 0 (ci := 0) rfl rfl (by decide) rfl (Nat.le_of_ble_eq_true rfl) (c2 := c) (s2 := s) rfl rfl hf0 (wc_c_addr E _ _) dn_XL_law_529 ?_
  refine zy_eq (ws2 := wl_w E am o f rc.2 Gm) rfl ?_
  refine zz_aload_n cx dn_XL_law_532 rfl rfl ?_
  refine zy_callVi cx (wl := wo_e E o f :: wc_c E rc.2) (wr := []) (As := []) (rest := [.int rc.1]) (z_mM_unfold (ze_ad E am) k9 Gm mr hm) (zy_ap5 _ _) zm_X4_unfold zk_XL_94 zv_X4_unfold 0 (ci := 4) rfl rfl (by decide) rfl (Nat.le_of_ble_eq_true rfl) (c2 := c) (s2 := s) rfl rfl hf0 (wc_m_addr _ _ _) dn_XL_law_533 ?_
  refine zy_eq (ws2 := wl_w E am o f rc.2 mr.2) (zy_ap5 _ _).symm ?_
  refine zz_icmp_eq_t cx (tgt := 926) dn_XL_law_536 (by decide) hv ?_
  exact k
set_option maxHeartbeats 4000000 in
set_option maxRecDepth 100000 in
theorem zl_fault (E : ze_T) (am : Nat → Nat) (o b L : Nat) (xs : Nat → Int32) (X : zx_T) (cx : zx (zF E) X code rn_XL room_1 7) (sx : zs_ok X b L xs) (hx9 : zh_ok X) (c s : Nat) (hf0 : c ≤ room_1.cells ∧ s ≤ room_1.slots) (f : Nat → Int64) (G Gm : gs_T) (i : Int32) (rc : Int32) (hc : cR_fault G = some rc) (mr : Int32 × gs_T) (hm : mM_fault Gm = some mr) (hv : rc = mr.1) (k : zj (zF E) X c s (wl_w E am o f G mr.2) 926 (wl_L E am o b i) []) : zj (zF E) X c s (wl_w E am o f G Gm) 541 (wl_L E am o b i) [] := by
  refine zz_aload_n cx dn_XL_law_541 rfl rfl ?_
  refine zy_callVi cx (wl := [wo_e E o f]) (wr := wc_m (ze_ad E am) Gm) (As := []) (rest := []) (z_cR_fault E G rc hc) (zy_ap4 _ _ _) zm_X0_fault zk_XL_95 zv_X0_fault 0 (ci := 0) rfl rfl (by decide) rfl (Nat.le_of_ble_eq_true rfl) (c2 := c) (s2 := s) rfl rfl hf0 (wc_c_addr E _ _) dn_XL_law_542 ?_
  refine zy_eq (ws2 := wl_w E am o f G Gm) rfl ?_
  refine zz_aload_n cx dn_XL_law_545 rfl rfl ?_
  refine zy_callVi cx (wl := wo_e E o f :: wc_c E G) (wr := []) (As := []) (rest := [.int rc]) (z_mM_fault (ze_ad E am) Gm mr hm) (zy_ap5 _ _) zm_X4_fault zk_XL_98 zv_X4_fault 0 (ci := 4) rfl rfl (by decide) rfl (Nat.le_of_ble_eq_true rfl) (c2 := c) (s2 := s) rfl rfl hf0 (wc_m_addr _ _ _) dn_XL_law_546 ?_
  refine zy_eq (ws2 := wl_w E am o f G mr.2) (zy_ap5 _ _).symm ?_
  refine zz_icmp_eq_t cx (tgt := 926) dn_XL_law_549 (by decide) hv ?_
  exact k
set_option maxHeartbeats 4000000 in
set_option maxRecDepth 100000 in
theorem zl_played_r (E : ze_T) (am : Nat → Nat) (o b L : Nat) (xs : Nat → Int32) (X : zx_T) (cx : zx (zF E) X code rn_XL room_1 7) (sx : zs_ok X b L xs) (hx9 : zh_ok X) (c s : Nat) (hf0 : c ≤ room_1.cells ∧ s ≤ room_1.slots) (f : Nat → Int64) (G Gm : gs_T) (i : Int32) (y1 : Int32) (h1 : vp_in (i + 1) L) (e1 : xs (i + 1).toNatClampNeg = y1) (y2 : Int32) (h2 : vp_in (i + 2) L) (e2 : xs (i + 2).toNatClampNeg = y2) (rv : Int32) (G1 : gs_T) (hc : cR_played G y1 y2 = some (.inl rv, G1)) (mr : Int32 × gs_T) (hm : mM_played Gm y1 y2 = some mr) (ht : mM_thrown mr.2 = some (0 : Int32)) (hv : rv = mr.1) (k : zj (zF E) X c s (wl_w E am o (vp_updL f 0 rv.toInt64) G1 mr.2) 926 (wl_L E am o b i) []) : zj (zF E) X c s (wl_w E am o f G Gm) 554 (wl_L E am o b i) [] := by
  refine zz_aload_n cx dn_XL_law_554 rfl rfl ?_
  refine zz_aload_n cx dn_XL_law_555 rfl rfl ?_
  refine zz_iload cx dn_XL_law_556 rfl ?_
  refine zz_iconst cx dn_XL_law_558 (v := (1 : Int32)) (by decide) ?_
  refine zz_iadd cx dn_XL_law_559 ?_
  refine zz_sld cx sx h1 e1 dn_XL_law_560 ?_
  refine zz_aload_n cx dn_XL_law_561 rfl rfl ?_
  refine zz_iload cx dn_XL_law_562 rfl ?_
  refine zz_iconst cx dn_XL_law_564 (v := (2 : Int32)) (by decide) ?_
  refine zz_iadd cx dn_XL_law_565 ?_
  refine zz_sld cx sx h2 e2 dn_XL_law_566 ?_
  refine zz_aload_n cx dn_XL_law_567 rfl rfl ?_
  refine zy_callW cx (wl := []) (wr := wc_m (ze_ad E am) Gm) (As := [.ref (ad_p E 0), .int y1, .int y2, .ref o]) (rest := []) (hh9 := []) (n := 4) (zh_played_r E o f G y1 y2 rv G1 hc) (zy_ap6 _ _) hx9 zo_XL zw_played (by decide) (by decide +kernel) zk_XL_99 zs_XL_played (by decide) rfl (Nat.le_of_ble_eq_true rfl) (c2 := c) (s2 := s) rfl rfl hf0 (zy_ad2 (wc_c_addr E _ _)) dn_XL_law_568 ?_
  refine zy_eq (ws2 := wl_w E am o (vp_updL f 0 rv.toInt64) G1 Gm) rfl ?_
  refine zz_istore cx dn_XL_law_571 (by decide) rfl ?_
  refine zz_aload_n cx dn_XL_law_573 rfl rfl ?_
  refine zz_aload_n cx dn_XL_law_574 rfl rfl ?_
  refine zz_iload cx dn_XL_law_575 rfl ?_
  refine zz_iconst cx dn_XL_law_577 (v := (1 : Int32)) (by decide) ?_
  refine zz_iadd cx dn_XL_law_578 ?_
  refine zz_sld cx sx h1 e1 dn_XL_law_579 ?_
  refine zz_aload_n cx dn_XL_law_580 rfl rfl ?_
  refine zz_iload cx dn_XL_law_581 rfl ?_
  refine zz_iconst cx dn_XL_law_583 (v := (2 : Int32)) (by decide) ?_
  refine zz_iadd cx dn_XL_law_584 ?_
  refine zz_sld cx sx h2 e2 dn_XL_law_585 ?_
  refine zy_callVi cx (wl := wo_e E o (vp_updL f 0 rv.toInt64) :: wc_c E G1) (wr := []) (As := [.int y1, .int y2]) (rest := []) (z_mM_played (ze_ad E am) Gm y1 y2 mr hm) (zy_ap5 _ _) zm_X4_played zk_XL_101 zv_X4_played 0 (ci := 4) rfl rfl (by decide) rfl (Nat.le_of_ble_eq_true rfl) (c2 := c) (s2 := s) rfl rfl hf0 (wc_m_addr _ _ _) dn_XL_law_586 ?_
  refine zy_eq (ws2 := wl_w E am o (vp_updL f 0 rv.toInt64) G1 mr.2) (zy_ap5 _ _).symm ?_
  refine zz_istore cx dn_XL_law_589 (by decide) rfl ?_
  refine zz_aload_n cx dn_XL_law_591 rfl rfl ?_
  refine zy_callVi cx (wl := wo_e E o (vp_updL f 0 rv.toInt64) :: wc_c E G1) (wr := []) (As := []) (rest := []) (z_mM_thrown (ze_ad E am) mr.2 _ ht) (zy_ap5 _ _) zm_X4_thrown zk_XL_67 zv_X4_thrown 0 (ci := 4) rfl rfl (by decide) rfl (Nat.le_of_ble_eq_true rfl) (c2 := c) (s2 := s) rfl rfl hf0 (wc_m_addr _ _ _) dn_XL_law_592 ?_
  refine zy_eq (ws2 := wl_w E am o (vp_updL f 0 rv.toInt64) G1 mr.2) (zy_ap5 _ _).symm ?_
  refine zz_iload cx dn_XL_law_595 rfl ?_
  refine zz_icmp_eq_t cx (tgt := 602) dn_XL_law_597 (by decide) rfl ?_
  refine zz_iload cx dn_XL_law_602 rfl ?_
  refine zz_if_ne_f cx (tgt := 619) dn_XL_law_604 (by decide) (by decide) ?_
  refine zz_aload_n cx dn_XL_law_607 rfl rfl ?_
  refine zz_iconst cx dn_XL_law_608 (v := (0 : Int32)) (by decide) ?_
  refine zz_lald cx 0 2 rfl rfl zi_01 (zy_up0 _ _) dn_XL_law_609 ?_
  refine zz_iload cx dn_XL_law_610 rfl ?_
  refine zz_i2l cx dn_XL_law_612 ?_
  refine zz_lcmp cx dn_XL_law_613 ?_
  rw [show lg_cmp rv.toInt64 mr.1.toInt64 = 0 by rw [hv, zy_cmp]]
  refine zz_if_eq_t cx (tgt := 619) dn_XL_law_614 (by decide) rfl ?_
  refine zz_goto cx dn_XL_law_619 (tgt := 926) (by decide) ?_
  refine zz_less (L2 := wl_L E am o b i) ⟨rfl, rfl, rfl, rfl, rfl, trivial⟩ ?_
  exact k
set_option maxHeartbeats 4000000 in
set_option maxRecDepth 100000 in
theorem zl_played_t1 (E : ze_T) (am : Nat → Nat) (o b L : Nat) (xs : Nat → Int32) (X : zx_T) (cx : zx (zF E) X code rn_XL room_1 7) (sx : zs_ok X b L xs) (hx9 : zh_ok X) (c s : Nat) (hf0 : c ≤ room_1.cells ∧ s ≤ room_1.slots) (f : Nat → Int64) (G Gm : gs_T) (i : Int32) (y1 : Int32) (h1 : vp_in (i + 1) L) (e1 : xs (i + 1).toNatClampNeg = y1) (y2 : Int32) (h2 : vp_in (i + 2) L) (e2 : xs (i + 2).toNatClampNeg = y2) (hf1 : c + 1 ≤ room_1.cells ∧ s + 6 ≤ room_1.slots) (hl : (zF E).1.stackTraces = false) (G1 : gs_T) (hc : cR_played G y1 y2 = some (.inr 1, G1)) (mr : Int32 × gs_T) (hm : mM_played Gm y1 y2 = some mr) (ht : mM_thrown mr.2 = some (1 : Int32)) (k : zj (zF E) X (c + 1) (s + 6) (wl_w E am o f G1 mr.2) 926 (wl_L E am o b i) []) : zj (zF E) X c s (wl_w E am o f G Gm) 554 (wl_L E am o b i) [] := by
  refine zz_aload_n cx dn_XL_law_554 rfl rfl ?_
  refine zz_aload_n cx dn_XL_law_555 rfl rfl ?_
  refine zz_iload cx dn_XL_law_556 rfl ?_
  refine zz_iconst cx dn_XL_law_558 (v := (1 : Int32)) (by decide) ?_
  refine zz_iadd cx dn_XL_law_559 ?_
  refine zz_sld cx sx h1 e1 dn_XL_law_560 ?_
  refine zz_aload_n cx dn_XL_law_561 rfl rfl ?_
  refine zz_iload cx dn_XL_law_562 rfl ?_
  refine zz_iconst cx dn_XL_law_564 (v := (2 : Int32)) (by decide) ?_
  refine zz_iadd cx dn_XL_law_565 ?_
  refine zz_sld cx sx h2 e2 dn_XL_law_566 ?_
  refine zz_aload_n cx dn_XL_law_567 rfl rfl ?_
  refine zy_callW cx (wl := []) (wr := wc_m (ze_ad E am) Gm) (As := [.ref (ad_p E 0), .int y1, .int y2, .ref o]) (rest := []) (hh9 := []) (n := 4) (zh_played_t1 E o f G y1 y2 G1 hl hc) (zy_ap6 _ _) hx9 zo_XL zw_played (by decide) (by decide +kernel) zk_XL_99 zs_XL_played (by decide) rfl (Nat.le_of_ble_eq_true rfl) (c2 := (c + 1)) (s2 := (s + 6)) rfl rfl hf1 (zy_ad2 (wc_c_addr E _ _)) dn_XL_law_568 ?_
  refine zy_eq (ws2 := wl_w E am o f G1 Gm) rfl ?_
  refine zz_istore cx dn_XL_law_571 (by decide) rfl ?_
  refine zz_aload_n cx dn_XL_law_573 rfl rfl ?_
  refine zz_aload_n cx dn_XL_law_574 rfl rfl ?_
  refine zz_iload cx dn_XL_law_575 rfl ?_
  refine zz_iconst cx dn_XL_law_577 (v := (1 : Int32)) (by decide) ?_
  refine zz_iadd cx dn_XL_law_578 ?_
  refine zz_sld cx sx h1 e1 dn_XL_law_579 ?_
  refine zz_aload_n cx dn_XL_law_580 rfl rfl ?_
  refine zz_iload cx dn_XL_law_581 rfl ?_
  refine zz_iconst cx dn_XL_law_583 (v := (2 : Int32)) (by decide) ?_
  refine zz_iadd cx dn_XL_law_584 ?_
  refine zz_sld cx sx h2 e2 dn_XL_law_585 ?_
  refine zy_callVi cx (wl := wo_e E o f :: wc_c E G1) (wr := []) (As := [.int y1, .int y2]) (rest := []) (z_mM_played (ze_ad E am) Gm y1 y2 mr hm) (zy_ap5 _ _) zm_X4_played zk_XL_101 zv_X4_played 0 (ci := 4) rfl rfl (by decide) rfl (Nat.le_of_ble_eq_true rfl) (c2 := (c + 1)) (s2 := (s + 6)) rfl rfl hf1 (wc_m_addr _ _ _) dn_XL_law_586 ?_
  refine zy_eq (ws2 := wl_w E am o f G1 mr.2) (zy_ap5 _ _).symm ?_
  refine zz_istore cx dn_XL_law_589 (by decide) rfl ?_
  refine zz_aload_n cx dn_XL_law_591 rfl rfl ?_
  refine zy_callVi cx (wl := wo_e E o f :: wc_c E G1) (wr := []) (As := []) (rest := []) (z_mM_thrown (ze_ad E am) mr.2 _ ht) (zy_ap5 _ _) zm_X4_thrown zk_XL_67 zv_X4_thrown 0 (ci := 4) rfl rfl (by decide) rfl (Nat.le_of_ble_eq_true rfl) (c2 := (c + 1)) (s2 := (s + 6)) rfl rfl hf1 (wc_m_addr _ _ _) dn_XL_law_592 ?_
  refine zy_eq (ws2 := wl_w E am o f G1 mr.2) (zy_ap5 _ _).symm ?_
  refine zz_iload cx dn_XL_law_595 rfl ?_
  refine zz_icmp_eq_t cx (tgt := 602) dn_XL_law_597 (by decide) rfl ?_
  refine zz_iload cx dn_XL_law_602 rfl ?_
  refine zz_if_ne_t cx (tgt := 619) dn_XL_law_604 (by decide) (by decide) ?_
  refine zz_goto cx dn_XL_law_619 (tgt := 926) (by decide) ?_
  refine zz_less (L2 := wl_L E am o b i) ⟨rfl, rfl, rfl, rfl, rfl, trivial⟩ ?_
  exact k
set_option maxHeartbeats 4000000 in
set_option maxRecDepth 100000 in
theorem zl_played_t2 (E : ze_T) (am : Nat → Nat) (o b L : Nat) (xs : Nat → Int32) (X : zx_T) (cx : zx (zF E) X code rn_XL room_1 7) (sx : zs_ok X b L xs) (hx9 : zh_ok X) (c s : Nat) (hf0 : c ≤ room_1.cells ∧ s ≤ room_1.slots) (f : Nat → Int64) (G Gm : gs_T) (i : Int32) (y1 : Int32) (h1 : vp_in (i + 1) L) (e1 : xs (i + 1).toNatClampNeg = y1) (y2 : Int32) (h2 : vp_in (i + 2) L) (e2 : xs (i + 2).toNatClampNeg = y2) (hf1 : c + 1 ≤ room_1.cells ∧ s + 6 ≤ room_1.slots) (hl : (zF E).1.stackTraces = false) (G1 : gs_T) (hc : cR_played G y1 y2 = some (.inr 2, G1)) (mr : Int32 × gs_T) (hm : mM_played Gm y1 y2 = some mr) (ht : mM_thrown mr.2 = some (2 : Int32)) (k : zj (zF E) X (c + 1) (s + 6) (wl_w E am o f G1 mr.2) 926 (wl_L E am o b i) []) : zj (zF E) X c s (wl_w E am o f G Gm) 554 (wl_L E am o b i) [] := by
  refine zz_aload_n cx dn_XL_law_554 rfl rfl ?_
  refine zz_aload_n cx dn_XL_law_555 rfl rfl ?_
  refine zz_iload cx dn_XL_law_556 rfl ?_
  refine zz_iconst cx dn_XL_law_558 (v := (1 : Int32)) (by decide) ?_
  refine zz_iadd cx dn_XL_law_559 ?_
  refine zz_sld cx sx h1 e1 dn_XL_law_560 ?_
  refine zz_aload_n cx dn_XL_law_561 rfl rfl ?_
  refine zz_iload cx dn_XL_law_562 rfl ?_
  refine zz_iconst cx dn_XL_law_564 (v := (2 : Int32)) (by decide) ?_
  refine zz_iadd cx dn_XL_law_565 ?_
  refine zz_sld cx sx h2 e2 dn_XL_law_566 ?_
  refine zz_aload_n cx dn_XL_law_567 rfl rfl ?_
  refine zy_callW cx (wl := []) (wr := wc_m (ze_ad E am) Gm) (As := [.ref (ad_p E 0), .int y1, .int y2, .ref o]) (rest := []) (hh9 := []) (n := 4) (zh_played_t2 E o f G y1 y2 G1 hl hc) (zy_ap6 _ _) hx9 zo_XL zw_played (by decide) (by decide +kernel) zk_XL_99 zs_XL_played (by decide) rfl (Nat.le_of_ble_eq_true rfl) (c2 := (c + 1)) (s2 := (s + 6)) rfl rfl hf1 (zy_ad2 (wc_c_addr E _ _)) dn_XL_law_568 ?_
  refine zy_eq (ws2 := wl_w E am o f G1 Gm) rfl ?_
  refine zz_istore cx dn_XL_law_571 (by decide) rfl ?_
  refine zz_aload_n cx dn_XL_law_573 rfl rfl ?_
  refine zz_aload_n cx dn_XL_law_574 rfl rfl ?_
  refine zz_iload cx dn_XL_law_575 rfl ?_
  refine zz_iconst cx dn_XL_law_577 (v := (1 : Int32)) (by decide) ?_
  refine zz_iadd cx dn_XL_law_578 ?_
  refine zz_sld cx sx h1 e1 dn_XL_law_579 ?_
  refine zz_aload_n cx dn_XL_law_580 rfl rfl ?_
  refine zz_iload cx dn_XL_law_581 rfl ?_
  refine zz_iconst cx dn_XL_law_583 (v := (2 : Int32)) (by decide) ?_
  refine zz_iadd cx dn_XL_law_584 ?_
  refine zz_sld cx sx h2 e2 dn_XL_law_585 ?_
  refine zy_callVi cx (wl := wo_e E o f :: wc_c E G1) (wr := []) (As := [.int y1, .int y2]) (rest := []) (z_mM_played (ze_ad E am) Gm y1 y2 mr hm) (zy_ap5 _ _) zm_X4_played zk_XL_101 zv_X4_played 0 (ci := 4) rfl rfl (by decide) rfl (Nat.le_of_ble_eq_true rfl) (c2 := (c + 1)) (s2 := (s + 6)) rfl rfl hf1 (wc_m_addr _ _ _) dn_XL_law_586 ?_
  refine zy_eq (ws2 := wl_w E am o f G1 mr.2) (zy_ap5 _ _).symm ?_
  refine zz_istore cx dn_XL_law_589 (by decide) rfl ?_
  refine zz_aload_n cx dn_XL_law_591 rfl rfl ?_
  refine zy_callVi cx (wl := wo_e E o f :: wc_c E G1) (wr := []) (As := []) (rest := []) (z_mM_thrown (ze_ad E am) mr.2 _ ht) (zy_ap5 _ _) zm_X4_thrown zk_XL_67 zv_X4_thrown 0 (ci := 4) rfl rfl (by decide) rfl (Nat.le_of_ble_eq_true rfl) (c2 := (c + 1)) (s2 := (s + 6)) rfl rfl hf1 (wc_m_addr _ _ _) dn_XL_law_592 ?_
  refine zy_eq (ws2 := wl_w E am o f G1 mr.2) (zy_ap5 _ _).symm ?_
  refine zz_iload cx dn_XL_law_595 rfl ?_
  refine zz_icmp_eq_t cx (tgt := 602) dn_XL_law_597 (by decide) rfl ?_
  refine zz_iload cx dn_XL_law_602 rfl ?_
  refine zz_if_ne_t cx (tgt := 619) dn_XL_law_604 (by decide) (by decide) ?_
  refine zz_goto cx dn_XL_law_619 (tgt := 926) (by decide) ?_
  refine zz_less (L2 := wl_L E am o b i) ⟨rfl, rfl, rfl, rfl, rfl, trivial⟩ ?_
  exact k
set_option maxHeartbeats 4000000 in
set_option maxRecDepth 100000 in
theorem zl_times_r (E : ze_T) (am : Nat → Nat) (o b L : Nat) (xs : Nat → Int32) (X : zx_T) (cx : zx (zF E) X code rn_XL room_1 7) (sx : zs_ok X b L xs) (hx9 : zh_ok X) (c s : Nat) (hf0 : c ≤ room_1.cells ∧ s ≤ room_1.slots) (f : Nat → Int64) (G Gm : gs_T) (i : Int32) (y1 : Int32) (h1 : vp_in (i + 1) L) (e1 : xs (i + 1).toNatClampNeg = y1) (k9 : Nat) (rv : Int32) (G1 : gs_T) (hc : cR_times G y1 = some (.inl rv, G1)) (mr : Int32 × gs_T) (hm : mM_times k9 Gm y1 = some mr) (ht : mM_thrown mr.2 = some (0 : Int32)) (hv : rv = mr.1) (k : zj (zF E) X c s (wl_w E am o (vp_updL f 0 rv.toInt64) G1 mr.2) 926 (wl_L E am o b i) []) : zj (zF E) X c s (wl_w E am o f G Gm) 622 (wl_L E am o b i) [] := by
  refine zz_aload_n cx dn_XL_law_622 rfl rfl ?_
  refine zz_aload_n cx dn_XL_law_623 rfl rfl ?_
  refine zz_iload cx dn_XL_law_624 rfl ?_
  refine zz_iconst cx dn_XL_law_626 (v := (1 : Int32)) (by decide) ?_
  refine zz_iadd cx dn_XL_law_627 ?_
  refine zz_sld cx sx h1 e1 dn_XL_law_628 ?_
  refine zz_aload_n cx dn_XL_law_629 rfl rfl ?_
  refine zy_callW cx (wl := []) (wr := wc_m (ze_ad E am) Gm) (As := [.ref (ad_p E 0), .int y1, .ref o]) (rest := []) (hh9 := []) (n := 3) (zh_times_r E o f G y1 rv G1 hc) (zy_ap6 _ _) hx9 zo_XL zw_times (by decide) (by decide +kernel) zk_XL_102 zs_XL_times (by decide) rfl (Nat.le_of_ble_eq_true rfl) (c2 := c) (s2 := s) rfl rfl hf0 (zy_ad2 (wc_c_addr E _ _)) dn_XL_law_630 ?_
  refine zy_eq (ws2 := wl_w E am o (vp_updL f 0 rv.toInt64) G1 Gm) rfl ?_
  refine zz_istore cx dn_XL_law_633 (by decide) rfl ?_
  refine zz_aload_n cx dn_XL_law_635 rfl rfl ?_
  refine zz_aload_n cx dn_XL_law_636 rfl rfl ?_
  refine zz_iload cx dn_XL_law_637 rfl ?_
  refine zz_iconst cx dn_XL_law_639 (v := (1 : Int32)) (by decide) ?_
  refine zz_iadd cx dn_XL_law_640 ?_
  refine zz_sld cx sx h1 e1 dn_XL_law_641 ?_
  refine zy_callVi cx (wl := wo_e E o (vp_updL f 0 rv.toInt64) :: wc_c E G1) (wr := []) (As := [.int y1]) (rest := []) (z_mM_times (ze_ad E am) k9 Gm y1 mr hm) (zy_ap5 _ _) zm_X4_times zk_XL_104 zv_X4_times 0 (ci := 4) rfl rfl (by decide) rfl (Nat.le_of_ble_eq_true rfl) (c2 := c) (s2 := s) rfl rfl hf0 (wc_m_addr _ _ _) dn_XL_law_642 ?_
  refine zy_eq (ws2 := wl_w E am o (vp_updL f 0 rv.toInt64) G1 mr.2) (zy_ap5 _ _).symm ?_
  refine zz_istore cx dn_XL_law_645 (by decide) rfl ?_
  refine zz_aload_n cx dn_XL_law_647 rfl rfl ?_
  refine zy_callVi cx (wl := wo_e E o (vp_updL f 0 rv.toInt64) :: wc_c E G1) (wr := []) (As := []) (rest := []) (z_mM_thrown (ze_ad E am) mr.2 _ ht) (zy_ap5 _ _) zm_X4_thrown zk_XL_67 zv_X4_thrown 0 (ci := 4) rfl rfl (by decide) rfl (Nat.le_of_ble_eq_true rfl) (c2 := c) (s2 := s) rfl rfl hf0 (wc_m_addr _ _ _) dn_XL_law_648 ?_
  refine zy_eq (ws2 := wl_w E am o (vp_updL f 0 rv.toInt64) G1 mr.2) (zy_ap5 _ _).symm ?_
  refine zz_iload cx dn_XL_law_651 rfl ?_
  refine zz_icmp_eq_t cx (tgt := 658) dn_XL_law_653 (by decide) rfl ?_
  refine zz_iload cx dn_XL_law_658 rfl ?_
  refine zz_if_ne_f cx (tgt := 675) dn_XL_law_660 (by decide) (by decide) ?_
  refine zz_aload_n cx dn_XL_law_663 rfl rfl ?_
  refine zz_iconst cx dn_XL_law_664 (v := (0 : Int32)) (by decide) ?_
  refine zz_lald cx 0 2 rfl rfl zi_01 (zy_up0 _ _) dn_XL_law_665 ?_
  refine zz_iload cx dn_XL_law_666 rfl ?_
  refine zz_i2l cx dn_XL_law_668 ?_
  refine zz_lcmp cx dn_XL_law_669 ?_
  rw [show lg_cmp rv.toInt64 mr.1.toInt64 = 0 by rw [hv, zy_cmp]]
  refine zz_if_eq_t cx (tgt := 675) dn_XL_law_670 (by decide) rfl ?_
  refine zz_goto cx dn_XL_law_675 (tgt := 926) (by decide) ?_
  refine zz_less (L2 := wl_L E am o b i) ⟨rfl, rfl, rfl, rfl, rfl, trivial⟩ ?_
  exact k
set_option maxHeartbeats 4000000 in
set_option maxRecDepth 100000 in
theorem zl_times_t1 (E : ze_T) (am : Nat → Nat) (o b L : Nat) (xs : Nat → Int32) (X : zx_T) (cx : zx (zF E) X code rn_XL room_1 7) (sx : zs_ok X b L xs) (hx9 : zh_ok X) (c s : Nat) (hf0 : c ≤ room_1.cells ∧ s ≤ room_1.slots) (f : Nat → Int64) (G Gm : gs_T) (i : Int32) (y1 : Int32) (h1 : vp_in (i + 1) L) (e1 : xs (i + 1).toNatClampNeg = y1) (k9 : Nat) (hf1 : c + 1 ≤ room_1.cells ∧ s + 6 ≤ room_1.slots) (hl : (zF E).1.stackTraces = false) (G1 : gs_T) (hc : cR_times G y1 = some (.inr 1, G1)) (mr : Int32 × gs_T) (hm : mM_times k9 Gm y1 = some mr) (ht : mM_thrown mr.2 = some (1 : Int32)) (k : zj (zF E) X (c + 1) (s + 6) (wl_w E am o f G1 mr.2) 926 (wl_L E am o b i) []) : zj (zF E) X c s (wl_w E am o f G Gm) 622 (wl_L E am o b i) [] := by
  refine zz_aload_n cx dn_XL_law_622 rfl rfl ?_
  refine zz_aload_n cx dn_XL_law_623 rfl rfl ?_
  refine zz_iload cx dn_XL_law_624 rfl ?_
  refine zz_iconst cx dn_XL_law_626 (v := (1 : Int32)) (by decide) ?_
  refine zz_iadd cx dn_XL_law_627 ?_
  refine zz_sld cx sx h1 e1 dn_XL_law_628 ?_
  refine zz_aload_n cx dn_XL_law_629 rfl rfl ?_
  refine zy_callW cx (wl := []) (wr := wc_m (ze_ad E am) Gm) (As := [.ref (ad_p E 0), .int y1, .ref o]) (rest := []) (hh9 := []) (n := 3) (zh_times_t1 E o f G y1 G1 hl hc) (zy_ap6 _ _) hx9 zo_XL zw_times (by decide) (by decide +kernel) zk_XL_102 zs_XL_times (by decide) rfl (Nat.le_of_ble_eq_true rfl) (c2 := (c + 1)) (s2 := (s + 6)) rfl rfl hf1 (zy_ad2 (wc_c_addr E _ _)) dn_XL_law_630 ?_
  refine zy_eq (ws2 := wl_w E am o f G1 Gm) rfl ?_
  refine zz_istore cx dn_XL_law_633 (by decide) rfl ?_
  refine zz_aload_n cx dn_XL_law_635 rfl rfl ?_
  refine zz_aload_n cx dn_XL_law_636 rfl rfl ?_
  refine zz_iload cx dn_XL_law_637 rfl ?_
  refine zz_iconst cx dn_XL_law_639 (v := (1 : Int32)) (by decide) ?_
  refine zz_iadd cx dn_XL_law_640 ?_
  refine zz_sld cx sx h1 e1 dn_XL_law_641 ?_
  refine zy_callVi cx (wl := wo_e E o f :: wc_c E G1) (wr := []) (As := [.int y1]) (rest := []) (z_mM_times (ze_ad E am) k9 Gm y1 mr hm) (zy_ap5 _ _) zm_X4_times zk_XL_104 zv_X4_times 0 (ci := 4) rfl rfl (by decide) rfl (Nat.le_of_ble_eq_true rfl) (c2 := (c + 1)) (s2 := (s + 6)) rfl rfl hf1 (wc_m_addr _ _ _) dn_XL_law_642 ?_
  refine zy_eq (ws2 := wl_w E am o f G1 mr.2) (zy_ap5 _ _).symm ?_
  refine zz_istore cx dn_XL_law_645 (by decide) rfl ?_
  refine zz_aload_n cx dn_XL_law_647 rfl rfl ?_
  refine zy_callVi cx (wl := wo_e E o f :: wc_c E G1) (wr := []) (As := []) (rest := []) (z_mM_thrown (ze_ad E am) mr.2 _ ht) (zy_ap5 _ _) zm_X4_thrown zk_XL_67 zv_X4_thrown 0 (ci := 4) rfl rfl (by decide) rfl (Nat.le_of_ble_eq_true rfl) (c2 := (c + 1)) (s2 := (s + 6)) rfl rfl hf1 (wc_m_addr _ _ _) dn_XL_law_648 ?_
  refine zy_eq (ws2 := wl_w E am o f G1 mr.2) (zy_ap5 _ _).symm ?_
  refine zz_iload cx dn_XL_law_651 rfl ?_
  refine zz_icmp_eq_t cx (tgt := 658) dn_XL_law_653 (by decide) rfl ?_
  refine zz_iload cx dn_XL_law_658 rfl ?_
  refine zz_if_ne_t cx (tgt := 675) dn_XL_law_660 (by decide) (by decide) ?_
  refine zz_goto cx dn_XL_law_675 (tgt := 926) (by decide) ?_
  refine zz_less (L2 := wl_L E am o b i) ⟨rfl, rfl, rfl, rfl, rfl, trivial⟩ ?_
  exact k
set_option maxHeartbeats 4000000 in
set_option maxRecDepth 100000 in
theorem zl_comes_r (E : ze_T) (am : Nat → Nat) (o b L : Nat) (xs : Nat → Int32) (X : zx_T) (cx : zx (zF E) X code rn_XL room_1 7) (sx : zs_ok X b L xs) (hx9 : zh_ok X) (c s : Nat) (hf0 : c ≤ room_1.cells ∧ s ≤ room_1.slots) (f : Nat → Int64) (G Gm : gs_T) (i : Int32) (y1 : Int32) (h1 : vp_in (i + 1) L) (e1 : xs (i + 1).toNatClampNeg = y1) (rv : Int32) (G1 : gs_T) (hc : cR_comes G y1 = some (.inl rv, G1)) (mr : Int32 × gs_T) (hm : mM_comes Gm y1 = some mr) (ht : mM_thrown mr.2 = some (0 : Int32)) (hv : rv = mr.1) (k : zj (zF E) X c s (wl_w E am o (vp_updL f 0 rv.toInt64) G1 mr.2) 926 (wl_L E am o b i) []) : zj (zF E) X c s (wl_w E am o f G Gm) 678 (wl_L E am o b i) [] := by
  refine zz_aload_n cx dn_XL_law_678 rfl rfl ?_
  refine zz_aload_n cx dn_XL_law_679 rfl rfl ?_
  refine zz_iload cx dn_XL_law_680 rfl ?_
  refine zz_iconst cx dn_XL_law_682 (v := (1 : Int32)) (by decide) ?_
  refine zz_iadd cx dn_XL_law_683 ?_
  refine zz_sld cx sx h1 e1 dn_XL_law_684 ?_
  refine zz_aload_n cx dn_XL_law_685 rfl rfl ?_
  refine zy_callW cx (wl := []) (wr := wc_m (ze_ad E am) Gm) (As := [.ref (ad_p E 0), .int y1, .ref o]) (rest := []) (hh9 := []) (n := 3) (zh_comes_r E o f G y1 rv G1 hc) (zy_ap6 _ _) hx9 zo_XL zw_comes (by decide) (by decide +kernel) zk_XL_105 zs_XL_comes (by decide) rfl (Nat.le_of_ble_eq_true rfl) (c2 := c) (s2 := s) rfl rfl hf0 (zy_ad2 (wc_c_addr E _ _)) dn_XL_law_686 ?_
  refine zy_eq (ws2 := wl_w E am o (vp_updL f 0 rv.toInt64) G1 Gm) rfl ?_
  refine zz_istore cx dn_XL_law_689 (by decide) rfl ?_
  refine zz_aload_n cx dn_XL_law_691 rfl rfl ?_
  refine zz_aload_n cx dn_XL_law_692 rfl rfl ?_
  refine zz_iload cx dn_XL_law_693 rfl ?_
  refine zz_iconst cx dn_XL_law_695 (v := (1 : Int32)) (by decide) ?_
  refine zz_iadd cx dn_XL_law_696 ?_
  refine zz_sld cx sx h1 e1 dn_XL_law_697 ?_
  refine zy_callVi cx (wl := wo_e E o (vp_updL f 0 rv.toInt64) :: wc_c E G1) (wr := []) (As := [.int y1]) (rest := []) (z_mM_comes (ze_ad E am) Gm y1 mr hm) (zy_ap5 _ _) zm_X4_comes zk_XL_107 zv_X4_comes 0 (ci := 4) rfl rfl (by decide) rfl (Nat.le_of_ble_eq_true rfl) (c2 := c) (s2 := s) rfl rfl hf0 (wc_m_addr _ _ _) dn_XL_law_698 ?_
  refine zy_eq (ws2 := wl_w E am o (vp_updL f 0 rv.toInt64) G1 mr.2) (zy_ap5 _ _).symm ?_
  refine zz_istore cx dn_XL_law_701 (by decide) rfl ?_
  refine zz_aload_n cx dn_XL_law_703 rfl rfl ?_
  refine zy_callVi cx (wl := wo_e E o (vp_updL f 0 rv.toInt64) :: wc_c E G1) (wr := []) (As := []) (rest := []) (z_mM_thrown (ze_ad E am) mr.2 _ ht) (zy_ap5 _ _) zm_X4_thrown zk_XL_67 zv_X4_thrown 0 (ci := 4) rfl rfl (by decide) rfl (Nat.le_of_ble_eq_true rfl) (c2 := c) (s2 := s) rfl rfl hf0 (wc_m_addr _ _ _) dn_XL_law_704 ?_
  refine zy_eq (ws2 := wl_w E am o (vp_updL f 0 rv.toInt64) G1 mr.2) (zy_ap5 _ _).symm ?_
  refine zz_iload cx dn_XL_law_707 rfl ?_
  refine zz_icmp_eq_t cx (tgt := 714) dn_XL_law_709 (by decide) rfl ?_
  refine zz_iload cx dn_XL_law_714 rfl ?_
  refine zz_if_ne_f cx (tgt := 731) dn_XL_law_716 (by decide) (by decide) ?_
  refine zz_aload_n cx dn_XL_law_719 rfl rfl ?_
  refine zz_iconst cx dn_XL_law_720 (v := (0 : Int32)) (by decide) ?_
  refine zz_lald cx 0 2 rfl rfl zi_01 (zy_up0 _ _) dn_XL_law_721 ?_
  refine zz_iload cx dn_XL_law_722 rfl ?_
  refine zz_i2l cx dn_XL_law_724 ?_
  refine zz_lcmp cx dn_XL_law_725 ?_
  rw [show lg_cmp rv.toInt64 mr.1.toInt64 = 0 by rw [hv, zy_cmp]]
  refine zz_if_eq_t cx (tgt := 731) dn_XL_law_726 (by decide) rfl ?_
  refine zz_goto cx dn_XL_law_731 (tgt := 926) (by decide) ?_
  refine zz_less (L2 := wl_L E am o b i) ⟨rfl, rfl, rfl, rfl, rfl, trivial⟩ ?_
  exact k
set_option maxHeartbeats 4000000 in
set_option maxRecDepth 100000 in
theorem zl_comes_t1 (E : ze_T) (am : Nat → Nat) (o b L : Nat) (xs : Nat → Int32) (X : zx_T) (cx : zx (zF E) X code rn_XL room_1 7) (sx : zs_ok X b L xs) (hx9 : zh_ok X) (c s : Nat) (hf0 : c ≤ room_1.cells ∧ s ≤ room_1.slots) (f : Nat → Int64) (G Gm : gs_T) (i : Int32) (y1 : Int32) (h1 : vp_in (i + 1) L) (e1 : xs (i + 1).toNatClampNeg = y1) (hf1 : c + 1 ≤ room_1.cells ∧ s + 6 ≤ room_1.slots) (hl : (zF E).1.stackTraces = false) (G1 : gs_T) (hc : cR_comes G y1 = some (.inr 1, G1)) (mr : Int32 × gs_T) (hm : mM_comes Gm y1 = some mr) (ht : mM_thrown mr.2 = some (1 : Int32)) (k : zj (zF E) X (c + 1) (s + 6) (wl_w E am o f G1 mr.2) 926 (wl_L E am o b i) []) : zj (zF E) X c s (wl_w E am o f G Gm) 678 (wl_L E am o b i) [] := by
  refine zz_aload_n cx dn_XL_law_678 rfl rfl ?_
  refine zz_aload_n cx dn_XL_law_679 rfl rfl ?_
  refine zz_iload cx dn_XL_law_680 rfl ?_
  refine zz_iconst cx dn_XL_law_682 (v := (1 : Int32)) (by decide) ?_
  refine zz_iadd cx dn_XL_law_683 ?_
  refine zz_sld cx sx h1 e1 dn_XL_law_684 ?_
  refine zz_aload_n cx dn_XL_law_685 rfl rfl ?_
  refine zy_callW cx (wl := []) (wr := wc_m (ze_ad E am) Gm) (As := [.ref (ad_p E 0), .int y1, .ref o]) (rest := []) (hh9 := []) (n := 3) (zh_comes_t1 E o f G y1 G1 hl hc) (zy_ap6 _ _) hx9 zo_XL zw_comes (by decide) (by decide +kernel) zk_XL_105 zs_XL_comes (by decide) rfl (Nat.le_of_ble_eq_true rfl) (c2 := (c + 1)) (s2 := (s + 6)) rfl rfl hf1 (zy_ad2 (wc_c_addr E _ _)) dn_XL_law_686 ?_
  refine zy_eq (ws2 := wl_w E am o f G1 Gm) rfl ?_
  refine zz_istore cx dn_XL_law_689 (by decide) rfl ?_
  refine zz_aload_n cx dn_XL_law_691 rfl rfl ?_
  refine zz_aload_n cx dn_XL_law_692 rfl rfl ?_
  refine zz_iload cx dn_XL_law_693 rfl ?_
  refine zz_iconst cx dn_XL_law_695 (v := (1 : Int32)) (by decide) ?_
  refine zz_iadd cx dn_XL_law_696 ?_
  refine zz_sld cx sx h1 e1 dn_XL_law_697 ?_
  refine zy_callVi cx (wl := wo_e E o f :: wc_c E G1) (wr := []) (As := [.int y1]) (rest := []) (z_mM_comes (ze_ad E am) Gm y1 mr hm) (zy_ap5 _ _) zm_X4_comes zk_XL_107 zv_X4_comes 0 (ci := 4) rfl rfl (by decide) rfl (Nat.le_of_ble_eq_true rfl) (c2 := (c + 1)) (s2 := (s + 6)) rfl rfl hf1 (wc_m_addr _ _ _) dn_XL_law_698 ?_
  refine zy_eq (ws2 := wl_w E am o f G1 mr.2) (zy_ap5 _ _).symm ?_
  refine zz_istore cx dn_XL_law_701 (by decide) rfl ?_
  refine zz_aload_n cx dn_XL_law_703 rfl rfl ?_
  refine zy_callVi cx (wl := wo_e E o f :: wc_c E G1) (wr := []) (As := []) (rest := []) (z_mM_thrown (ze_ad E am) mr.2 _ ht) (zy_ap5 _ _) zm_X4_thrown zk_XL_67 zv_X4_thrown 0 (ci := 4) rfl rfl (by decide) rfl (Nat.le_of_ble_eq_true rfl) (c2 := (c + 1)) (s2 := (s + 6)) rfl rfl hf1 (wc_m_addr _ _ _) dn_XL_law_704 ?_
  refine zy_eq (ws2 := wl_w E am o f G1 mr.2) (zy_ap5 _ _).symm ?_
  refine zz_iload cx dn_XL_law_707 rfl ?_
  refine zz_icmp_eq_t cx (tgt := 714) dn_XL_law_709 (by decide) rfl ?_
  refine zz_iload cx dn_XL_law_714 rfl ?_
  refine zz_if_ne_t cx (tgt := 731) dn_XL_law_716 (by decide) (by decide) ?_
  refine zz_goto cx dn_XL_law_731 (tgt := 926) (by decide) ?_
  refine zz_less (L2 := wl_L E am o b i) ⟨rfl, rfl, rfl, rfl, rfl, trivial⟩ ?_
  exact k
set_option maxHeartbeats 4000000 in
set_option maxRecDepth 100000 in
theorem zl_fold_r (E : ze_T) (am : Nat → Nat) (o b L : Nat) (xs : Nat → Int32) (X : zx_T) (cx : zx (zF E) X code rn_XL room_1 7) (sx : zs_ok X b L xs) (hx9 : zh_ok X) (c s : Nat) (hf0 : c ≤ room_1.cells ∧ s ≤ room_1.slots) (f : Nat → Int64) (G Gm : gs_T) (i : Int32) (y1 : Int32) (h1 : vp_in (i + 1) L) (e1 : xs (i + 1).toNatClampNeg = y1) (y2 : Int32) (h2 : vp_in (i + 2) L) (e2 : xs (i + 2).toNatClampNeg = y2) (n : Nat) (k9 : Nat) (rv : Int32) (G1 : gs_T) (hc : cR_fold n G y1 y2 = some (.inl rv, G1)) (mr : Int32 × gs_T) (hm : mM_fold k9 Gm y1 y2 = some mr) (ht : mM_thrown mr.2 = some (0 : Int32)) (hv : rv = mr.1) (k : zj (zF E) X c s (wl_w E am o (vp_updL f 0 rv.toInt64) G1 mr.2) 926 (wl_L E am o b i) []) : zj (zF E) X c s (wl_w E am o f G Gm) 734 (wl_L E am o b i) [] := by
  refine zz_aload_n cx dn_XL_law_734 rfl rfl ?_
  refine zz_aload_n cx dn_XL_law_735 rfl rfl ?_
  refine zz_iload cx dn_XL_law_736 rfl ?_
  refine zz_iconst cx dn_XL_law_738 (v := (1 : Int32)) (by decide) ?_
  refine zz_iadd cx dn_XL_law_739 ?_
  refine zz_sld cx sx h1 e1 dn_XL_law_740 ?_
  refine zz_aload_n cx dn_XL_law_741 rfl rfl ?_
  refine zz_iload cx dn_XL_law_742 rfl ?_
  refine zz_iconst cx dn_XL_law_744 (v := (2 : Int32)) (by decide) ?_
  refine zz_iadd cx dn_XL_law_745 ?_
  refine zz_sld cx sx h2 e2 dn_XL_law_746 ?_
  refine zz_aload_n cx dn_XL_law_747 rfl rfl ?_
  refine zy_callW cx (wl := []) (wr := wc_m (ze_ad E am) Gm) (As := [.ref (ad_p E 0), .int y1, .int y2, .ref o]) (rest := []) (hh9 := []) (n := 4) (zh_fold_r E o f n G y1 y2 rv G1 hc) (zy_ap6 _ _) hx9 zo_XL zw_fold (by decide) (by decide +kernel) zk_XL_108 zs_XL_fold (by decide) rfl (Nat.le_of_ble_eq_true rfl) (c2 := c) (s2 := s) rfl rfl hf0 (zy_ad2 (wc_c_addr E _ _)) dn_XL_law_748 ?_
  refine zy_eq (ws2 := wl_w E am o (vp_updL f 0 rv.toInt64) G1 Gm) rfl ?_
  refine zz_istore cx dn_XL_law_751 (by decide) rfl ?_
  refine zz_aload_n cx dn_XL_law_753 rfl rfl ?_
  refine zz_aload_n cx dn_XL_law_754 rfl rfl ?_
  refine zz_iload cx dn_XL_law_755 rfl ?_
  refine zz_iconst cx dn_XL_law_757 (v := (1 : Int32)) (by decide) ?_
  refine zz_iadd cx dn_XL_law_758 ?_
  refine zz_sld cx sx h1 e1 dn_XL_law_759 ?_
  refine zz_aload_n cx dn_XL_law_760 rfl rfl ?_
  refine zz_iload cx dn_XL_law_761 rfl ?_
  refine zz_iconst cx dn_XL_law_763 (v := (2 : Int32)) (by decide) ?_
  refine zz_iadd cx dn_XL_law_764 ?_
  refine zz_sld cx sx h2 e2 dn_XL_law_765 ?_
  refine zy_callVi cx (wl := wo_e E o (vp_updL f 0 rv.toInt64) :: wc_c E G1) (wr := []) (As := [.int y1, .int y2]) (rest := []) (z_mM_fold (ze_ad E am) k9 Gm y1 y2 mr hm) (zy_ap5 _ _) zm_X4_fold zk_XL_110 zv_X4_fold 0 (ci := 4) rfl rfl (by decide) rfl (Nat.le_of_ble_eq_true rfl) (c2 := c) (s2 := s) rfl rfl hf0 (wc_m_addr _ _ _) dn_XL_law_766 ?_
  refine zy_eq (ws2 := wl_w E am o (vp_updL f 0 rv.toInt64) G1 mr.2) (zy_ap5 _ _).symm ?_
  refine zz_istore cx dn_XL_law_769 (by decide) rfl ?_
  refine zz_aload_n cx dn_XL_law_771 rfl rfl ?_
  refine zy_callVi cx (wl := wo_e E o (vp_updL f 0 rv.toInt64) :: wc_c E G1) (wr := []) (As := []) (rest := []) (z_mM_thrown (ze_ad E am) mr.2 _ ht) (zy_ap5 _ _) zm_X4_thrown zk_XL_67 zv_X4_thrown 0 (ci := 4) rfl rfl (by decide) rfl (Nat.le_of_ble_eq_true rfl) (c2 := c) (s2 := s) rfl rfl hf0 (wc_m_addr _ _ _) dn_XL_law_772 ?_
  refine zy_eq (ws2 := wl_w E am o (vp_updL f 0 rv.toInt64) G1 mr.2) (zy_ap5 _ _).symm ?_
  refine zz_iload cx dn_XL_law_775 rfl ?_
  refine zz_icmp_eq_t cx (tgt := 782) dn_XL_law_777 (by decide) rfl ?_
  refine zz_iload cx dn_XL_law_782 rfl ?_
  refine zz_if_ne_f cx (tgt := 799) dn_XL_law_784 (by decide) (by decide) ?_
  refine zz_aload_n cx dn_XL_law_787 rfl rfl ?_
  refine zz_iconst cx dn_XL_law_788 (v := (0 : Int32)) (by decide) ?_
  refine zz_lald cx 0 2 rfl rfl zi_01 (zy_up0 _ _) dn_XL_law_789 ?_
  refine zz_iload cx dn_XL_law_790 rfl ?_
  refine zz_i2l cx dn_XL_law_792 ?_
  refine zz_lcmp cx dn_XL_law_793 ?_
  rw [show lg_cmp rv.toInt64 mr.1.toInt64 = 0 by rw [hv, zy_cmp]]
  refine zz_if_eq_t cx (tgt := 799) dn_XL_law_794 (by decide) rfl ?_
  refine zz_goto cx dn_XL_law_799 (tgt := 926) (by decide) ?_
  refine zz_less (L2 := wl_L E am o b i) ⟨rfl, rfl, rfl, rfl, rfl, trivial⟩ ?_
  exact k
set_option maxHeartbeats 4000000 in
set_option maxRecDepth 100000 in
theorem zl_fold_t2 (E : ze_T) (am : Nat → Nat) (o b L : Nat) (xs : Nat → Int32) (X : zx_T) (cx : zx (zF E) X code rn_XL room_1 7) (sx : zs_ok X b L xs) (hx9 : zh_ok X) (c s : Nat) (hf0 : c ≤ room_1.cells ∧ s ≤ room_1.slots) (f : Nat → Int64) (G Gm : gs_T) (i : Int32) (y1 : Int32) (h1 : vp_in (i + 1) L) (e1 : xs (i + 1).toNatClampNeg = y1) (y2 : Int32) (h2 : vp_in (i + 2) L) (e2 : xs (i + 2).toNatClampNeg = y2) (n : Nat) (k9 : Nat) (hf1 : c + 1 ≤ room_1.cells ∧ s + 6 ≤ room_1.slots) (hl : (zF E).1.stackTraces = false) (G1 : gs_T) (hc : cR_fold n G y1 y2 = some (.inr 2, G1)) (mr : Int32 × gs_T) (hm : mM_fold k9 Gm y1 y2 = some mr) (ht : mM_thrown mr.2 = some (1 : Int32)) (k : zj (zF E) X (c + 1) (s + 6) (wl_w E am o f G1 mr.2) 926 (wl_L E am o b i) []) : zj (zF E) X c s (wl_w E am o f G Gm) 734 (wl_L E am o b i) [] := by
  refine zz_aload_n cx dn_XL_law_734 rfl rfl ?_
  refine zz_aload_n cx dn_XL_law_735 rfl rfl ?_
  refine zz_iload cx dn_XL_law_736 rfl ?_
  refine zz_iconst cx dn_XL_law_738 (v := (1 : Int32)) (by decide) ?_
  refine zz_iadd cx dn_XL_law_739 ?_
  refine zz_sld cx sx h1 e1 dn_XL_law_740 ?_
  refine zz_aload_n cx dn_XL_law_741 rfl rfl ?_
  refine zz_iload cx dn_XL_law_742 rfl ?_
  refine zz_iconst cx dn_XL_law_744 (v := (2 : Int32)) (by decide) ?_
  refine zz_iadd cx dn_XL_law_745 ?_
  refine zz_sld cx sx h2 e2 dn_XL_law_746 ?_
  refine zz_aload_n cx dn_XL_law_747 rfl rfl ?_
  refine zy_callW cx (wl := []) (wr := wc_m (ze_ad E am) Gm) (As := [.ref (ad_p E 0), .int y1, .int y2, .ref o]) (rest := []) (hh9 := []) (n := 4) (zh_fold_t2 E o f n G y1 y2 G1 hl hc) (zy_ap6 _ _) hx9 zo_XL zw_fold (by decide) (by decide +kernel) zk_XL_108 zs_XL_fold (by decide) rfl (Nat.le_of_ble_eq_true rfl) (c2 := (c + 1)) (s2 := (s + 6)) rfl rfl hf1 (zy_ad2 (wc_c_addr E _ _)) dn_XL_law_748 ?_
  refine zy_eq (ws2 := wl_w E am o f G1 Gm) rfl ?_
  refine zz_istore cx dn_XL_law_751 (by decide) rfl ?_
  refine zz_aload_n cx dn_XL_law_753 rfl rfl ?_
  refine zz_aload_n cx dn_XL_law_754 rfl rfl ?_
  refine zz_iload cx dn_XL_law_755 rfl ?_
  refine zz_iconst cx dn_XL_law_757 (v := (1 : Int32)) (by decide) ?_
  refine zz_iadd cx dn_XL_law_758 ?_
  refine zz_sld cx sx h1 e1 dn_XL_law_759 ?_
  refine zz_aload_n cx dn_XL_law_760 rfl rfl ?_
  refine zz_iload cx dn_XL_law_761 rfl ?_
  refine zz_iconst cx dn_XL_law_763 (v := (2 : Int32)) (by decide) ?_
  refine zz_iadd cx dn_XL_law_764 ?_
  refine zz_sld cx sx h2 e2 dn_XL_law_765 ?_
  refine zy_callVi cx (wl := wo_e E o f :: wc_c E G1) (wr := []) (As := [.int y1, .int y2]) (rest := []) (z_mM_fold (ze_ad E am) k9 Gm y1 y2 mr hm) (zy_ap5 _ _) zm_X4_fold zk_XL_110 zv_X4_fold 0 (ci := 4) rfl rfl (by decide) rfl (Nat.le_of_ble_eq_true rfl) (c2 := (c + 1)) (s2 := (s + 6)) rfl rfl hf1 (wc_m_addr _ _ _) dn_XL_law_766 ?_
  refine zy_eq (ws2 := wl_w E am o f G1 mr.2) (zy_ap5 _ _).symm ?_
  refine zz_istore cx dn_XL_law_769 (by decide) rfl ?_
  refine zz_aload_n cx dn_XL_law_771 rfl rfl ?_
  refine zy_callVi cx (wl := wo_e E o f :: wc_c E G1) (wr := []) (As := []) (rest := []) (z_mM_thrown (ze_ad E am) mr.2 _ ht) (zy_ap5 _ _) zm_X4_thrown zk_XL_67 zv_X4_thrown 0 (ci := 4) rfl rfl (by decide) rfl (Nat.le_of_ble_eq_true rfl) (c2 := (c + 1)) (s2 := (s + 6)) rfl rfl hf1 (wc_m_addr _ _ _) dn_XL_law_772 ?_
  refine zy_eq (ws2 := wl_w E am o f G1 mr.2) (zy_ap5 _ _).symm ?_
  refine zz_iload cx dn_XL_law_775 rfl ?_
  refine zz_icmp_eq_t cx (tgt := 782) dn_XL_law_777 (by decide) rfl ?_
  refine zz_iload cx dn_XL_law_782 rfl ?_
  refine zz_if_ne_t cx (tgt := 799) dn_XL_law_784 (by decide) (by decide) ?_
  refine zz_goto cx dn_XL_law_799 (tgt := 926) (by decide) ?_
  refine zz_less (L2 := wl_L E am o b i) ⟨rfl, rfl, rfl, rfl, rfl, trivial⟩ ?_
  exact k
set_option maxHeartbeats 4000000 in
set_option maxRecDepth 100000 in
theorem zl_fold_t1 (E : ze_T) (am : Nat → Nat) (o b L : Nat) (xs : Nat → Int32) (X : zx_T) (cx : zx (zF E) X code rn_XL room_1 7) (sx : zs_ok X b L xs) (hx9 : zh_ok X) (c s : Nat) (hf0 : c ≤ room_1.cells ∧ s ≤ room_1.slots) (f : Nat → Int64) (G Gm : gs_T) (i : Int32) (y1 : Int32) (h1 : vp_in (i + 1) L) (e1 : xs (i + 1).toNatClampNeg = y1) (y2 : Int32) (h2 : vp_in (i + 2) L) (e2 : xs (i + 2).toNatClampNeg = y2) (n : Nat) (k9 : Nat) (hf1 : c + 1 ≤ room_1.cells ∧ s + 6 ≤ room_1.slots) (hl : (zF E).1.stackTraces = false) (G1 : gs_T) (hc : cR_fold n G y1 y2 = some (.inr 1, G1)) (mr : Int32 × gs_T) (hm : mM_fold k9 Gm y1 y2 = some mr) (ht : mM_thrown mr.2 = some (2 : Int32)) (k : zj (zF E) X (c + 1) (s + 6) (wl_w E am o f G1 mr.2) 926 (wl_L E am o b i) []) : zj (zF E) X c s (wl_w E am o f G Gm) 734 (wl_L E am o b i) [] := by
  refine zz_aload_n cx dn_XL_law_734 rfl rfl ?_
  refine zz_aload_n cx dn_XL_law_735 rfl rfl ?_
  refine zz_iload cx dn_XL_law_736 rfl ?_
  refine zz_iconst cx dn_XL_law_738 (v := (1 : Int32)) (by decide) ?_
  refine zz_iadd cx dn_XL_law_739 ?_
  refine zz_sld cx sx h1 e1 dn_XL_law_740 ?_
  refine zz_aload_n cx dn_XL_law_741 rfl rfl ?_
  refine zz_iload cx dn_XL_law_742 rfl ?_
  refine zz_iconst cx dn_XL_law_744 (v := (2 : Int32)) (by decide) ?_
  refine zz_iadd cx dn_XL_law_745 ?_
  refine zz_sld cx sx h2 e2 dn_XL_law_746 ?_
  refine zz_aload_n cx dn_XL_law_747 rfl rfl ?_
  refine zy_callW cx (wl := []) (wr := wc_m (ze_ad E am) Gm) (As := [.ref (ad_p E 0), .int y1, .int y2, .ref o]) (rest := []) (hh9 := []) (n := 4) (zh_fold_t1 E o f n G y1 y2 G1 hl hc) (zy_ap6 _ _) hx9 zo_XL zw_fold (by decide) (by decide +kernel) zk_XL_108 zs_XL_fold (by decide) rfl (Nat.le_of_ble_eq_true rfl) (c2 := (c + 1)) (s2 := (s + 6)) rfl rfl hf1 (zy_ad2 (wc_c_addr E _ _)) dn_XL_law_748 ?_
  refine zy_eq (ws2 := wl_w E am o f G1 Gm) rfl ?_
  refine zz_istore cx dn_XL_law_751 (by decide) rfl ?_
  refine zz_aload_n cx dn_XL_law_753 rfl rfl ?_
  refine zz_aload_n cx dn_XL_law_754 rfl rfl ?_
  refine zz_iload cx dn_XL_law_755 rfl ?_
  refine zz_iconst cx dn_XL_law_757 (v := (1 : Int32)) (by decide) ?_
  refine zz_iadd cx dn_XL_law_758 ?_
  refine zz_sld cx sx h1 e1 dn_XL_law_759 ?_
  refine zz_aload_n cx dn_XL_law_760 rfl rfl ?_
  refine zz_iload cx dn_XL_law_761 rfl ?_
  refine zz_iconst cx dn_XL_law_763 (v := (2 : Int32)) (by decide) ?_
  refine zz_iadd cx dn_XL_law_764 ?_
  refine zz_sld cx sx h2 e2 dn_XL_law_765 ?_
  refine zy_callVi cx (wl := wo_e E o f :: wc_c E G1) (wr := []) (As := [.int y1, .int y2]) (rest := []) (z_mM_fold (ze_ad E am) k9 Gm y1 y2 mr hm) (zy_ap5 _ _) zm_X4_fold zk_XL_110 zv_X4_fold 0 (ci := 4) rfl rfl (by decide) rfl (Nat.le_of_ble_eq_true rfl) (c2 := (c + 1)) (s2 := (s + 6)) rfl rfl hf1 (wc_m_addr _ _ _) dn_XL_law_766 ?_
  refine zy_eq (ws2 := wl_w E am o f G1 mr.2) (zy_ap5 _ _).symm ?_
  refine zz_istore cx dn_XL_law_769 (by decide) rfl ?_
  refine zz_aload_n cx dn_XL_law_771 rfl rfl ?_
  refine zy_callVi cx (wl := wo_e E o f :: wc_c E G1) (wr := []) (As := []) (rest := []) (z_mM_thrown (ze_ad E am) mr.2 _ ht) (zy_ap5 _ _) zm_X4_thrown zk_XL_67 zv_X4_thrown 0 (ci := 4) rfl rfl (by decide) rfl (Nat.le_of_ble_eq_true rfl) (c2 := (c + 1)) (s2 := (s + 6)) rfl rfl hf1 (wc_m_addr _ _ _) dn_XL_law_772 ?_
  refine zy_eq (ws2 := wl_w E am o f G1 mr.2) (zy_ap5 _ _).symm ?_
  refine zz_iload cx dn_XL_law_775 rfl ?_
  refine zz_icmp_eq_t cx (tgt := 782) dn_XL_law_777 (by decide) rfl ?_
  refine zz_iload cx dn_XL_law_782 rfl ?_
  refine zz_if_ne_t cx (tgt := 799) dn_XL_law_784 (by decide) (by decide) ?_
  refine zz_goto cx dn_XL_law_799 (tgt := 926) (by decide) ?_
  refine zz_less (L2 := wl_L E am o b i) ⟨rfl, rfl, rfl, rfl, rfl, trivial⟩ ?_
  exact k
set_option maxHeartbeats 4000000 in
set_option maxRecDepth 100000 in
theorem zl_folded_r (E : ze_T) (am : Nat → Nat) (o b L : Nat) (xs : Nat → Int32) (X : zx_T) (cx : zx (zF E) X code rn_XL room_1 7) (sx : zs_ok X b L xs) (hx9 : zh_ok X) (c s : Nat) (hf0 : c ≤ room_1.cells ∧ s ≤ room_1.slots) (f : Nat → Int64) (G Gm : gs_T) (i : Int32) (y1 : Int32) (h1 : vp_in (i + 1) L) (e1 : xs (i + 1).toNatClampNeg = y1) (y2 : Int32) (h2 : vp_in (i + 2) L) (e2 : xs (i + 2).toNatClampNeg = y2) (rv : Int32) (G1 : gs_T) (hc : cR_folded G y1 y2 = some (.inl rv, G1)) (mr : Int32 × gs_T) (hm : mM_folded Gm y1 y2 = some mr) (ht : mM_thrown mr.2 = some (0 : Int32)) (hv : rv = mr.1) (k : zj (zF E) X c s (wl_w E am o (vp_updL f 0 rv.toInt64) G1 mr.2) 926 (wl_L E am o b i) []) : zj (zF E) X c s (wl_w E am o f G Gm) 802 (wl_L E am o b i) [] := by
  refine zz_aload_n cx dn_XL_law_802 rfl rfl ?_
  refine zz_aload_n cx dn_XL_law_803 rfl rfl ?_
  refine zz_iload cx dn_XL_law_804 rfl ?_
  refine zz_iconst cx dn_XL_law_806 (v := (1 : Int32)) (by decide) ?_
  refine zz_iadd cx dn_XL_law_807 ?_
  refine zz_sld cx sx h1 e1 dn_XL_law_808 ?_
  refine zz_aload_n cx dn_XL_law_809 rfl rfl ?_
  refine zz_iload cx dn_XL_law_810 rfl ?_
  refine zz_iconst cx dn_XL_law_812 (v := (2 : Int32)) (by decide) ?_
  refine zz_iadd cx dn_XL_law_813 ?_
  refine zz_sld cx sx h2 e2 dn_XL_law_814 ?_
  refine zz_aload_n cx dn_XL_law_815 rfl rfl ?_
  refine zy_callW cx (wl := []) (wr := wc_m (ze_ad E am) Gm) (As := [.ref (ad_p E 0), .int y1, .int y2, .ref o]) (rest := []) (hh9 := []) (n := 4) (zh_folded_r E o f G y1 y2 rv G1 hc) (zy_ap6 _ _) hx9 zo_XL zw_folded (by decide) (by decide +kernel) zk_XL_111 zs_XL_folded (by decide) rfl (Nat.le_of_ble_eq_true rfl) (c2 := c) (s2 := s) rfl rfl hf0 (zy_ad2 (wc_c_addr E _ _)) dn_XL_law_816 ?_
  refine zy_eq (ws2 := wl_w E am o (vp_updL f 0 rv.toInt64) G1 Gm) rfl ?_
  refine zz_istore cx dn_XL_law_819 (by decide) rfl ?_
  refine zz_aload_n cx dn_XL_law_821 rfl rfl ?_
  refine zz_aload_n cx dn_XL_law_822 rfl rfl ?_
  refine zz_iload cx dn_XL_law_823 rfl ?_
  refine zz_iconst cx dn_XL_law_825 (v := (1 : Int32)) (by decide) ?_
  refine zz_iadd cx dn_XL_law_826 ?_
  refine zz_sld cx sx h1 e1 dn_XL_law_827 ?_
  refine zz_aload_n cx dn_XL_law_828 rfl rfl ?_
  refine zz_iload cx dn_XL_law_829 rfl ?_
  refine zz_iconst cx dn_XL_law_831 (v := (2 : Int32)) (by decide) ?_
  refine zz_iadd cx dn_XL_law_832 ?_
  refine zz_sld cx sx h2 e2 dn_XL_law_833 ?_
  refine zy_callVi cx (wl := wo_e E o (vp_updL f 0 rv.toInt64) :: wc_c E G1) (wr := []) (As := [.int y1, .int y2]) (rest := []) (z_mM_folded (ze_ad E am) Gm y1 y2 mr hm) (zy_ap5 _ _) zm_X4_folded zk_XL_113 zv_X4_folded 0 (ci := 4) rfl rfl (by decide) rfl (Nat.le_of_ble_eq_true rfl) (c2 := c) (s2 := s) rfl rfl hf0 (wc_m_addr _ _ _) dn_XL_law_834 ?_
  refine zy_eq (ws2 := wl_w E am o (vp_updL f 0 rv.toInt64) G1 mr.2) (zy_ap5 _ _).symm ?_
  refine zz_istore cx dn_XL_law_837 (by decide) rfl ?_
  refine zz_aload_n cx dn_XL_law_839 rfl rfl ?_
  refine zy_callVi cx (wl := wo_e E o (vp_updL f 0 rv.toInt64) :: wc_c E G1) (wr := []) (As := []) (rest := []) (z_mM_thrown (ze_ad E am) mr.2 _ ht) (zy_ap5 _ _) zm_X4_thrown zk_XL_67 zv_X4_thrown 0 (ci := 4) rfl rfl (by decide) rfl (Nat.le_of_ble_eq_true rfl) (c2 := c) (s2 := s) rfl rfl hf0 (wc_m_addr _ _ _) dn_XL_law_840 ?_
  refine zy_eq (ws2 := wl_w E am o (vp_updL f 0 rv.toInt64) G1 mr.2) (zy_ap5 _ _).symm ?_
  refine zz_iload cx dn_XL_law_843 rfl ?_
  refine zz_icmp_eq_t cx (tgt := 850) dn_XL_law_845 (by decide) rfl ?_
  refine zz_iload cx dn_XL_law_850 rfl ?_
  refine zz_if_ne_f cx (tgt := 867) dn_XL_law_852 (by decide) (by decide) ?_
  refine zz_aload_n cx dn_XL_law_855 rfl rfl ?_
  refine zz_iconst cx dn_XL_law_856 (v := (0 : Int32)) (by decide) ?_
  refine zz_lald cx 0 2 rfl rfl zi_01 (zy_up0 _ _) dn_XL_law_857 ?_
  refine zz_iload cx dn_XL_law_858 rfl ?_
  refine zz_i2l cx dn_XL_law_860 ?_
  refine zz_lcmp cx dn_XL_law_861 ?_
  rw [show lg_cmp rv.toInt64 mr.1.toInt64 = 0 by rw [hv, zy_cmp]]
  refine zz_if_eq_t cx (tgt := 867) dn_XL_law_862 (by decide) rfl ?_
  refine zz_goto cx dn_XL_law_867 (tgt := 926) (by decide) ?_
  refine zz_less (L2 := wl_L E am o b i) ⟨rfl, rfl, rfl, rfl, rfl, trivial⟩ ?_
  exact k
set_option maxHeartbeats 4000000 in
set_option maxRecDepth 100000 in
theorem zl_folded_t1 (E : ze_T) (am : Nat → Nat) (o b L : Nat) (xs : Nat → Int32) (X : zx_T) (cx : zx (zF E) X code rn_XL room_1 7) (sx : zs_ok X b L xs) (hx9 : zh_ok X) (c s : Nat) (hf0 : c ≤ room_1.cells ∧ s ≤ room_1.slots) (f : Nat → Int64) (G Gm : gs_T) (i : Int32) (y1 : Int32) (h1 : vp_in (i + 1) L) (e1 : xs (i + 1).toNatClampNeg = y1) (y2 : Int32) (h2 : vp_in (i + 2) L) (e2 : xs (i + 2).toNatClampNeg = y2) (hf1 : c + 1 ≤ room_1.cells ∧ s + 6 ≤ room_1.slots) (hl : (zF E).1.stackTraces = false) (G1 : gs_T) (hc : cR_folded G y1 y2 = some (.inr 1, G1)) (mr : Int32 × gs_T) (hm : mM_folded Gm y1 y2 = some mr) (ht : mM_thrown mr.2 = some (1 : Int32)) (k : zj (zF E) X (c + 1) (s + 6) (wl_w E am o f G1 mr.2) 926 (wl_L E am o b i) []) : zj (zF E) X c s (wl_w E am o f G Gm) 802 (wl_L E am o b i) [] := by
  refine zz_aload_n cx dn_XL_law_802 rfl rfl ?_
  refine zz_aload_n cx dn_XL_law_803 rfl rfl ?_
  refine zz_iload cx dn_XL_law_804 rfl ?_
  refine zz_iconst cx dn_XL_law_806 (v := (1 : Int32)) (by decide) ?_
  refine zz_iadd cx dn_XL_law_807 ?_
  refine zz_sld cx sx h1 e1 dn_XL_law_808 ?_
  refine zz_aload_n cx dn_XL_law_809 rfl rfl ?_
  refine zz_iload cx dn_XL_law_810 rfl ?_
  refine zz_iconst cx dn_XL_law_812 (v := (2 : Int32)) (by decide) ?_
  refine zz_iadd cx dn_XL_law_813 ?_
  refine zz_sld cx sx h2 e2 dn_XL_law_814 ?_
  refine zz_aload_n cx dn_XL_law_815 rfl rfl ?_
  refine zy_callW cx (wl := []) (wr := wc_m (ze_ad E am) Gm) (As := [.ref (ad_p E 0), .int y1, .int y2, .ref o]) (rest := []) (hh9 := []) (n := 4) (zh_folded_t1 E o f G y1 y2 G1 hl hc) (zy_ap6 _ _) hx9 zo_XL zw_folded (by decide) (by decide +kernel) zk_XL_111 zs_XL_folded (by decide) rfl (Nat.le_of_ble_eq_true rfl) (c2 := (c + 1)) (s2 := (s + 6)) rfl rfl hf1 (zy_ad2 (wc_c_addr E _ _)) dn_XL_law_816 ?_
  refine zy_eq (ws2 := wl_w E am o f G1 Gm) rfl ?_
  refine zz_istore cx dn_XL_law_819 (by decide) rfl ?_
  refine zz_aload_n cx dn_XL_law_821 rfl rfl ?_
  refine zz_aload_n cx dn_XL_law_822 rfl rfl ?_
  refine zz_iload cx dn_XL_law_823 rfl ?_
  refine zz_iconst cx dn_XL_law_825 (v := (1 : Int32)) (by decide) ?_
  refine zz_iadd cx dn_XL_law_826 ?_
  refine zz_sld cx sx h1 e1 dn_XL_law_827 ?_
  refine zz_aload_n cx dn_XL_law_828 rfl rfl ?_
  refine zz_iload cx dn_XL_law_829 rfl ?_
  refine zz_iconst cx dn_XL_law_831 (v := (2 : Int32)) (by decide) ?_
  refine zz_iadd cx dn_XL_law_832 ?_
  refine zz_sld cx sx h2 e2 dn_XL_law_833 ?_
  refine zy_callVi cx (wl := wo_e E o f :: wc_c E G1) (wr := []) (As := [.int y1, .int y2]) (rest := []) (z_mM_folded (ze_ad E am) Gm y1 y2 mr hm) (zy_ap5 _ _) zm_X4_folded zk_XL_113 zv_X4_folded 0 (ci := 4) rfl rfl (by decide) rfl (Nat.le_of_ble_eq_true rfl) (c2 := (c + 1)) (s2 := (s + 6)) rfl rfl hf1 (wc_m_addr _ _ _) dn_XL_law_834 ?_
  refine zy_eq (ws2 := wl_w E am o f G1 mr.2) (zy_ap5 _ _).symm ?_
  refine zz_istore cx dn_XL_law_837 (by decide) rfl ?_
  refine zz_aload_n cx dn_XL_law_839 rfl rfl ?_
  refine zy_callVi cx (wl := wo_e E o f :: wc_c E G1) (wr := []) (As := []) (rest := []) (z_mM_thrown (ze_ad E am) mr.2 _ ht) (zy_ap5 _ _) zm_X4_thrown zk_XL_67 zv_X4_thrown 0 (ci := 4) rfl rfl (by decide) rfl (Nat.le_of_ble_eq_true rfl) (c2 := (c + 1)) (s2 := (s + 6)) rfl rfl hf1 (wc_m_addr _ _ _) dn_XL_law_840 ?_
  refine zy_eq (ws2 := wl_w E am o f G1 mr.2) (zy_ap5 _ _).symm ?_
  refine zz_iload cx dn_XL_law_843 rfl ?_
  refine zz_icmp_eq_t cx (tgt := 850) dn_XL_law_845 (by decide) rfl ?_
  refine zz_iload cx dn_XL_law_850 rfl ?_
  refine zz_if_ne_t cx (tgt := 867) dn_XL_law_852 (by decide) (by decide) ?_
  refine zz_goto cx dn_XL_law_867 (tgt := 926) (by decide) ?_
  refine zz_less (L2 := wl_L E am o b i) ⟨rfl, rfl, rfl, rfl, rfl, trivial⟩ ?_
  exact k
set_option maxHeartbeats 4000000 in
set_option maxRecDepth 100000 in
theorem zl_folded_t2 (E : ze_T) (am : Nat → Nat) (o b L : Nat) (xs : Nat → Int32) (X : zx_T) (cx : zx (zF E) X code rn_XL room_1 7) (sx : zs_ok X b L xs) (hx9 : zh_ok X) (c s : Nat) (hf0 : c ≤ room_1.cells ∧ s ≤ room_1.slots) (f : Nat → Int64) (G Gm : gs_T) (i : Int32) (y1 : Int32) (h1 : vp_in (i + 1) L) (e1 : xs (i + 1).toNatClampNeg = y1) (y2 : Int32) (h2 : vp_in (i + 2) L) (e2 : xs (i + 2).toNatClampNeg = y2) (hf1 : c + 1 ≤ room_1.cells ∧ s + 6 ≤ room_1.slots) (hl : (zF E).1.stackTraces = false) (G1 : gs_T) (hc : cR_folded G y1 y2 = some (.inr 2, G1)) (mr : Int32 × gs_T) (hm : mM_folded Gm y1 y2 = some mr) (ht : mM_thrown mr.2 = some (2 : Int32)) (k : zj (zF E) X (c + 1) (s + 6) (wl_w E am o f G1 mr.2) 926 (wl_L E am o b i) []) : zj (zF E) X c s (wl_w E am o f G Gm) 802 (wl_L E am o b i) [] := by
  refine zz_aload_n cx dn_XL_law_802 rfl rfl ?_
  refine zz_aload_n cx dn_XL_law_803 rfl rfl ?_
  refine zz_iload cx dn_XL_law_804 rfl ?_
  refine zz_iconst cx dn_XL_law_806 (v := (1 : Int32)) (by decide) ?_
  refine zz_iadd cx dn_XL_law_807 ?_
  refine zz_sld cx sx h1 e1 dn_XL_law_808 ?_
  refine zz_aload_n cx dn_XL_law_809 rfl rfl ?_
  refine zz_iload cx dn_XL_law_810 rfl ?_
  refine zz_iconst cx dn_XL_law_812 (v := (2 : Int32)) (by decide) ?_
  refine zz_iadd cx dn_XL_law_813 ?_
  refine zz_sld cx sx h2 e2 dn_XL_law_814 ?_
  refine zz_aload_n cx dn_XL_law_815 rfl rfl ?_
  refine zy_callW cx (wl := []) (wr := wc_m (ze_ad E am) Gm) (As := [.ref (ad_p E 0), .int y1, .int y2, .ref o]) (rest := []) (hh9 := []) (n := 4) (zh_folded_t2 E o f G y1 y2 G1 hl hc) (zy_ap6 _ _) hx9 zo_XL zw_folded (by decide) (by decide +kernel) zk_XL_111 zs_XL_folded (by decide) rfl (Nat.le_of_ble_eq_true rfl) (c2 := (c + 1)) (s2 := (s + 6)) rfl rfl hf1 (zy_ad2 (wc_c_addr E _ _)) dn_XL_law_816 ?_
  refine zy_eq (ws2 := wl_w E am o f G1 Gm) rfl ?_
  refine zz_istore cx dn_XL_law_819 (by decide) rfl ?_
  refine zz_aload_n cx dn_XL_law_821 rfl rfl ?_
  refine zz_aload_n cx dn_XL_law_822 rfl rfl ?_
  refine zz_iload cx dn_XL_law_823 rfl ?_
  refine zz_iconst cx dn_XL_law_825 (v := (1 : Int32)) (by decide) ?_
  refine zz_iadd cx dn_XL_law_826 ?_
  refine zz_sld cx sx h1 e1 dn_XL_law_827 ?_
  refine zz_aload_n cx dn_XL_law_828 rfl rfl ?_
  refine zz_iload cx dn_XL_law_829 rfl ?_
  refine zz_iconst cx dn_XL_law_831 (v := (2 : Int32)) (by decide) ?_
  refine zz_iadd cx dn_XL_law_832 ?_
  refine zz_sld cx sx h2 e2 dn_XL_law_833 ?_
  refine zy_callVi cx (wl := wo_e E o f :: wc_c E G1) (wr := []) (As := [.int y1, .int y2]) (rest := []) (z_mM_folded (ze_ad E am) Gm y1 y2 mr hm) (zy_ap5 _ _) zm_X4_folded zk_XL_113 zv_X4_folded 0 (ci := 4) rfl rfl (by decide) rfl (Nat.le_of_ble_eq_true rfl) (c2 := (c + 1)) (s2 := (s + 6)) rfl rfl hf1 (wc_m_addr _ _ _) dn_XL_law_834 ?_
  refine zy_eq (ws2 := wl_w E am o f G1 mr.2) (zy_ap5 _ _).symm ?_
  refine zz_istore cx dn_XL_law_837 (by decide) rfl ?_
  refine zz_aload_n cx dn_XL_law_839 rfl rfl ?_
  refine zy_callVi cx (wl := wo_e E o f :: wc_c E G1) (wr := []) (As := []) (rest := []) (z_mM_thrown (ze_ad E am) mr.2 _ ht) (zy_ap5 _ _) zm_X4_thrown zk_XL_67 zv_X4_thrown 0 (ci := 4) rfl rfl (by decide) rfl (Nat.le_of_ble_eq_true rfl) (c2 := (c + 1)) (s2 := (s + 6)) rfl rfl hf1 (wc_m_addr _ _ _) dn_XL_law_840 ?_
  refine zy_eq (ws2 := wl_w E am o f G1 mr.2) (zy_ap5 _ _).symm ?_
  refine zz_iload cx dn_XL_law_843 rfl ?_
  refine zz_icmp_eq_t cx (tgt := 850) dn_XL_law_845 (by decide) rfl ?_
  refine zz_iload cx dn_XL_law_850 rfl ?_
  refine zz_if_ne_t cx (tgt := 867) dn_XL_law_852 (by decide) (by decide) ?_
  refine zz_goto cx dn_XL_law_867 (tgt := 926) (by decide) ?_
  refine zz_less (L2 := wl_L E am o b i) ⟨rfl, rfl, rfl, rfl, rfl, trivial⟩ ?_
  exact k
set_option maxHeartbeats 4000000 in
set_option maxRecDepth 100000 in
theorem zl_told_r (E : ze_T) (am : Nat → Nat) (o b L : Nat) (xs : Nat → Int32) (X : zx_T) (cx : zx (zF E) X code rn_XL room_1 7) (sx : zs_ok X b L xs) (hx9 : zh_ok X) (c s : Nat) (hf0 : c ≤ room_1.cells ∧ s ≤ room_1.slots) (f : Nat → Int64) (G Gm : gs_T) (i : Int32) (y1 : Int32) (h1 : vp_in (i + 1) L) (e1 : xs (i + 1).toNatClampNeg = y1) (k9 : Nat) (rv : Int32) (G1 : gs_T) (hc : cR_told G y1 = some (.inl rv, G1)) (mr : Int32 × gs_T) (hm : mM_told k9 Gm y1 = some mr) (ht : mM_thrown mr.2 = some (0 : Int32)) (hv : rv = mr.1) (k : zj (zF E) X c s (wl_w E am o (vp_updL f 0 rv.toInt64) G1 mr.2) 926 (wl_L E am o b i) []) : zj (zF E) X c s (wl_w E am o f G Gm) 870 (wl_L E am o b i) [] := by
  refine zz_aload_n cx dn_XL_law_870 rfl rfl ?_
  refine zz_aload_n cx dn_XL_law_871 rfl rfl ?_
  refine zz_iload cx dn_XL_law_872 rfl ?_
  refine zz_iconst cx dn_XL_law_874 (v := (1 : Int32)) (by decide) ?_
  refine zz_iadd cx dn_XL_law_875 ?_
  refine zz_sld cx sx h1 e1 dn_XL_law_876 ?_
  refine zz_aload_n cx dn_XL_law_877 rfl rfl ?_
  refine zy_callW cx (wl := []) (wr := wc_m (ze_ad E am) Gm) (As := [.ref (ad_p E 0), .int y1, .ref o]) (rest := []) (hh9 := []) (n := 3) (zh_told_r E o f G y1 rv G1 hc) (zy_ap6 _ _) hx9 zo_XL zw_told (by decide) (by decide +kernel) zk_XL_114 zs_XL_told (by decide) rfl (Nat.le_of_ble_eq_true rfl) (c2 := c) (s2 := s) rfl rfl hf0 (zy_ad2 (wc_c_addr E _ _)) dn_XL_law_878 ?_
  refine zy_eq (ws2 := wl_w E am o (vp_updL f 0 rv.toInt64) G1 Gm) rfl ?_
  refine zz_istore cx dn_XL_law_881 (by decide) rfl ?_
  refine zz_aload_n cx dn_XL_law_883 rfl rfl ?_
  refine zz_aload_n cx dn_XL_law_884 rfl rfl ?_
  refine zz_iload cx dn_XL_law_885 rfl ?_
  refine zz_iconst cx dn_XL_law_887 (v := (1 : Int32)) (by decide) ?_
  refine zz_iadd cx dn_XL_law_888 ?_
  refine zz_sld cx sx h1 e1 dn_XL_law_889 ?_
  refine zy_callVi cx (wl := wo_e E o (vp_updL f 0 rv.toInt64) :: wc_c E G1) (wr := []) (As := [.int y1]) (rest := []) (z_mM_told (ze_ad E am) k9 Gm y1 mr hm) (zy_ap5 _ _) zm_X4_told zk_XL_116 zv_X4_told 0 (ci := 4) rfl rfl (by decide) rfl (Nat.le_of_ble_eq_true rfl) (c2 := c) (s2 := s) rfl rfl hf0 (wc_m_addr _ _ _) dn_XL_law_890 ?_
  refine zy_eq (ws2 := wl_w E am o (vp_updL f 0 rv.toInt64) G1 mr.2) (zy_ap5 _ _).symm ?_
  refine zz_istore cx dn_XL_law_893 (by decide) rfl ?_
  refine zz_aload_n cx dn_XL_law_895 rfl rfl ?_
  refine zy_callVi cx (wl := wo_e E o (vp_updL f 0 rv.toInt64) :: wc_c E G1) (wr := []) (As := []) (rest := []) (z_mM_thrown (ze_ad E am) mr.2 _ ht) (zy_ap5 _ _) zm_X4_thrown zk_XL_67 zv_X4_thrown 0 (ci := 4) rfl rfl (by decide) rfl (Nat.le_of_ble_eq_true rfl) (c2 := c) (s2 := s) rfl rfl hf0 (wc_m_addr _ _ _) dn_XL_law_896 ?_
  refine zy_eq (ws2 := wl_w E am o (vp_updL f 0 rv.toInt64) G1 mr.2) (zy_ap5 _ _).symm ?_
  refine zz_iload cx dn_XL_law_899 rfl ?_
  refine zz_icmp_eq_t cx (tgt := 906) dn_XL_law_901 (by decide) rfl ?_
  refine zz_iload cx dn_XL_law_906 rfl ?_
  refine zz_if_ne_f cx (tgt := 923) dn_XL_law_908 (by decide) (by decide) ?_
  refine zz_aload_n cx dn_XL_law_911 rfl rfl ?_
  refine zz_iconst cx dn_XL_law_912 (v := (0 : Int32)) (by decide) ?_
  refine zz_lald cx 0 2 rfl rfl zi_01 (zy_up0 _ _) dn_XL_law_913 ?_
  refine zz_iload cx dn_XL_law_914 rfl ?_
  refine zz_i2l cx dn_XL_law_916 ?_
  refine zz_lcmp cx dn_XL_law_917 ?_
  rw [show lg_cmp rv.toInt64 mr.1.toInt64 = 0 by rw [hv, zy_cmp]]
  refine zz_if_eq_t cx (tgt := 923) dn_XL_law_918 (by decide) rfl ?_
  refine zz_goto cx dn_XL_law_923 (tgt := 926) (by decide) ?_
  refine zz_less (L2 := wl_L E am o b i) ⟨rfl, rfl, rfl, rfl, rfl, trivial⟩ ?_
  exact k
set_option maxHeartbeats 4000000 in
set_option maxRecDepth 100000 in
theorem zl_told_t2 (E : ze_T) (am : Nat → Nat) (o b L : Nat) (xs : Nat → Int32) (X : zx_T) (cx : zx (zF E) X code rn_XL room_1 7) (sx : zs_ok X b L xs) (hx9 : zh_ok X) (c s : Nat) (hf0 : c ≤ room_1.cells ∧ s ≤ room_1.slots) (f : Nat → Int64) (G Gm : gs_T) (i : Int32) (y1 : Int32) (h1 : vp_in (i + 1) L) (e1 : xs (i + 1).toNatClampNeg = y1) (k9 : Nat) (hf1 : c + 1 ≤ room_1.cells ∧ s + 6 ≤ room_1.slots) (hl : (zF E).1.stackTraces = false) (G1 : gs_T) (hc : cR_told G y1 = some (.inr 2, G1)) (mr : Int32 × gs_T) (hm : mM_told k9 Gm y1 = some mr) (ht : mM_thrown mr.2 = some (1 : Int32)) (k : zj (zF E) X (c + 1) (s + 6) (wl_w E am o f G1 mr.2) 926 (wl_L E am o b i) []) : zj (zF E) X c s (wl_w E am o f G Gm) 870 (wl_L E am o b i) [] := by
  refine zz_aload_n cx dn_XL_law_870 rfl rfl ?_
  refine zz_aload_n cx dn_XL_law_871 rfl rfl ?_
  refine zz_iload cx dn_XL_law_872 rfl ?_
  refine zz_iconst cx dn_XL_law_874 (v := (1 : Int32)) (by decide) ?_
  refine zz_iadd cx dn_XL_law_875 ?_
  refine zz_sld cx sx h1 e1 dn_XL_law_876 ?_
  refine zz_aload_n cx dn_XL_law_877 rfl rfl ?_
  refine zy_callW cx (wl := []) (wr := wc_m (ze_ad E am) Gm) (As := [.ref (ad_p E 0), .int y1, .ref o]) (rest := []) (hh9 := []) (n := 3) (zh_told_t2 E o f G y1 G1 hl hc) (zy_ap6 _ _) hx9 zo_XL zw_told (by decide) (by decide +kernel) zk_XL_114 zs_XL_told (by decide) rfl (Nat.le_of_ble_eq_true rfl) (c2 := (c + 1)) (s2 := (s + 6)) rfl rfl hf1 (zy_ad2 (wc_c_addr E _ _)) dn_XL_law_878 ?_
  refine zy_eq (ws2 := wl_w E am o f G1 Gm) rfl ?_
  refine zz_istore cx dn_XL_law_881 (by decide) rfl ?_
  refine zz_aload_n cx dn_XL_law_883 rfl rfl ?_
  refine zz_aload_n cx dn_XL_law_884 rfl rfl ?_
  refine zz_iload cx dn_XL_law_885 rfl ?_
  refine zz_iconst cx dn_XL_law_887 (v := (1 : Int32)) (by decide) ?_
  refine zz_iadd cx dn_XL_law_888 ?_
  refine zz_sld cx sx h1 e1 dn_XL_law_889 ?_
  refine zy_callVi cx (wl := wo_e E o f :: wc_c E G1) (wr := []) (As := [.int y1]) (rest := []) (z_mM_told (ze_ad E am) k9 Gm y1 mr hm) (zy_ap5 _ _) zm_X4_told zk_XL_116 zv_X4_told 0 (ci := 4) rfl rfl (by decide) rfl (Nat.le_of_ble_eq_true rfl) (c2 := (c + 1)) (s2 := (s + 6)) rfl rfl hf1 (wc_m_addr _ _ _) dn_XL_law_890 ?_
  refine zy_eq (ws2 := wl_w E am o f G1 mr.2) (zy_ap5 _ _).symm ?_
  refine zz_istore cx dn_XL_law_893 (by decide) rfl ?_
  refine zz_aload_n cx dn_XL_law_895 rfl rfl ?_
  refine zy_callVi cx (wl := wo_e E o f :: wc_c E G1) (wr := []) (As := []) (rest := []) (z_mM_thrown (ze_ad E am) mr.2 _ ht) (zy_ap5 _ _) zm_X4_thrown zk_XL_67 zv_X4_thrown 0 (ci := 4) rfl rfl (by decide) rfl (Nat.le_of_ble_eq_true rfl) (c2 := (c + 1)) (s2 := (s + 6)) rfl rfl hf1 (wc_m_addr _ _ _) dn_XL_law_896 ?_
  refine zy_eq (ws2 := wl_w E am o f G1 mr.2) (zy_ap5 _ _).symm ?_
  refine zz_iload cx dn_XL_law_899 rfl ?_
  refine zz_icmp_eq_t cx (tgt := 906) dn_XL_law_901 (by decide) rfl ?_
  refine zz_iload cx dn_XL_law_906 rfl ?_
  refine zz_if_ne_t cx (tgt := 923) dn_XL_law_908 (by decide) (by decide) ?_
  refine zz_goto cx dn_XL_law_923 (tgt := 926) (by decide) ?_
  refine zz_less (L2 := wl_L E am o b i) ⟨rfl, rfl, rfl, rfl, rfl, trivial⟩ ?_
  exact k
