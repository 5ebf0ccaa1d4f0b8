/-! ===== own: what the mathematics must give (printed by genloop.py) ===== -/
def sp_i (Rel : gs_T → gs_T → Prop) (cf : Nat → Option ((Int32 ⊕ Nat) × gs_T)) (mf : Nat → Option (Int32 × gs_T)) (cd : List (Nat × Int32)) : Prop :=
  ∃ (n k : Nat) (G1 : gs_T) (mr : Int32 × gs_T), mf k = some mr ∧ Rel G1 mr.2 ∧ ((cf n = some (.inl mr.1, G1) ∧ mr.2.1 0 = 0) ∨ ∃ q ∈ cd, cf n = some (.inr q.1, G1) ∧ mr.2.1 0 = q.2)
def sp_v (Rel : gs_T → gs_T → Prop) (cf : Nat → Option ((Unit ⊕ Nat) × gs_T)) (mf : Nat → Option gs_T) (cd : List (Nat × Int32)) : Prop :=
  ∃ (n k : Nat) (G1 : gs_T) (mr : gs_T), mf k = some mr ∧ Rel G1 mr ∧ ((cf n = some (.inl (), G1) ∧ mr.1 0 = 0) ∨ ∃ q ∈ cd, cf n = some (.inr q.1, G1) ∧ mr.1 0 = q.2)
def so_bar (Rel : gs_T → gs_T → Prop) (G Gm : gs_T) : Prop := ∀ x1 : Int32, sp_i Rel (fun n => cR_bar G x1) (fun n => mM_bar Gm x1) [(0, 1)]
def so_repeat (Rel : gs_T → gs_T → Prop) (G Gm : gs_T) : Prop := ∀ x1 x2 x3 : Int32, sp_i Rel (fun n => cR_repeat n G x1 x2 x3) (fun n => mM_repeat n Gm x1 x2 x3) [(1, 1), (2, 2), (0, 3)]
def so_ending (Rel : gs_T → gs_T → Prop) (G Gm : gs_T) : Prop := ∀ x1 x2 x3 x4 : Int32, sp_i Rel (fun n => cR_ending n G x1 x2 x3 x4) (fun n => mM_ending n Gm x1 x2 x3 x4) [(1, 1), (2, 2), (0, 3)]
def so_sign (Rel : gs_T → gs_T → Prop) (G Gm : gs_T) : Prop := ∀ x1 x2 : Int32, sp_i Rel (fun n => cR_sign G x1 x2) (fun n => mM_sign Gm x1 x2) [(2, 1), (1, 2)]
def so_jump (Rel : gs_T → gs_T → Prop) (G Gm : gs_T) : Prop := ∀ x1 x2 x3 x4 : Int32, (x4 = 0 ∨ x4 = 1) → sp_v Rel (fun n => cR_jump G x1 x2 x3 x4) (fun n => mM_jump Gm x1 x2 x3 x4) [(1, 1), (2, 2)]
def so_plain (Rel : gs_T → gs_T → Prop) (G Gm : gs_T) : Prop := ∀ x1 : Int32, sp_v Rel (fun n => cR_plain G x1) (fun n => mM_plain Gm x1) [(1, 1), (0, 2)]
def so_unfold (Rel : gs_T → gs_T → Prop) (G Gm : gs_T) : Prop := ∃ (n k : Nat) (rc mr : Int32 × gs_T), cR_unfold n G = some rc ∧ mM_unfold k Gm = some mr ∧ rc.1 = mr.1 ∧ Rel rc.2 mr.2
def so_fault (Rel : gs_T → gs_T → Prop) (G Gm : gs_T) : Prop := ∃ (rc : Int32) (mr : Int32 × gs_T), cR_fault G = some rc ∧ mM_fault Gm = some mr ∧ rc = mr.1 ∧ Rel G mr.2
def so_played (Rel : gs_T → gs_T → Prop) (G Gm : gs_T) : Prop := ∀ x1 x2 : Int32, sp_i Rel (fun n => cR_played G x1 x2) (fun n => mM_played Gm x1 x2) [(1, 1), (2, 2)]
def so_times (Rel : gs_T → gs_T → Prop) (G Gm : gs_T) : Prop := ∀ x1 : Int32, sp_i Rel (fun n => cR_times G x1) (fun n => mM_times n Gm x1) [(1, 1)]
def so_comes (Rel : gs_T → gs_T → Prop) (G Gm : gs_T) : Prop := ∀ x1 : Int32, sp_i Rel (fun n => cR_comes G x1) (fun n => mM_comes Gm x1) [(1, 1)]
def so_fold (Rel : gs_T → gs_T → Prop) (G Gm : gs_T) : Prop := ∀ x1 x2 : Int32, sp_i Rel (fun n => cR_fold n G x1 x2) (fun n => mM_fold n Gm x1 x2) [(2, 1), (1, 2)]
def so_folded (Rel : gs_T → gs_T → Prop) (G Gm : gs_T) : Prop := ∀ x1 x2 : Int32, sp_i Rel (fun n => cR_folded G x1 x2) (fun n => mM_folded Gm x1 x2) [(1, 1), (2, 2)]
def so_told (Rel : gs_T → gs_T → Prop) (G Gm : gs_T) : Prop := ∀ x1 : Int32, sp_i Rel (fun n => cR_told G x1) (fun n => mM_told n Gm x1) [(2, 1)]
def sp_ok (Rel : gs_T → gs_T → Prop) (G Gm : gs_T) : Prop := so_bar Rel G Gm ∧ so_repeat Rel G Gm ∧ so_ending Rel G Gm ∧ so_sign Rel G Gm ∧ so_jump Rel G Gm ∧ so_plain Rel G Gm ∧ so_unfold Rel G Gm ∧ so_fault Rel G Gm ∧ so_played Rel G Gm ∧ so_times Rel G Gm ∧ so_comes Rel G Gm ∧ so_fold Rel G Gm ∧ so_folded Rel G Gm ∧ so_told Rel G Gm
theorem zl_gt {L i : Nat} (hL : L ≤ 2560) (hi : i ≤ 3000) : (Int32.ofNat L - 5 < nI i ↔ L < i + 5) := by
  have e1 : (Int32.ofNat L).toInt = (L : Int) := nI_toInt (n := L) (by omega)
  have e2 : (nI i).toInt = (i : Int) := nI_toInt (by omega)
  have e3 : (Int32.ofNat L - 5).toInt = (L : Int) - 5 := by
    rw [Int32.toInt_sub, e1, show (5 : Int32).toInt = 5 by decide]
    rw [Int.bmod_eq_of_le] <;> omega
  rw [Int32.lt_iff_toInt_lt, e2, e3]
  omega
theorem zl_in {L a j : Nat} (h : a + j < L) (hL : L ≤ 2560) (J : Int32) (hJ : J = nI j) : vp_in (nI a + J) L := by
  subst hJ
  rw [nI_add]
  exact vp_in_nI h (by omega)
theorem zy_swap {F : zf_T} {X : zx_T} {cells slots pc : Nat} {wa wb : va_W} {L : List (Option Value)} {st : List Value} (k : zj F X cells slots (wb ++ wa) pc L st) : zj F X cells slots (wa ++ wb) pc L st := by
  obtain ⟨l, D, tys⟩ := F
  obtain ⟨p, e, R, s, m, args, below, meth, c, A, nL, Q⟩ := X
  intro H locs ls hP hD hS hl
  refine k H locs ls (fun i q hq => ?_) ?_ hS hl
  · obtain ⟨i', hi'⟩ := List.getElem?_of_mem (List.mem_append.mpr (List.mem_append.mp (List.mem_of_getElem? hq)).symm)
    exact hP i' q hi'
  · have ha : va_D A wa := zy_dsub (wl := []) (wr := wb) hD
    have hb : va_D A wb := zy_dsub (wl := wa) (wr := []) (by rw [List.append_nil]; exact hD)
    refine va_D.app hb ha (fun i j x y hx hy hxy => ?_)
    have hl1 := (List.getElem?_eq_some_iff.mp hy).1
    have h1 := hD.1 (wa.length + i) j x y (by rw [List.getElem?_append_right (by omega), Nat.add_sub_cancel_left]; exact hx) (by rw [List.getElem?_append_left hl1]; exact hy) hxy
    omega

set_option maxHeartbeats 4000000 in
set_option maxRecDepth 100000 in
theorem zl_loop (Rel : gs_T → gs_T → Prop) (hR : ∀ G Gm, Rel G Gm → sp_ok Rel G Gm) (E : ze_T) (am : Nat → Nat) (o b L : Nat) (xs : Nat → Int32) (X : zx_T) (cx : zx (zF E) X code rn_XL room_1 7) (sx : zs_ok X b L xs) (hx9 : zh_ok X) (hl : (zF E).1.stackTraces = false) (hL : L ≤ 2560)
    (hend : ∀ (c s : Nat) (ws : va_W) (L9 : List (Option Value)), c ≤ 1111 → s ≤ 29205 → zj (zF E) X c s ws 933 L9 [.int 1]) :
    ∀ (k j : Nat) (f : Nat → Int64) (G Gm : gs_T), Rel G Gm → 5 * j ≤ L → L < 5 * j + 5 * k → zj (zF E) X (65 + j) (20881 + 6 * j) (wl_w E am o f G Gm) 23 (wl_L E am o b (nI (5 * j))) [] := by
  intro k
  induction k with
  | zero => intro j f G Gm _ h1 h2; omega
  | succ k ih =>
    intro j f G Gm hrel h1 h2
    refine zz_iload cx dn_XL_law_23 rfl ?_
    refine zz_aload_n cx dn_XL_law_25 rfl rfl ?_
    refine zz_slen cx sx dn_XL_law_26 ?_
    refine zz_iconst cx dn_XL_law_27 (v := 5) (by decide) ?_
    refine zz_isub cx dn_XL_law_28 ?_
    by_cases hgo : L < 5 * j + 5
    · refine zz_icmp_gt_t cx (tgt := 932) dn_XL_law_29 (by decide) ((zl_gt hL (by omega)).mpr hgo) ?_
      refine zz_iconst cx dn_XL_law_932 (v := 1) (by decide) ?_
      exact hend _ _ _ _ (by omega) (by omega)
    refine zz_icmp_gt_f cx (tgt := 932) dn_XL_law_29 (by decide) (fun h => hgo ((zl_gt hL (by omega)).mp h)) ?_
    have hj : 5 * j + 5 ≤ L := by omega
    have tail : ∀ (c s : Nat) (f : Nat → Int64) (G Gm : gs_T), Rel G Gm → c ≤ 65 + (j + 1) → s ≤ 20881 + 6 * (j + 1) → zj (zF E) X c s (wl_w E am o f G Gm) 926 (wl_L E am o b (nI (5 * j))) [] := by
      intro c s f G Gm hrel hc hs
      refine zz_wide hc hs ?_
      refine zz_iinc cx dn_XL_law_926 (d := 5) rfl (by decide) (by decide) rfl ?_
      refine zz_goto cx dn_XL_law_929 (tgt := 23) (by decide) ?_
      have e5 : nI (5 * j) + 5 = nI (5 * (j + 1)) := nI_add (5 * j) 5
      rw [e5]
      exact ih (j + 1) f G Gm hrel hj (by omega)
    have hf0 : 65 + j ≤ room_1.cells ∧ 20881 + 6 * j ≤ room_1.slots := ⟨show 65 + j ≤ 1111 by omega, show 20881 + 6 * j ≤ 29205 by omega⟩
    have hf1 : 65 + j + 1 ≤ room_1.cells ∧ 20881 + 6 * j + 6 ≤ room_1.slots := ⟨show 65 + j + 1 ≤ 1111 by omega, show 20881 + 6 * j + 6 ≤ 29205 by omega⟩
    have i1 : vp_in (nI (5 * j) + 1) L := zl_in (j := 1) (by omega) hL 1 rfl
    have i2 : vp_in (nI (5 * j) + 2) L := zl_in (j := 2) (by omega) hL 2 rfl
    have i3 : vp_in (nI (5 * j) + 3) L := zl_in (j := 3) (by omega) hL 3 rfl
    have i4 : vp_in (nI (5 * j) + 4) L := zl_in (j := 4) (by omega) hL 4 rfl
    obtain ⟨r0, r1, r2, r3, r4, r5, r6, r7, r8, r9, r10, r11, r12, r13⟩ := hR G Gm hrel
    refine zz_aload_n cx dn_XL_law_32 rfl rfl ?_
    refine zz_iload cx dn_XL_law_33 rfl ?_
    refine zz_sld cx sx (vp_in_nI (by omega) (by omega)) rfl dn_XL_law_35 ?_
    refine zz_bipush cx dn_XL_law_36 (v := 15) (by decide) ?_
    refine zz_iand cx dn_XL_law_38 ?_
    by_cases c0 : (xs (nI (5 * j)).toNatClampNeg &&& 15) = 0
    · refine zz_swin cx dn_XL_law_39 c0 (by decide) (by decide) (off := 69) (tgt := 108) (by decide) (by decide) ?_
      obtain ⟨n, k9, G1, mr, hm, hr, hc⟩ := r0 (xs (nI (5 * j) + 1).toNatClampNeg)
      rcases hc with ⟨hc, ht⟩ | ⟨q, hq, hc, ht⟩
      · exact zl_bar_r E am o b L xs X cx sx hx9 _ _ hf0 f G Gm _ _ i1 rfl _ G1 hc mr hm (congrArg some ht) rfl (tail _ _ _ _ _ hr (by omega) (by omega))
      · simp only [List.mem_cons, List.not_mem_nil, or_false] at hq
        subst hq
        exact zl_bar_t0 E am o b L xs X cx sx hx9 _ _ hf0 f G Gm _ _ i1 rfl hf1 hl G1 hc mr hm (congrArg some ht) (tail _ _ _ _ _ hr (by omega) (by omega))
    by_cases c1 : (xs (nI (5 * j)).toNatClampNeg &&& 15) = 1
    · refine zz_swin cx dn_XL_law_39 c1 (by decide) (by decide) (off := 125) (tgt := 164) (by decide) (by decide) ?_
      obtain ⟨n, k9, G1, mr, hm, hr, hc⟩ := r1 (xs (nI (5 * j) + 1).toNatClampNeg) (xs (nI (5 * j) + 2).toNatClampNeg) (xs (nI (5 * j) + 3).toNatClampNeg)
      rcases hc with ⟨hc, ht⟩ | ⟨q, hq, hc, ht⟩
      · exact zl_repeat_r E am o b L xs X cx sx hx9 _ _ hf0 f G Gm _ _ i1 rfl _ i2 rfl _ i3 rfl n k9 _ G1 hc mr hm (congrArg some ht) rfl (tail _ _ _ _ _ hr (by omega) (by omega))
      · simp only [List.mem_cons, List.not_mem_nil, or_false] at hq
        rcases hq with rfl | rfl | rfl
        · exact zl_repeat_t1 E am o b L xs X cx sx hx9 _ _ hf0 f G Gm _ _ i1 rfl _ i2 rfl _ i3 rfl n k9 hf1 hl G1 hc mr hm (congrArg some ht) (tail _ _ _ _ _ hr (by omega) (by omega))
        · exact zl_repeat_t2 E am o b L xs X cx sx hx9 _ _ hf0 f G Gm _ _ i1 rfl _ i2 rfl _ i3 rfl n k9 hf1 hl G1 hc mr hm (congrArg some ht) (tail _ _ _ _ _ hr (by omega) (by omega))
        · exact zl_repeat_t0 E am o b L xs X cx sx hx9 _ _ hf0 f G Gm _ _ i1 rfl _ i2 rfl _ i3 rfl n k9 hf1 hl G1 hc mr hm (congrArg some ht) (tail _ _ _ _ _ hr (by omega) (by omega))
    by_cases c2 : (xs (nI (5 * j)).toNatClampNeg &&& 15) = 2
    · refine zz_swin cx dn_XL_law_39 c2 (by decide) (by decide) (off := 205) (tgt := 244) (by decide) (by decide) ?_
      obtain ⟨n, k9, G1, mr, hm, hr, hc⟩ := r2 (xs (nI (5 * j) + 1).toNatClampNeg) (xs (nI (5 * j) + 2).toNatClampNeg) (xs (nI (5 * j) + 3).toNatClampNeg) (xs (nI (5 * j) + 4).toNatClampNeg)
      rcases hc with ⟨hc, ht⟩ | ⟨q, hq, hc, ht⟩
      · exact zl_ending_r E am o b L xs X cx sx hx9 _ _ hf0 f G Gm _ _ i1 rfl _ i2 rfl _ i3 rfl _ i4 rfl n k9 _ G1 hc mr hm (congrArg some ht) rfl (tail _ _ _ _ _ hr (by omega) (by omega))
      · simp only [List.mem_cons, List.not_mem_nil, or_false] at hq
        rcases hq with rfl | rfl | rfl
        · exact zl_ending_t1 E am o b L xs X cx sx hx9 _ _ hf0 f G Gm _ _ i1 rfl _ i2 rfl _ i3 rfl _ i4 rfl n k9 hf1 hl G1 hc mr hm (congrArg some ht) (tail _ _ _ _ _ hr (by omega) (by omega))
        · exact zl_ending_t2 E am o b L xs X cx sx hx9 _ _ hf0 f G Gm _ _ i1 rfl _ i2 rfl _ i3 rfl _ i4 rfl n k9 hf1 hl G1 hc mr hm (congrArg some ht) (tail _ _ _ _ _ hr (by omega) (by omega))
        · exact zl_ending_t0 E am o b L xs X cx sx hx9 _ _ hf0 f G Gm _ _ i1 rfl _ i2 rfl _ i3 rfl _ i4 rfl n k9 hf1 hl G1 hc mr hm (congrArg some ht) (tail _ _ _ _ _ hr (by omega) (by omega))
    by_cases c3 : (xs (nI (5 * j)).toNatClampNeg &&& 15) = 3
    · refine zz_swin cx dn_XL_law_39 c3 (by decide) (by decide) (off := 297) (tgt := 336) (by decide) (by decide) ?_
      obtain ⟨n, k9, G1, mr, hm, hr, hc⟩ := r3 (xs (nI (5 * j) + 1).toNatClampNeg) (xs (nI (5 * j) + 2).toNatClampNeg)
      rcases hc with ⟨hc, ht⟩ | ⟨q, hq, hc, ht⟩
      · exact zl_sign_r E am o b L xs X cx sx hx9 _ _ hf0 f G Gm _ _ i1 rfl _ i2 rfl _ G1 hc mr hm (congrArg some ht) rfl (tail _ _ _ _ _ hr (by omega) (by omega))
      · simp only [List.mem_cons, List.not_mem_nil, or_false] at hq
        rcases hq with rfl | rfl
        · exact zl_sign_t2 E am o b L xs X cx sx hx9 _ _ hf0 f G Gm _ _ i1 rfl _ i2 rfl hf1 hl G1 hc mr hm (congrArg some ht) (tail _ _ _ _ _ hr (by omega) (by omega))
        · exact zl_sign_t1 E am o b L xs X cx sx hx9 _ _ hf0 f G Gm _ _ i1 rfl _ i2 rfl hf1 hl G1 hc mr hm (congrArg some ht) (tail _ _ _ _ _ hr (by omega) (by omega))
    by_cases c4 : (xs (nI (5 * j)).toNatClampNeg &&& 15) = 4
    · refine zz_swin cx dn_XL_law_39 c4 (by decide) (by decide) (off := 365) (tgt := 404) (by decide) (by decide) ?_
      by_cases hz : xs (nI (5 * j) + 4).toNatClampNeg = 0
      · obtain ⟨n, k9, G1, mr, hm, hr, hc⟩ := r4 (xs (nI (5 * j) + 1).toNatClampNeg) (xs (nI (5 * j) + 2).toNatClampNeg) (xs (nI (5 * j) + 3).toNatClampNeg) 0 (Or.inl rfl)
        rcases hc with ⟨hc, ht⟩ | ⟨q, hq, hc, ht⟩
        · exact zl_jump_r_z0 E am o b L xs X cx sx hx9 _ _ hf0 f G Gm _ _ i1 rfl _ i2 rfl _ i3 rfl _ i4 rfl hz G1 hc mr hm (congrArg some ht) (tail _ _ _ _ _ hr (by omega) (by omega))
        · simp only [List.mem_cons, List.not_mem_nil, or_false] at hq
          rcases hq with rfl | rfl
          · exact zl_jump_t1_z0 E am o b L xs X cx sx hx9 _ _ hf0 f G Gm _ _ i1 rfl _ i2 rfl _ i3 rfl _ i4 rfl hz hf1 hl G1 hc mr hm (congrArg some ht) (tail _ _ _ _ _ hr (by omega) (by omega))
          · exact zl_jump_t2_z0 E am o b L xs X cx sx hx9 _ _ hf0 f G Gm _ _ i1 rfl _ i2 rfl _ i3 rfl _ i4 rfl hz hf1 hl G1 hc mr hm (congrArg some ht) (tail _ _ _ _ _ hr (by omega) (by omega))
      · obtain ⟨n, k9, G1, mr, hm, hr, hc⟩ := r4 (xs (nI (5 * j) + 1).toNatClampNeg) (xs (nI (5 * j) + 2).toNatClampNeg) (xs (nI (5 * j) + 3).toNatClampNeg) 1 (Or.inr rfl)
        rcases hc with ⟨hc, ht⟩ | ⟨q, hq, hc, ht⟩
        · exact zl_jump_r_z1 E am o b L xs X cx sx hx9 _ _ hf0 f G Gm _ _ i1 rfl _ i2 rfl _ i3 rfl _ i4 rfl hz G1 hc mr hm (congrArg some ht) (tail _ _ _ _ _ hr (by omega) (by omega))
        · simp only [List.mem_cons, List.not_mem_nil, or_false] at hq
          rcases hq with rfl | rfl
          · exact zl_jump_t1_z1 E am o b L xs X cx sx hx9 _ _ hf0 f G Gm _ _ i1 rfl _ i2 rfl _ i3 rfl _ i4 rfl hz hf1 hl G1 hc mr hm (congrArg some ht) (tail _ _ _ _ _ hr (by omega) (by omega))
          · exact zl_jump_t2_z1 E am o b L xs X cx sx hx9 _ _ hf0 f G Gm _ _ i1 rfl _ i2 rfl _ i3 rfl _ i4 rfl hz hf1 hl G1 hc mr hm (congrArg some ht) (tail _ _ _ _ _ hr (by omega) (by omega))
    by_cases c5 : (xs (nI (5 * j)).toNatClampNeg &&& 15) = 5
    · refine zz_swin cx dn_XL_law_39 c5 (by decide) (by decide) (off := 453) (tgt := 492) (by decide) (by decide) ?_
      obtain ⟨n, k9, G1, mr, hm, hr, hc⟩ := r5 (xs (nI (5 * j) + 1).toNatClampNeg)
      rcases hc with ⟨hc, ht⟩ | ⟨q, hq, hc, ht⟩
      · exact zl_plain_r E am o b L xs X cx sx hx9 _ _ hf0 f G Gm _ _ i1 rfl G1 hc mr hm (congrArg some ht) (tail _ _ _ _ _ hr (by omega) (by omega))
      · simp only [List.mem_cons, List.not_mem_nil, or_false] at hq
        rcases hq with rfl | rfl
        · exact zl_plain_t1 E am o b L xs X cx sx hx9 _ _ hf0 f G Gm _ _ i1 rfl hf1 hl G1 hc mr hm (congrArg some ht) (tail _ _ _ _ _ hr (by omega) (by omega))
        · exact zl_plain_t0 E am o b L xs X cx sx hx9 _ _ hf0 f G Gm _ _ i1 rfl hf1 hl G1 hc mr hm (congrArg some ht) (tail _ _ _ _ _ hr (by omega) (by omega))
    by_cases c6 : (xs (nI (5 * j)).toNatClampNeg &&& 15) = 6
    · refine zz_swin cx dn_XL_law_39 c6 (by decide) (by decide) (off := 489) (tgt := 528) (by decide) (by decide) ?_
      obtain ⟨n, k9, rc, mr, hc, hm, hv, hr⟩ := r6
      exact zl_unfold E am o b L xs X cx sx hx9 _ _ hf0 f G Gm _ n k9 rc hc mr hm hv (tail _ _ _ _ _ hr (by omega) (by omega))
    by_cases c7 : (xs (nI (5 * j)).toNatClampNeg &&& 15) = 7
    · refine zz_swin cx dn_XL_law_39 c7 (by decide) (by decide) (off := 502) (tgt := 541) (by decide) (by decide) ?_
      obtain ⟨rc, mr, hc, hm, hv, hr⟩ := r7
      exact zl_fault E am o b L xs X cx sx hx9 _ _ hf0 f G Gm _ rc hc mr hm hv (tail _ _ _ _ _ hr (by omega) (by omega))
    by_cases c8 : (xs (nI (5 * j)).toNatClampNeg &&& 15) = 8
    · refine zz_swin cx dn_XL_law_39 c8 (by decide) (by decide) (off := 515) (tgt := 554) (by decide) (by decide) ?_
      obtain ⟨n, k9, G1, mr, hm, hr, hc⟩ := r8 (xs (nI (5 * j) + 1).toNatClampNeg) (xs (nI (5 * j) + 2).toNatClampNeg)
      rcases hc with ⟨hc, ht⟩ | ⟨q, hq, hc, ht⟩
      · exact zl_played_r E am o b L xs X cx sx hx9 _ _ hf0 f G Gm _ _ i1 rfl _ i2 rfl _ G1 hc mr hm (congrArg some ht) rfl (tail _ _ _ _ _ hr (by omega) (by omega))
      · simp only [List.mem_cons, List.not_mem_nil, or_false] at hq
        rcases hq with rfl | rfl
        · exact zl_played_t1 E am o b L xs X cx sx hx9 _ _ hf0 f G Gm _ _ i1 rfl _ i2 rfl hf1 hl G1 hc mr hm (congrArg some ht) (tail _ _ _ _ _ hr (by omega) (by omega))
        · exact zl_played_t2 E am o b L xs X cx sx hx9 _ _ hf0 f G Gm _ _ i1 rfl _ i2 rfl hf1 hl G1 hc mr hm (congrArg some ht) (tail _ _ _ _ _ hr (by omega) (by omega))
    by_cases c9 : (xs (nI (5 * j)).toNatClampNeg &&& 15) = 9
    · refine zz_swin cx dn_XL_law_39 c9 (by decide) (by decide) (off := 583) (tgt := 622) (by decide) (by decide) ?_
      obtain ⟨n, k9, G1, mr, hm, hr, hc⟩ := r9 (xs (nI (5 * j) + 1).toNatClampNeg)
      rcases hc with ⟨hc, ht⟩ | ⟨q, hq, hc, ht⟩
      · exact zl_times_r E am o b L xs X cx sx hx9 _ _ hf0 f G Gm _ _ i1 rfl k9 _ G1 hc mr hm (congrArg some ht) rfl (tail _ _ _ _ _ hr (by omega) (by omega))
      · simp only [List.mem_cons, List.not_mem_nil, or_false] at hq
        subst hq
        exact zl_times_t1 E am o b L xs X cx sx hx9 _ _ hf0 f G Gm _ _ i1 rfl k9 hf1 hl G1 hc mr hm (congrArg some ht) (tail _ _ _ _ _ hr (by omega) (by omega))
    by_cases c10 : (xs (nI (5 * j)).toNatClampNeg &&& 15) = 10
    · refine zz_swin cx dn_XL_law_39 c10 (by decide) (by decide) (off := 639) (tgt := 678) (by decide) (by decide) ?_
      obtain ⟨n, k9, G1, mr, hm, hr, hc⟩ := r10 (xs (nI (5 * j) + 1).toNatClampNeg)
      rcases hc with ⟨hc, ht⟩ | ⟨q, hq, hc, ht⟩
      · exact zl_comes_r E am o b L xs X cx sx hx9 _ _ hf0 f G Gm _ _ i1 rfl _ G1 hc mr hm (congrArg some ht) rfl (tail _ _ _ _ _ hr (by omega) (by omega))
      · simp only [List.mem_cons, List.not_mem_nil, or_false] at hq
        subst hq
        exact zl_comes_t1 E am o b L xs X cx sx hx9 _ _ hf0 f G Gm _ _ i1 rfl hf1 hl G1 hc mr hm (congrArg some ht) (tail _ _ _ _ _ hr (by omega) (by omega))
    by_cases c11 : (xs (nI (5 * j)).toNatClampNeg &&& 15) = 11
    · refine zz_swin cx dn_XL_law_39 c11 (by decide) (by decide) (off := 695) (tgt := 734) (by decide) (by decide) ?_
      obtain ⟨n, k9, G1, mr, hm, hr, hc⟩ := r11 (xs (nI (5 * j) + 1).toNatClampNeg) (xs (nI (5 * j) + 2).toNatClampNeg)
      rcases hc with ⟨hc, ht⟩ | ⟨q, hq, hc, ht⟩
      · exact zl_fold_r E am o b L xs X cx sx hx9 _ _ hf0 f G Gm _ _ i1 rfl _ i2 rfl n k9 _ G1 hc mr hm (congrArg some ht) rfl (tail _ _ _ _ _ hr (by omega) (by omega))
      · simp only [List.mem_cons, List.not_mem_nil, or_false] at hq
        rcases hq with rfl | rfl
        · exact zl_fold_t2 E am o b L xs X cx sx hx9 _ _ hf0 f G Gm _ _ i1 rfl _ i2 rfl n k9 hf1 hl G1 hc mr hm (congrArg some ht) (tail _ _ _ _ _ hr (by omega) (by omega))
        · exact zl_fold_t1 E am o b L xs X cx sx hx9 _ _ hf0 f G Gm _ _ i1 rfl _ i2 rfl n k9 hf1 hl G1 hc mr hm (congrArg some ht) (tail _ _ _ _ _ hr (by omega) (by omega))
    by_cases c12 : (xs (nI (5 * j)).toNatClampNeg &&& 15) = 12
    · refine zz_swin cx dn_XL_law_39 c12 (by decide) (by decide) (off := 763) (tgt := 802) (by decide) (by decide) ?_
      obtain ⟨n, k9, G1, mr, hm, hr, hc⟩ := r12 (xs (nI (5 * j) + 1).toNatClampNeg) (xs (nI (5 * j) + 2).toNatClampNeg)
      rcases hc with ⟨hc, ht⟩ | ⟨q, hq, hc, ht⟩
      · exact zl_folded_r E am o b L xs X cx sx hx9 _ _ hf0 f G Gm _ _ i1 rfl _ i2 rfl _ G1 hc mr hm (congrArg some ht) rfl (tail _ _ _ _ _ hr (by omega) (by omega))
      · simp only [List.mem_cons, List.not_mem_nil, or_false] at hq
        rcases hq with rfl | rfl
        · exact zl_folded_t1 E am o b L xs X cx sx hx9 _ _ hf0 f G Gm _ _ i1 rfl _ i2 rfl hf1 hl G1 hc mr hm (congrArg some ht) (tail _ _ _ _ _ hr (by omega) (by omega))
        · exact zl_folded_t2 E am o b L xs X cx sx hx9 _ _ hf0 f G Gm _ _ i1 rfl _ i2 rfl hf1 hl G1 hc mr hm (congrArg some ht) (tail _ _ _ _ _ hr (by omega) (by omega))
    by_cases c13 : (xs (nI (5 * j)).toNatClampNeg &&& 15) = 13
    · refine zz_swin cx dn_XL_law_39 c13 (by decide) (by decide) (off := 831) (tgt := 870) (by decide) (by decide) ?_
      obtain ⟨n, k9, G1, mr, hm, hr, hc⟩ := r13 (xs (nI (5 * j) + 1).toNatClampNeg)
      rcases hc with ⟨hc, ht⟩ | ⟨q, hq, hc, ht⟩
      · exact zl_told_r E am o b L xs X cx sx hx9 _ _ hf0 f G Gm _ _ i1 rfl k9 _ G1 hc mr hm (congrArg some ht) rfl (tail _ _ _ _ _ hr (by omega) (by omega))
      · simp only [List.mem_cons, List.not_mem_nil, or_false] at hq
        subst hq
        exact zl_told_t2 E am o b L xs X cx sx hx9 _ _ hf0 f G Gm _ _ i1 rfl k9 hf1 hl G1 hc mr hm (congrArg some ht) (tail _ _ _ _ _ hr (by omega) (by omega))
    refine zz_swout cx 13 (by decide) dn_XL_law_39 (fun j9 hj9 => match j9, hj9 with | 0, _ => c0 | 1, _ => c1 | 2, _ => c2 | 3, _ => c3 | 4, _ => c4 | 5, _ => c5 | 6, _ => c6 | 7, _ => c7 | 8, _ => c8 | 9, _ => c9 | 10, _ => c10 | 11, _ => c11 | 12, _ => c12 | 13, _ => c13 | j9 + 14, hj9 => absurd hj9 (by omega)) (tgt := 926) (by decide) ?_
    exact tail _ _ _ _ _ hrel (by omega) (by omega)
