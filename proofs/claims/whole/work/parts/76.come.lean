/-! ===== own: unfold: a bar is come to ===== -/
theorem uc_cnt {a a' : Nat → Int32} (x : Int32) : ∀ n : Nat, (∀ i, i < n → a' i = a i) → rp_cnt a' x n = rp_cnt a x n
  | 0, _ => rfl
  | n + 1, h => by
    show rp_cnt a' x n + (if a' n = x then 1 else 0) = rp_cnt a x n + (if a n = x then 1 else 0)
    rw [uc_cnt x n (fun i hi => h i (by omega)), h n (by omega)]
/-- what is noted of a bar that is played -/
def uc_G (G : gs_T) (C b : Nat) (vi vo : Int32) : gs_T := gs_sa (gs_sv (gs_sa (gs_sa (gs_sa (gs_sa G 15 (nI C) (nI b)) 16 (nI C) (G.1 1)) 17 (nI C) vi) 18 (nI C) vo) 0 (nI (C + 1))) 19 (nI b) (G.2 19 b + 1)
def uc_M (M : gs_T) (C b : Nat) (vi vo : Int32) : gs_T := gs_sv (gs_sa (gs_sa (gs_sa (gs_sa M 13 (nI C) (nI b)) 14 (nI C) (M.1 6)) 15 (nI C) vi) 16 (nI C) vo) 5 (nI (C + 1))
theorem uc_playC {G : gs_T} {R b d C : Nat} (hR : R ≤ 20) (hb : b < 60) (hd : d ≤ 3) (hdep : G.2 13 b = nI d) (d4 : ∀ lv, lv < d → rc_ch (G.2 12) b lv < R ∧ G.2 12 (3 * b + lv) = nI (rc_ch (G.2 12) b lv)) (hC : C < 1000) (h0 : G.1 0 = nI C) :
    cW_play G (nI b) = some (uc_G G C b (if d = 0 then 0 else G.2 21 (rc_ch (G.2 12) b (d - 1))) (if d = 0 then 0 else G.2 21 (rc_ch (G.2 12) b 0))) := by
  have hb31 : b < 2 ^ 31 := by omega
  by_cases hd0 : d = 0
  · subst hd0
    simp only [cW_play, cW_play_j65, cW_play_j96, ck_nI _ hb (show 60 < 2 ^ 31 by decide), ga_nI _ _ hb31, h0, ck_nI _ hC (show 1000 < 2 ^ 31 by decide), hdep, ← li_n0, reduceIte, sa_1, sa_2, sv_1, sv_2, Nat.reduceEqDiff, ← nI_succ]
    rfl
  · obtain ⟨d', rfl⟩ : ∃ q, d = q + 1 := ⟨d - 1, by omega⟩
    have hne : ¬ nI (d' + 1) = 0 := nI_ne0 (by omega) (by omega)
    have h1 := d4 d' (by omega)
    have h2 := d4 0 (by omega)
    have ra : ∀ G2 : gs_T, G2.2 12 = G.2 12 → cS_repeatAround G2 (nI b) (nI d') = some (nI (rc_ch (G.2 12) b d')) := fun G2 e => by
      have := uo_around (G := G2) hb (show d' < 3 by omega) (by rw [e]; exact h1.2)
      rw [e] at this
      exact this
    have rb : ∀ G2 : gs_T, G2.2 12 = G.2 12 → cS_repeatAround G2 (nI b) 0 = some (nI (rc_ch (G.2 12) b 0)) := fun G2 e => by
      have := uo_around (G := G2) hb (show 0 < 3 by omega) (by rw [e]; exact h2.2)
      rw [e] at this
      exact this
    rw [if_neg hd0, if_neg hd0]
    simp only [cW_play, ck_nI _ hb (show 60 < 2 ^ 31 by decide), ga_nI _ _ hb31, h0, ck_nI _ hC (show 1000 < 2 ^ 31 by decide), hdep, if_neg hne, nI_pred]
    rw [ra (gs_sa (gs_sa G 15 (nI C) (nI b)) 16 (nI C) (G.1 1)) rfl]
    simp only [Option.bind_some, ck_nI _ (show rc_ch (G.2 12) b d' < 20 by omega) (show 20 < 2 ^ 31 by decide), cW_play_j65, ck_nI _ hC (show 1000 < 2 ^ 31 by decide), if_neg hne]
    rw [rb (gs_sa (gs_sa (gs_sa G 15 (nI C) (nI b)) 16 (nI C) (G.1 1)) 17 (nI C) (gs_a G 21 (nI (rc_ch (G.2 12) b d')))) rfl]
    simp only [Option.bind_some, ck_nI _ (show rc_ch (G.2 12) b 0 < 20 by omega) (show 20 < 2 ^ 31 by decide), cW_play_j96, ck_nI _ hC (show 1000 < 2 ^ 31 by decide), ck_nI _ hb (show 60 < 2 ^ 31 by decide), ga_nI _ _ hb31, ga_nI _ _ (show rc_ch (G.2 12) b d' < 2 ^ 31 by omega), ga_nI _ _ (show rc_ch (G.2 12) b 0 < 2 ^ 31 by omega), sa_1, sa_2, sv_1, sv_2, reduceIte, Nat.reduceEqDiff, h0, ← nI_succ, Nat.add_sub_cancel]
    rfl
theorem uc_it (n : Nat) (hn : 61 < n) {G M : gs_T} {B R E b : Nat} (hs : uf_st G M B R E) (hb : b < 60) (x : Int32) (hx : x = 0 ∨ x = 1) :
    mM_aroundIt n M (nI b) x = some (if uk_dp (G.2 13) b = 0 then -1 else nI (rc_ch (G.2 12) b (if x = 1 then uk_dp (G.2 13) b - 1 else 0))) := by
  obtain ⟨⟨⟨s1, s2, s3, s4, s5, s6⟩, t1, t2, t3, t4, t5, t6, t7, t8⟩, hJ, hD, hF⟩ := id hs
  obtain ⟨D1, D2, D3, D4, D5, D6, D7, D8, D9, D10, D11, D12, D13, D14⟩ := hD
  obtain ⟨z1, z2, z3, z4, z5⟩ := uk_ch (t6 b hb)
  obtain ⟨y, h1, h2⟩ := up_it n (M := M) (R := R) (b := b) s4 (D2.symm.trans s3) hb (fun r hr => by rw [← D5, ← D6]; have := t1 r hr; omega) x hx n 0 (-1) (by omega) (by omega) (Or.inl ⟨rfl, fun r hr => by omega⟩)
  rw [← li_n0] at h1
  rw [← D5, ← D6] at h2
  unfold mM_aroundIt
  rw [h1]
  congr 1
  rcases h2 with ⟨h3, h4⟩ | ⟨r0, h3, h4, h5, h6⟩
  · have : uk_dp (G.2 13) b = 0 := by
      by_cases h7 : uk_dp (G.2 13) b = 0
      · exact h7
      · have h8 := z3 0 (by omega)
        exact absurd ⟨h8.2.2.1, h8.2.2.2⟩ (h4 _ h8.1)
    rw [if_pos this, h3]
  · obtain ⟨lv, hlv, e⟩ := z5 r0 h3 h5.1 h5.2
    rw [if_neg (by omega), h4, ← e]
    congr 1
    rcases hx with rfl | rfl
    · rw [if_neg (by decide)]
      by_cases h7 : lv = 0
      · rw [h7]
      · have h8 := z4 0 lv (by omega) hlv
        have h9 := z3 0 (by omega)
        have h10 := (h6 _ h9.1 ⟨h9.2.2.1, h9.2.2.2⟩).2 rfl
        rw [← e] at h10
        exact absurd ⟨by omega, by omega⟩ h8.2.2
    · rw [if_pos rfl]
      by_cases h7 : lv = uk_dp (G.2 13) b - 1
      · rw [h7]
      · have h8 := z4 lv (uk_dp (G.2 13) b - 1) (by omega) (by omega)
        have h9 := z3 (uk_dp (G.2 13) b - 1) (by omega)
        have h10 := (h6 _ h9.1 ⟨h9.2.2.1, h9.2.2.2⟩).1 rfl
        rw [← e] at h10
        exact absurd ⟨by omega, by omega⟩ h8.2.2
theorem uc_play (n : Nat) (hn : 61 < n) {G M : gs_T} {B R E b C T : Nat} (hs : uf_st G M B R E) (hdy : uf_dy G M B) (hrun : uf_run G M) (hb : b < B) (hop : uf_op G R b) (hC : C < 1000) (h0 : G.1 0 = nI C)
    (hT : uf_ep G * 7501 + uk_rest (G.2 1) (G.2 12) (G.2 13) (uk_key (G.2 1) (G.2 12) (G.2 13) (G.2 21) b) ≤ T) :
    ∃ (G' M' : gs_T) (nb : Int32), (cW_play G (nI b)).bind (fun q1 => cW_behind n q1 (nI b)) = some (nb, G') ∧ mM_play n M (nI b) = some M' ∧ uf_nx G' M' B R E nb T := by
  obtain ⟨⟨⟨s1, s2, s3, s4, s5, s6⟩, t1, t2, t3, t4, t5, t6, t7, t8⟩, hJ, hD, hF⟩ := id hs
  obtain ⟨D1, D2, D3, D4, D5, D6, D7, D8, D9, D10, D11, D12, D13, D14⟩ := hD
  obtain ⟨y1, y2, y3, y4, y5, y6, y7, y8, y9, y10, y11, y12, C', yC, y13, y14, y15⟩ := id hdy
  have hCC : C' = C := (nI_eq (by omega) (by omega)).mp (y13.symm.trans h0)
  subst hCC
  have hb60 : b < 60 := by omega
  have hb31 : b < 2 ^ 31 := by omega
  have hC31 : C' < 2 ^ 31 := by omega
  have hclC : (nI C').toNatClampNeg = C' := nI_clamp hC31
  have hclb : (nI b).toNatClampNeg = b := nI_clamp hb31
  have eb := nI_toInt hb31
  obtain ⟨z1, z2, z3, z4, z5⟩ := uk_ch (t6 b hb60)
  obtain ⟨vi, hvi⟩ : ∃ v : Int32, v = if uk_dp (G.2 13) b = 0 then 0 else G.2 21 (rc_ch (G.2 12) b (uk_dp (G.2 13) b - 1)) := ⟨_, rfl⟩
  obtain ⟨vo, hvo⟩ : ∃ v : Int32, v = if uk_dp (G.2 13) b = 0 then 0 else G.2 21 (rc_ch (G.2 12) b 0) := ⟨_, rfl⟩
  have eC := uc_playC (G := G) (R := R) (b := b) (d := uk_dp (G.2 13) b) (C := C') s4 hb60 z1 z2 (fun lv hl => ⟨(z3 lv hl).1, (z3 lv hl).2.1⟩) hC h0
  rw [← hvi, ← hvo] at eC
  -- the state behind
  have hs1 : uf_st (uc_G G C' b vi vo) (uc_M M C' b vi vo) B R E := by
    refine uf_st_congr hs (fun k hk => ?_) (fun k hk => ?_) (fun k hk => ?_) (fun k hk => ?_)
    · simp only [uc_G, sv_1, sa_1, if_neg (show k ≠ 0 by omega)]
    · simp only [uc_G, sv_2, sa_2, if_neg (show k ≠ 19 by omega), if_neg (show k ≠ 18 by omega), if_neg (show k ≠ 17 by omega), if_neg (show k ≠ 16 by omega), if_neg (show k ≠ 15 by omega)]
    · simp only [uc_M, sv_1, sa_1, if_neg (show k ≠ 5 by omega)]
    · simp only [uc_M, sv_2, sa_2, if_neg (show k ≠ 16 by omega), if_neg (show k ≠ 15 by omega), if_neg (show k ≠ 14 by omega), if_neg (show k ≠ 13 by omega)]
  have hdy1 : uf_dy (uc_G G C' b vi vo) (uc_M M C' b vi vo) B := by
    unfold uf_dy uc_G uc_M
    simp only [sv_1, sv_2, sa_1, sa_2, reduceIte, Nat.reduceEqDiff, hclC, hclb]
    refine ⟨trivial, y2, y3, y4, y5, by rw [y6], by rw [y7, y2], by rw [y8], by rw [y9], y10, y11, y12, C' + 1, by omega, rfl, fun i hi => ?_, fun c hc => ?_⟩
    · rw [ud_e]
      split
      · rw [eb]; omega
      · exact y14 i (by omega)
    · have e1 : rp_cnt (upd (G.2 15) C' (nI b)) (nI c) (C' + 1) = rp_cnt (G.2 15) (nI c) C' + (if nI b = nI c then 1 else 0) := by
        show rp_cnt (upd (G.2 15) C' (nI b)) (nI c) C' + (if upd (G.2 15) C' (nI b) C' = nI c then 1 else 0) = _
        rw [ud_s, uc_cnt (nI c) C' (fun i hi => ud_n (G.2 15) (nI b) (show i ≠ C' by omega))]
      rw [e1, ud_e]
      by_cases hcb : c = b
      · subst hcb
        rw [if_pos rfl, if_pos rfl, y15 c hb60, ← nI_succ]
      · have hne : ¬ nI b = nI c := fun h => hcb ((nI_eq hb31 (by omega)).mp h).symm
        rw [if_neg hcb, if_neg hne, y15 c hc, Nat.add_zero]
  have hrun1 : uf_run (uc_G G C' b vi vo) (uc_M M C' b vi vo) := by
    unfold uf_run uc_G uc_M at *
    simp only [sv_1, sa_1, reduceIte, Nat.reduceEqDiff]
    exact hrun
  have hop1 : uf_op (uc_G G C' b vi vo) R b := by
    unfold uf_op uc_G at *
    simp only [sv_2, sa_2, reduceIte, Nat.reduceEqDiff]
    exact hop
  have hT1 : uf_ep (uc_G G C' b vi vo) * 7501 + uk_rest ((uc_G G C' b vi vo).2 1) ((uc_G G C' b vi vo).2 12) ((uc_G G C' b vi vo).2 13) (uk_key ((uc_G G C' b vi vo).2 1) ((uc_G G C' b vi vo).2 12) ((uc_G G C' b vi vo).2 13) ((uc_G G C' b vi vo).2 21) b) ≤ T := hT
  have htl : uz_tl (uc_G G C' b vi vo) = uz_tl G := rfl
  -- the model
  have i1 := uc_it n hn hs hb60 1 (Or.inr rfl)
  have i0 := uc_it n hn hs hb60 0 (Or.inl rfl)
  simp only [reduceIte] at i1
  simp only [if_neg (show ¬ (0 : Int32) = 1 by decide)] at i0
  have h5 : M.1 5 = nI C' := y1.symm.trans h0
  have h7ck : ∀ (t : Option gs_T), (M.1 7 = -1 → False) → gs_ck (M.1 7) 60 t = t := fun t hne => by
    rw [← y3] at hne ⊢
    rcases y12 with h | ⟨j, hj, h⟩
    · exact absurd h hne
    · rw [h]; exact ck_nI t hj (by decide)
  have eM : mM_play n M (nI b) = mM_play_101 n (uc_M M C' b vi vo) (nI b) (fun y => mM_play_j176 n (uc_M M C' b vi vo) (nI b) y (uz_tl G)) n 1 0 := by
    have hk : ∀ M1 : gs_T, M1.1 7 = M.1 7 → M1.2 11 = M.2 11 → M1.1 5 = nI C' → mM_play_j84 n M1 (nI b) (nI C') vo = mM_play_101 n (gs_sv (gs_sa M1 16 (nI C') vo) 5 (nI (C' + 1))) (nI b) (fun y => mM_play_j176 n (gs_sv (gs_sa M1 16 (nI C') vo) 5 (nI (C' + 1))) (nI b) y (uz_tl G)) n 1 0 := by
      intro M1 e1 e2 e3
      unfold mM_play_j84
      rw [ck_nI _ hC (by decide), e3, e1, ← nI_succ]
      congr 1
      funext y
      unfold uz_tl
      rw [y3]
      by_cases hm : M.1 7 = -1
      · rw [if_pos hm, if_pos hm]
      · rw [if_neg hm, if_neg hm, h7ck _ (fun h => hm h)]
        unfold gs_a
        rw [e2, D13]
    unfold mM_play
    rw [i1, i0]
    simp only [Option.bind_some, h5, ck_nI _ hC (show 1000 < 2 ^ 31 by decide)]
    by_cases hd0 : uk_dp (G.2 13) b = 0
    · rw [if_pos hd0] at hvi hvo
      subst hvi; subst hvo
      rw [if_pos hd0, if_pos hd0, if_pos rfl]
      unfold mM_play_j60
      rw [ck_nI _ hC (by decide), if_pos rfl]
      exact (by rw [show (gs_sa (gs_sa M 13 (nI C') (nI b)) 14 (nI C') (M.1 6)).1 5 = nI C' from h5]; exact hk _ rfl rfl h5)
    · have hneg : ∀ r : Nat, r < 20 → ¬ nI r = -1 := fun r hr => by rw [li_eq, li_m1, nI_toInt (by omega)]; omega
      have g1 := z3 (uk_dp (G.2 13) b - 1) (by omega)
      have g0 := z3 0 (by omega)
      rw [if_neg hd0] at hvi hvo
      rw [if_neg hd0, if_neg hd0, if_neg (hneg _ (by omega)), ck_nI _ (show rc_ch (G.2 12) b (uk_dp (G.2 13) b - 1) < 20 by omega) (by decide), ga_nI _ _ (by omega), ← y10 _ (by omega), ← hvi]
      unfold mM_play_j60
      rw [ck_nI _ hC (by decide), if_neg (hneg _ (by omega)), ck_nI _ (show rc_ch (G.2 12) b 0 < 20 by omega) (by decide), ga_nI _ _ (by omega)]
      have e18 : (gs_sa (gs_sa M 13 (nI C') (nI b)) 14 (nI C') (M.1 6)).2 18 (rc_ch (G.2 12) b 0) = vo := by
        rw [hvo, y10 _ (by omega)]
        rfl
      rw [e18]
      exact (by rw [show (gs_sa (gs_sa M 13 (nI C') (nI b)) 14 (nI C') (M.1 6)).1 5 = nI C' from h5]; exact hk _ rfl rfl h5)
  have hal := up_areLast n (M := uc_M M C' b vi vo) (R := R) (b := b) s4 (by show M.1 2 = nI R; exact D2.symm.trans s3) hb60 (fun y => mM_play_j176 n (uc_M M C' b vi vo) (nI b) y (uz_tl G)) n 0 1 (by omega) (by omega) (Or.inl ⟨rfl, fun r hr => by omega⟩)
  rw [← li_n0] at hal
  rw [eC, Option.bind_some, eM]
  by_cases hall : ∀ r, r < R → ((uc_M M C' b vi vo).2 1 r).toInt ≤ b → (b : Int) ≤ ((uc_M M C' b vi vo).2 2 r).toInt → (uc_M M C' b vi vo).2 18 r = (uc_M M C' b vi vo).2 3 r
  · rw [hal.1 hall, ← htl]
    exact uz_behind n hn hs1 hdy1 hrun1 hb hop1 hT1 1 (Or.inl ⟨rfl, hall⟩)
  · rw [hal.2 hall, ← htl]
    exact uz_behind n hn hs1 hdy1 hrun1 hb hop1 hT1 0 (Or.inr ⟨rfl, hall⟩)
theorem uc_57 (n : Nat) (hn : 61 < n) {G M : gs_T} {B R E b T : Nat} (hs : uf_st G M B R E) (hdy : uf_dy G M B) (hrun : uf_run G M) (hb : b < B) (hop : uf_op G R b)
    (hT : uf_ep G * 7501 + uk_rest (G.2 1) (G.2 12) (G.2 13) (uk_key (G.2 1) (G.2 12) (G.2 13) (G.2 21) b) ≤ T) :
    ∃ (G' M' : gs_T) (nb : Int32), cW_comeTo_j57 n G (nI b) = some (nb, G') ∧ mM_comeTo_j184 n M (nI b) = some M' ∧ uf_nx G' M' B R E nb T := by
  obtain ⟨y1, y2, y3, y4, y5, y6, y7, y8, y9, y10, y11, y12, C, yC, y13, y14, y15⟩ := id hdy
  have h5 : M.1 5 = nI C := y1.symm.trans y13
  by_cases hC : C < 1000
  · obtain ⟨G', M', nb, q1, q2, q3⟩ := uc_play n hn hs hdy hrun hb hop hC y13 hT
    refine ⟨G', M', nb, ?_, ?_, q3⟩
    · unfold cW_comeTo_j57
      rw [y13, if_pos (show nI C < 1000 from nI_lt (b := 1000) hC (by omega))]
      cases hp : cW_play G (nI b) with
      | none => rw [hp] at q1; cases q1
      | some g =>
        rw [hp] at q1
        have q1' : cW_behind n g (nI b) = some (nb, G') := q1
        simp only [Option.bind_some, q1']
    · unfold mM_comeTo_j184
      have hne : ¬ nI C = 1000 := fun h => by
        have := (nI_eq (a := C) (b := 1000) (by omega) (by omega)).mp h
        omega
      rw [h5, if_neg hne, q2]
      rfl
  · have hC2 : C = 1000 := by omega
    subst hC2
    refine ⟨gs_sv (gs_sv G 4 4) 5 (nI b), gs_sv (gs_sv (gs_sv M 10 1) 4 (nI b)) 9 (-1), -1, ?_, ?_, uf_st_congr hs (fun k hk => ?_) (fun _ _ => rfl) (fun k hk => ?_) (fun _ _ => rfl), ?_, rfl, Or.inl ⟨rfl, Or.inr ⟨rfl, rfl, rfl⟩⟩⟩
    · unfold cW_comeTo_j57
      rw [y13, if_neg (show ¬ nI 1000 < 1000 by decide)]
      rfl
    · unfold mM_comeTo_j184
      rw [h5, if_pos (show nI 1000 = 1000 by decide)]
    · simp only [sv_1, if_neg (show k ≠ 4 by omega), if_neg (show k ≠ 5 by omega)]
    · simp only [sv_1, if_neg (show k ≠ 4 by omega), if_neg (show k ≠ 9 by omega), if_neg (show k ≠ 10 by omega)]
    · unfold uf_dy
      simp only [sv_1, sv_2, reduceIte, Nat.reduceEqDiff]
      exact ⟨y1, y2, y3, y4, y5, y6, y7, y8, y9, y10, y11, y12, 1000, by omega, y13, y14, y15⟩
theorem uc_bit : ∀ e : Nat, e < 16 → ∀ q : Nat, q < 4 → ((nI e &&& ((1 : Int32) <<< ((nI (q + 1) - 1) &&& 31))) = 0 ↔ ((nI e >>> ((nI (q + 1) - 1) &&& 31)) &&& 1) = 0) := by decide +kernel
theorem uc_come (n : Nat) (hn : 61 < n) {G M : gs_T} {B R E b : Nat} (hs : uf_st G M B R E) (hdy : uf_dy G M B) (hrun : uf_run G M) (hb : b < B) (hps : uf_ps G R b) :
    ∃ (G' M' : gs_T) (nb : Int32), cW_comeTo n G (nI b) = some (nb, G') ∧ mM_comeTo n M (nI b) = some M' ∧ uf_nx G' M' B R E nb (uf_T G R b) := by
  obtain ⟨⟨⟨s1, s2, s3, s4, s5, s6⟩, t1, t2, t3, t4, t5, t6, t7, t8⟩, hJ, hD, hF⟩ := id hs
  obtain ⟨D1, D2, D3, D4, D5, D6, D7, D8, D9, D10, D11, D12, D13, D14⟩ := hD
  obtain ⟨y1, y2, y3, y4, y5, y6, y7, y8, y9, y10, y11, y12, y13⟩ := id hdy
  have hb60 : b < 60 := by omega
  have hb31 : b < 2 ^ 31 := by omega
  have hclb : (nI b).toNatClampNeg = b := nI_clamp hb31
  have eb := nI_toInt hb31
  have hm : ∀ r, r < R → 2 ≤ (G.2 3 r).toInt ∧ (G.2 3 r).toInt ≤ 4 := fun r hr => by have := t1 r hr; omega
  -- opening
  obtain ⟨G1, g1, g2, g3, g4⟩ := uo_class n hn (G := gs_sa G 20 (nI b) (G.2 20 b + 1)) (R := R) (b := b) s4 hb60 (t6 b hb60) (uf_x G)
  obtain ⟨M1, m1, m2, m3, m4⟩ := uo_model n hn (M := gs_sa M 17 (nI b) (M.2 17 b + 1)) (R := R) (b := b) s4 (D2.symm.trans s3) hb60 (uf_x G) (fun G0 => mM_comeTo_92 n G0 (nI b) (fun y3_1 => mM_comeTo_j116 n G0 (nI b) y3_1) n 0)
  simp only [sa_1, sa_2, reduceIte, Nat.reduceEqDiff, hclb] at g2 g3 g4 m2 m3 m4
  have hcC : cW_openAround n (gs_sa G 20 (nI b) (G.2 20 b + 1)) (nI b) = some G1 := by
    unfold cW_openAround cW_openAround_j27 cW_openAround_j28
    have hx : uf_x G = if G.1 2 = -1 then 0 else if G.2 11 (G.1 2).toNatClampNeg = 0 then 1 else 0 := rfl
    rw [hx] at g1
    show (if G.1 2 = -1 then _ else gs_ck (G.1 2) 60 (if G.2 11 (G.1 2).toNatClampNeg = 0 then _ else _)) = _
    by_cases h : G.1 2 = -1
    · rw [if_pos h] at g1 ⊢
      exact g1
    · rw [if_neg h] at g1 ⊢
      obtain ⟨j, hj, e⟩ := y12.resolve_left h
      rw [e, ck_nI _ hj (by decide), ← e]
      by_cases h2 : G.2 11 (G.1 2).toNatClampNeg = 0
      · rw [if_pos h2] at g1 ⊢
        exact g1
      · rw [if_neg h2] at g1 ⊢
        exact g1
  have hcM : mM_comeTo n M (nI b) = mM_comeTo_92 n M1 (nI b) (fun y3_1 => mM_comeTo_j116 n M1 (nI b) y3_1) n 0 := by
    rw [← m1]
    unfold mM_comeTo mM_comeTo_j34 mM_comeTo_j35
    rw [ck_nI _ hb60 (by decide), ck_nI _ hb60 (by decide), ga_nI _ _ hb31]
    have hx : uf_x G = if M.1 7 = -1 then 0 else if M.2 12 (M.1 7).toNatClampNeg = 0 then 1 else 0 := by
      unfold uf_x
      rw [y3, D14]
    rw [hx]
    by_cases h : M.1 7 = -1
    · rw [if_pos h, if_pos h]
    · rw [if_neg h, if_neg h]
      have h' : ¬ G.1 2 = -1 := by rw [y3]; exact h
      obtain ⟨j, hj, e⟩ := y12.resolve_left h'
      have hck : ∀ t : Option gs_T, gs_ck (M.1 7) 60 t = t := fun t => by rw [← y3, e]; exact ck_nI t hj (by decide)
      rw [hck]
      unfold gs_a
      by_cases h2 : M.2 12 (M.1 7).toNatClampNeg = 0
      · rw [if_pos h2, if_pos h2]
      · rw [if_neg h2, if_neg h2]
  -- the state behind the opening
  have e21 : ∀ r, r < 20 → G1.2 21 r = uo_op (G.2 1) (G.2 2) (G.2 3) (G.2 21) R b (uf_x G) r := g4
  have q3 : ∀ q, q ≠ 20 → q ≠ 21 → G1.2 q = G.2 q := fun q h1 h2 => by rw [g3 q h2, if_neg h1]
  have n3 : ∀ q, q ≠ 17 → q ≠ 18 → M1.2 q = M.2 q := fun q h1 h2 => by rw [m3 q h2, if_neg h1]
  have hs1 : uf_st G1 M1 B R E := uf_st_congr hs (fun k hk => by rw [g2]) (fun k hk => q3 k (by omega) (by omega)) (fun k hk => by rw [m2]) (fun k hk => n3 k (by omega) (by omega))
  have hdy1 : uf_dy G1 M1 B := by
    unfold uf_dy
    rw [g2, m2, q3 15 (by decide) (by decide), q3 16 (by decide) (by decide), q3 17 (by decide) (by decide), q3 18 (by decide) (by decide), q3 19 (by decide) (by decide), q3 22 (by decide) (by decide), n3 13 (by decide) (by decide), n3 14 (by decide) (by decide), n3 15 (by decide) (by decide), n3 16 (by decide) (by decide), n3 19 (by decide) (by decide)]
    refine ⟨y1, y2, y3, y4, fun i hi => ?_, y6, y7, y8, y9, fun r hr => ?_, y11, y12, y13⟩
    · rw [g3 20 (by decide), m3 17 (by decide), if_pos rfl, if_pos rfl, ud_e, ud_e, y5 b hb60]
      split
      · rfl
      · exact y5 i hi
    · rw [g4 r hr, m4 r hr, ← D5, ← D6, ← D7]
      unfold uo_op
      rw [y10 r hr]
  have hrun1 : uf_run G1 M1 := by
    unfold uf_run
    rw [g2, m2]
    exact hrun
  have e1 := q3 1 (by decide) (by decide)
  have e2 := q3 2 (by decide) (by decide)
  have e3 := q3 3 (by decide) (by decide)
  have e12 := q3 12 (by decide) (by decide)
  have e13 := q3 13 (by decide) (by decide)
  have hop1 : uf_op G1 R b := by
    intro r hr
    rw [e1, e2, e3, e21 r (by omega)]
    have h1 := hps r hr
    have h2 := hm r hr
    unfold uo_op
    constructor
    · intro ha
      by_cases hp : G.2 21 r = 0
      · have hc : r < R ∧ (G.2 1 r).toInt ≤ b ∧ (b : Int) ≤ (G.2 2 r).toInt ∧ G.2 21 r = 0 := ⟨hr, ha.1, ha.2, hp⟩
        rw [if_pos hc]
        split
        · rw [li_1]; omega
        · omega
      · rw [if_neg (fun h => hp h.2.2.2)]
        have : (G.2 21 r).toInt ≠ 0 := fun h => hp (by rw [li_eq, li_0]; exact h)
        omega
    · intro ha
      rw [if_neg (fun h => ha ⟨h.2.1, h.2.2.1⟩)]
      by_cases hp : G.2 21 r = 0
      · exact hp
      · exact absurd (h1.2.2 hp) ha
  have hkey : uk_key (G.2 1) (G.2 12) (G.2 13) (G1.2 21) b = uf_key G R b := by
    obtain ⟨z1, z2, z3, z4, z5⟩ := uk_ch (t6 b hb60)
    have hpd : ∀ lv, uk_pd (G.2 12) (G.2 13) (G1.2 21) b lv = uk_pd (G.2 12) (G.2 13) (uo_op (G.2 1) (G.2 2) (G.2 3) (G.2 21) R b (uf_x G)) b lv := by
      intro lv
      unfold uk_pd
      split
      · rename_i hl
        rw [e21 _ (by have := (z3 lv hl).1; omega)]
      · rfl
    unfold uf_key uk_key
    rw [hpd, hpd, hpd]
  have hT1 : uf_ep G1 * 7501 + uk_rest (G1.2 1) (G1.2 12) (G1.2 13) (uk_key (G1.2 1) (G1.2 12) (G1.2 13) (G1.2 21) b) ≤ uf_T G R b := by
    have hep : uf_ep G1 = uf_ep G := by unfold uf_ep; rw [g2, q3 22 (by decide) (by decide)]
    rw [e1, e12, e13, hep, hkey]
    exact Nat.le_refl _
  obtain ⟨Gp, Mp, nbp, gp, mp, hnp⟩ := uc_57 n hn hs1 hdy1 hrun1 hb hop1 hT1
  have e14 := q3 14 (by decide) (by decide)
  have ecome : cW_comeTo n G (nI b) = if G.2 14 b = -1 then some (nbp, Gp) else (cW_isLeftOut G1 (G.2 14 b)).bind fun q2 => if q2 = 0 then some (nbp, Gp) else (cW_leaveWithin n G1 (G.2 14 b)).bind fun q3 => gs_ck (G.2 14 b) 20 ((cW_endOf n q3 (gs_a q3 6 (G.2 14 b))).bind fun q4 => some (q4.1, q4.2)) := by
    unfold cW_comeTo
    rw [ck_nI _ hb60 (by decide), ck_nI _ hb60 (by decide), ga_nI _ _ hb31, hcC, Option.bind_some, ck_nI _ hb60 (by decide), ga_nI _ _ hb31, e14, gp]
  have h13 : M1.1 3 = nI E := by rw [m2]; exact D3.symm.trans s5
  have h15 : M1.2 5 = G.2 5 := (n3 5 (by decide) (by decide)).trans D9.symm
  have hfind := lp_find (fun k i => mM_comeTo_92 n M1 (nI b) (fun y3_1 => mM_comeTo_j116 n M1 (nI b) y3_1) k i) E (fun e => (G.2 5 e).toInt ≠ (b : Int)) (fun e => mM_comeTo_j116 n M1 (nI b) (nI e))
    (fun k => by simp only [mM_comeTo_92, h13, if_pos (Int32.le_refl _)])
    (fun k i hi hp => by
      have hne : ¬ G.2 5 i = nI b := fun h => hp (by rw [h, eb])
      simp only [mM_comeTo_92, h13, if_neg (nI_ge hi (by omega)), ck_nI _ (show i < 20 by omega) (show 20 < 2 ^ 31 by decide), ga_nI _ _ (show i < 2 ^ 31 by omega), h15, if_neg hne, ← nI_succ])
    (fun k i hi hp => by
      have he : G.2 5 i = nI b := by
        rw [li_eq, eb]
        by_cases h : (G.2 5 i).toInt = b
        · exact h
        · exact absurd h hp
      simp only [mM_comeTo_92, h13, if_neg (nI_ge hi (by omega)), ck_nI _ (show i < 20 by omega) (show 20 < 2 ^ 31 by decide), ga_nI _ _ (show i < 2 ^ 31 by omega), h15, if_pos he])
    n 0 (by omega) (by omega)
  obtain ⟨e, -, f2, f3, f4, f5⟩ := hfind
  rw [← li_n0] at f5
  have hmcome : mM_comeTo n M (nI b) = mM_comeTo_j116 n M1 (nI b) (nI e) := hcM.trans f5
  rcases t7 b hb60 with ⟨k1, k2⟩ | ⟨e', k1, k2, k3⟩
  · -- no ending begins here
    have heE : e = E := by
      by_cases h : e < E
      · have h2 := f4 h
        exact absurd (k2 e h) h2
      · omega
    refine ⟨Gp, Mp, nbp, by rw [ecome, if_pos k1], ?_, hnp⟩
    rw [hmcome, heE]
    unfold mM_comeTo_j116
    rw [h13, if_pos (Int32.le_refl _)]
    exact mp
  · have hee : e = e' := by
      have h1 : e ≤ e' := by
        by_cases h : e ≤ e'
        · exact h
        · exact absurd k3 (f3 e' (by omega) (by omega))
      by_cases h : e = e'
      · exact h
      · have h2 := f4 (by omega)
        have h3 : (G.2 5 e).toInt = b := by
          by_cases h4 : (G.2 5 e).toInt = b
          · exact h4
          · exact absurd h4 h2
        have h5 := t5 e e' (by omega) k1 h
        obtain ⟨r1, _, _, _, v1, _⟩ := t3 e (by omega)
        obtain ⟨r2, _, _, _, v2, _⟩ := t3 e' k1
        omega
    subst hee
    have he20 : e < 20 := by omega
    have he31 : e < 2 ^ 31 := by omega
    obtain ⟨o, o1, o2, o3, o4, o5, o6, o7⟩ := t3 e k1
    have ho20 : o < 20 := by omega
    have ho31 : o < 2 ^ 31 := by omega
    have e4 := q3 4 (by decide) (by decide)
    have e5 := q3 5 (by decide) (by decide)
    have e6 := q3 6 (by decide) (by decide)
    have e7 := q3 7 (by decide) (by decide)
    have hne : ¬ G.2 14 b = -1 := by rw [k2, li_eq, li_m1, nI_toInt he31]; omega
    have hpo := (hop1 o o1).1 (by rw [e1, e2]; omega)
    rw [e3] at hpo
    have hmo := hm o o1
    obtain ⟨ep, hep, hepe⟩ : ∃ q : Nat, q < 16 ∧ G.2 7 e = nI q := ⟨(G.2 7 e).toInt.toNat, by omega, li_nI (by omega) (by omega)⟩
    obtain ⟨po, hpo2, hpoe⟩ : ∃ q : Nat, q < 4 ∧ G1.2 21 o = nI (q + 1) := ⟨(G1.2 21 o).toInt.toNat - 1, by omega, li_nI (by omega) (by omega)⟩
    have hbit := uc_bit ep hep po hpo2
    have hleft : cW_isLeftOut G1 (nI e) = if (nI ep &&& ((1 : Int32) <<< ((nI (po + 1) - 1) &&& 31))) = 0 then some 1 else some 0 := by
      unfold cW_isLeftOut
      rw [ck_nI _ he20 (by decide), ga_nI _ _ he31, e4, o2, ck_nI _ ho20 (by decide), ck_nI _ he20 (by decide), ga_nI _ _ he31, e7, hepe, ga_nI _ _ ho31, hpoe]
    have h14 : M1.2 4 = G.2 4 := (n3 4 (by decide) (by decide)).trans D8.symm
    have h16 : M1.2 6 = G.2 6 := (n3 6 (by decide) (by decide)).trans D10.symm
    have h17 : M1.2 7 = G.2 7 := (n3 7 (by decide) (by decide)).trans D11.symm
    have h118 : M1.2 18 o = nI (po + 1) := by rw [← hdy1.2.2.2.2.2.2.2.2.2.1 o ho20]; exact hpoe
    have hmj : mM_comeTo_j116 n M1 (nI b) (nI e) = if ((nI ep >>> ((nI (po + 1) - 1) &&& 31)) &&& 1) = 0 then (mM_leaveWithin n M1 (G.2 5 e) (G.2 6 e) (nI o)).bind (fun q1 => (mM_theEnd n q1 (q1.2 6 e)).bind fun q2 => some q2) else mM_comeTo_j184 n M1 (nI b) := by
      unfold mM_comeTo_j116
      simp only [h13, if_neg (nI_ge k1 (show E < 2 ^ 31 by omega)), ck_nI _ he20 (show 20 < 2 ^ 31 by decide), ga_nI _ _ he31, h14, h15, h16, h17, o2, ck_nI _ ho20 (show 20 < 2 ^ 31 by decide), ga_nI _ _ ho31, hepe, h118]
    rw [ecome, if_neg hne, k2, hleft, hmcome, hmj]
    by_cases hz : (nI ep &&& ((1 : Int32) <<< ((nI (po + 1) - 1) &&& 31))) = 0
    · rw [if_pos hz, if_pos (hbit.mp hz), Option.bind_some, if_neg (by decide)]
      -- the ending is left out
      obtain ⟨G2, a1, a2, a3, a4⟩ := ul_class n hn (G := G1) (R := R) (E := E) (e := e) (o := o) s4 (by rw [g2]; exact s3) s6 k1 ho20 (by rw [e4]; exact o2)
      obtain ⟨M2, b1, b2, b3, b4⟩ := ul_model n hn (M := M1) (R := R) (o := o) s4 (by rw [m2]; exact D2.symm.trans s3) ho20 (G.2 5 e) (G.2 6 e)
      rw [e1, e2, e5, e6] at a4
      rw [n3 1 (by decide) (by decide), n3 2 (by decide) (by decide), ← D5, ← D6] at b4
      obtain ⟨z, hz1⟩ : ∃ z : Nat, (G.2 6 e).toInt = z := ⟨(G.2 6 e).toInt.toNat, by omega⟩
      have hzt := t1 o o1
      have hzB : z < B := by omega
      have hze : G.2 6 e = nI z := li_nI (by omega) hz1
      have hs2 : uf_st G2 M2 B R E := uf_st_congr hs1 (fun k hk => by rw [a2]) (fun k hk => a3 k (by omega)) (fun k hk => by rw [b2]) (fun k hk => b3 k (by omega))
      have hdy2 : uf_dy G2 M2 B := by
        obtain ⟨x1, x2, x3, x4, x5, x6, x7, x8, x9, x10, x11, x12, x13⟩ := hdy1
        unfold uf_dy
        rw [a2, b2, a3 15 (by decide), a3 16 (by decide), a3 17 (by decide), a3 18 (by decide), a3 19 (by decide), a3 20 (by decide), a3 22 (by decide), b3 13 (by decide), b3 14 (by decide), b3 15 (by decide), b3 16 (by decide), b3 17 (by decide), b3 19 (by decide)]
        refine ⟨x1, x2, x3, x4, x5, x6, x7, x8, x9, fun r hr => ?_, x11, x12, x13⟩
        rw [a4, b4]
        unfold ul_op
        rw [x10 r hr]
      have hrun2 : uf_run G2 M2 := by
        unfold uf_run
        rw [a2, b2]
        exact hrun1
      have E1 := (a3 1 (by decide)).trans e1
      have E2 := (a3 2 (by decide)).trans e2
      have E3 := (a3 3 (by decide)).trans e3
      have E12 := (a3 12 (by decide)).trans e12
      have E13 := (a3 13 (by decide)).trans e13
      -- what is still open lies around the whole ending
      have harnd : ∀ r, r < R → G2.2 21 r ≠ 0 → ((G.2 1 r).toInt ≤ b ∧ (b : Int) ≤ (G.2 2 r).toInt) ∧ (z : Int) ≤ (G.2 2 r).toInt ∧ G2.2 21 r = G1.2 21 r ∧ (r = o ∨ ¬ ((b : Int) ≤ (G.2 1 r).toInt ∧ (G.2 2 r).toInt ≤ z)) := by
        intro r hr h
        have h1 := a4 r
        unfold ul_op at h1
        by_cases hw : r < R ∧ r ≠ o ∧ (G.2 5 e).toInt ≤ (G.2 1 r).toInt ∧ (G.2 2 r).toInt ≤ (G.2 6 e).toInt
        · rw [if_pos hw] at h1
          exact absurd h1 h
        · rw [if_neg hw] at h1
          have h2 := (hop1 r hr).2
          rw [e1, e2] at h2
          have ha : (G.2 1 r).toInt ≤ b ∧ (b : Int) ≤ (G.2 2 r).toInt := by
            by_cases ha : (G.2 1 r).toInt ≤ b ∧ (b : Int) ≤ (G.2 2 r).toInt
            · exact ha
            · exact absurd (h1.trans (h2 ha)) h
          have h3 := t4 e r k1 hr
          unfold rc_lw at h3
          by_cases hro : r = o
          · subst hro
            exact ⟨ha, by omega, h1, Or.inl rfl⟩
          · have h4 : ¬ ((G.2 5 e).toInt ≤ (G.2 1 r).toInt ∧ (G.2 2 r).toInt ≤ (G.2 6 e).toInt) := fun h5 => hw ⟨hr, hro, h5.1, h5.2⟩
            exact ⟨ha, by omega, h1, Or.inr (by omega)⟩
      have hop2 := hop1
      unfold uf_op at hop2
      rw [e1, e2, e3] at hop2
      obtain ⟨Ge, Me, nbe, ge, me, hne2⟩ := uz_end n hn (G := G2) (M := M2) (B := B) (R := R) (E := E) (b := b) (z := z) (T := uf_T G R b) (G1.2 21) hs2 hdy2 hrun2 (by omega) hzB
        (fun r hr => by
          rw [E1, E2, E3]
          have h2 := hm r hr
          by_cases h : G2.2 21 r = 0
          · rw [h]
            exact ⟨by decide, by rw [li_0]; omega, fun h3 => absurd rfl h3⟩
          · have h3 := harnd r hr h
            have h4 := (hop2 r hr).1 h3.1
            rw [h3.2.2.1]
            exact ⟨by omega, h4.2, fun _ => by omega⟩)
        (by rw [E1, E2, E3]; exact hop2)
        (fun r hr => by
          by_cases h : G2.2 21 r = 0
          · exact Or.inl h
          · exact Or.inr (harnd r hr h).2.2.1)
        (fun r hr h1 h2 => by
          rw [E1] at h1
          rw [E2] at h2
          rw [a4]
          unfold ul_op
          rw [if_neg (fun h3 => by omega)])
        (fun r s hr hs9 h1 h2 h3 => by
          rw [E1] at h2
          rw [E2] at h3
          have h4 := harnd r hr h1
          rw [a4]
          unfold ul_op
          by_cases hw : s < R ∧ s ≠ o ∧ (G.2 5 e).toInt ≤ (G.2 1 s).toInt ∧ (G.2 2 s).toInt ≤ (G.2 6 e).toInt
          · exfalso
            rcases h4.2.2.2 with h5 | h5
            · subst h5
              have h6 := t2 s r hw.1 hr hw.2.1
              exact h6.2 ⟨by omega, by omega⟩
            · omega
          · rw [if_neg hw])
        (by
          have hep2 : uf_ep G2 = uf_ep G1 := by unfold uf_ep; rw [a2, a3 22 (by decide)]
          rw [a3 1 (by decide), a3 12 (by decide), a3 13 (by decide), hep2]
          exact hT1)
      refine ⟨Ge, Me, nbe, ?_, ?_, hne2⟩
      · rw [a1, Option.bind_some, ck_nI _ he20 (by decide), ga_nI _ _ he31, a3 6 (by decide), e6, hze, ge]
        rfl
      · rw [b1, Option.bind_some, b3 6 (by decide), h16, hze, me]
        rfl
    · rw [if_neg hz, if_neg (fun h => hz (hbit.mpr h)), Option.bind_some, if_pos rfl]
      exact ⟨Gp, Mp, nbp, rfl, mp, hnp⟩
