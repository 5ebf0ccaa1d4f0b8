/-! ===== own: fold related ===== -/
theorem fd_congr {G G' M M' : gs_T} {B R E : Nat} (h : rl_A G M B R E) (g1 : ∀ k, k < 10 → G'.1 k = G.1 k) (g2 : ∀ k, k < 23 → G'.2 k = G.2 k) (m1 : ∀ k, 1 ≤ k → k < 11 → M'.1 k = M.1 k) (m2 : ∀ k, k < 20 → M'.2 k = M.2 k) (hF : rl_F G' M') : rl_A G' M' B R E := by
  obtain ⟨hS, hJ, hD, hW, -⟩ := h
  refine ⟨?_, ?_, ?_, ?_, hF⟩
  · unfold rl_S at *
    rw [g1 6 (by omega), g1 7 (by omega), g1 8 (by omega), g2 1 (by omega), g2 2 (by omega), g2 3 (by omega), g2 4 (by omega), g2 5 (by omega), g2 6 (by omega), g2 7 (by omega), g2 8 (by omega), g2 12 (by omega), g2 13 (by omega), g2 14 (by omega)]
    exact hS
  · unfold rl_J at *
    rw [g1 9 (by omega), g2 9 (by omega), m2 9 (by omega), m2 10 (by omega)]
    exact hJ
  · unfold rl_D at *
    rw [g1 6 (by omega), g1 7 (by omega), g1 8 (by omega), g2 0 (by omega), g2 1 (by omega), g2 2 (by omega), g2 3 (by omega), g2 4 (by omega), g2 5 (by omega), g2 6 (by omega), g2 7 (by omega), g2 8 (by omega), g2 10 (by omega), g2 11 (by omega), m1 1 (by omega) (by omega), m1 2 (by omega) (by omega), m1 3 (by omega) (by omega), m2 0 (by omega), m2 1 (by omega), m2 2 (by omega), m2 3 (by omega), m2 4 (by omega), m2 5 (by omega), m2 6 (by omega), m2 7 (by omega), m2 8 (by omega), m2 11 (by omega), m2 12 (by omega)]
    exact hD
  · unfold rl_W at *
    rw [g1 5 (by omega), g1 0 (by omega), g1 1 (by omega), g2 20 (by omega), g2 15 (by omega), g2 16 (by omega), g2 17 (by omega), g2 18 (by omega), g2 19 (by omega), m1 4 (by omega) (by omega), m1 5 (by omega) (by omega), m1 6 (by omega) (by omega), m2 17 (by omega), m2 13 (by omega), m2 14 (by omega), m2 15 (by omega), m2 16 (by omega)]
    exact hW
/-- the row is read, on both sides -/
theorem fd_row (n : Nat) {G M : gs_T} {N i B C : Nat} (hN : N ≤ 40) (hiN : i + N ≤ C) (hC : C ≤ 1000) (hB : B ≤ 60) (h15 : G.2 15 = M.2 13) (h0 : G.2 0 = M.2 0) (hbar : ∀ q, q < C → 0 ≤ (G.2 15 q).toInt ∧ (G.2 15 q).toInt < B) (Km : gs_T → Option (Int32 × gs_T)) :
    ∀ (s k km j : Nat) (G' M' : gs_T), j + s = N → s < k → s < km → fa_fr G G' 23 → fa_fr M M' 20 → (∀ q, q < j → G'.2 23 q = M'.2 20 q) →
      ∃ G'' M'' : gs_T, cR_fold_50 n (nI i) (nI N) k (nI j) G' = ((cT_writeRow n G'' (nI N)).bind fun q1 => some ((Sum.inl q1.1), q1.2)) ∧ mM_fold_62 n (nI i) (nI N) Km km (nI j) M' = Km M'' ∧ fa_fr G G'' 23 ∧ fa_fr M M'' 20 ∧ ∀ q, q < N → G''.2 23 q = M''.2 20 q := by
  intro s
  induction s with
  | zero =>
    intro k km j G' M' hj hk hkm hg hm hr
    obtain ⟨k, rfl⟩ : ∃ q, k = q + 1 := ⟨k - 1, by omega⟩
    obtain ⟨km, rfl⟩ : ∃ q, km = q + 1 := ⟨km - 1, by omega⟩
    have hje : j = N := by omega
    subst hje
    exact ⟨G', M', by rw [cR_fold_50, if_pos (Int32.le_refl _)], by rw [mM_fold_62, if_pos (Int32.le_refl _)], hg, hm, hr⟩
  | succ s ih =>
    intro k km j G' M' hj hk hkm hg hm hr
    obtain ⟨k, rfl⟩ : ∃ q, k = q + 1 := ⟨k - 1, by omega⟩
    obtain ⟨km, rfl⟩ : ∃ q, km = q + 1 := ⟨km - 1, by omega⟩
    have hge := nI_ge (show j < N by omega) (show N < 2 ^ 31 by omega)
    have hb := hbar (i + j) (by omega)
    have c15 : gs_a G' 15 (nI (i + j)) = G.2 15 (i + j) := by rw [ga_nI _ _ (by omega), hg.2 15 (by decide)]
    have m13 : gs_a M' 13 (nI (i + j)) = G.2 15 (i + j) := by rw [ga_nI _ _ (by omega), hm.2 13 (by decide), h15]
    have e0 : gs_a M' 0 (G.2 15 (i + j)) = gs_a G' 0 (G.2 15 (i + j)) := by
      unfold gs_a
      rw [hm.2 0 (by decide), hg.2 0 (by decide), h0]
    have hcl : (nI j).toNatClampNeg = j := nI_clamp (by omega)
    obtain ⟨G2, M2, u1, u2, u3⟩ := ih k km (j + 1) (gs_sa G' 23 (nI j) (gs_a G' 0 (G.2 15 (i + j)))) (gs_sa M' 20 (nI j) (gs_a G' 0 (G.2 15 (i + j)))) (by omega) (by omega) (by omega) ⟨hg.1, fun q hq => by rw [sa_2, if_neg hq]; exact hg.2 q hq⟩ ⟨hm.1, fun q hq => by rw [sa_2, if_neg hq]; exact hm.2 q hq⟩ (fun q hq => by
      rw [sa_2, if_pos rfl, sa_2, if_pos rfl, hcl]
      by_cases hqj : q = j
      · rw [hqj, ud_s, ud_s]
      · rw [ud_n _ _ hqj, ud_n _ _ hqj]
        exact hr q (by omega))
    refine ⟨G2, M2, ?_, ?_, u3⟩
    · rw [cR_fold_50, if_neg hge, nI_add, ck_nI _ (show i + j < 1000 by omega) (by decide), c15, ck_of _ hb.1 (by omega), ck_nI _ (show j < 40 by omega) (by decide), ← nI_succ]
      exact u1
    · rw [mM_fold_62, if_neg hge, nI_add, ck_nI _ (show i + j < 1000 by omega) (by decide), m13, ck_of _ hb.1 (by omega), ck_nI _ (show j < 40 by omega) (by decide), e0, ← nI_succ]
      exact u2
theorem fd_call (n : Nat) (hn : 200 < n) {G M : gs_T} {B R E N i : Nat} (h : rl_A G M B R E) (h1N : 1 ≤ N) (hN : N ≤ 40) (hiN : ∀ C, G.1 0 = nI C → C ≤ 1000 → i + N ≤ C) :
    ∃ (v : Int32) (G' M' : gs_T), cR_fold_50 n (nI i) (nI N) n 0 G = some (Sum.inl v, G') ∧ mM_fold_62 n (nI i) (nI N) (fun G1 => mM_fold_98 n (nI N) n 1 G1) n 0 (gs_sv M 0 0) = some (v, M') ∧ M'.1 0 = 0 ∧ rl_A G' M' B R E := by
  obtain ⟨w1, w2, w3, w4, w5, w6, w7, w8, C, c1, c2, c3, c4⟩ := h.2.2.2.1
  have hB : B ≤ 60 := h.1.1.2.1
  have h0 : G.2 0 = M.2 0 := h.2.2.1.2.2.2.1
  obtain ⟨f1, f2, f3, f4, -⟩ := h.2.2.2.2
  obtain ⟨G1, M1, a1, a2, a3, a4, a5⟩ := fd_row n (G := G) (M := gs_sv M 0 0) (N := N) (i := i) (B := B) (C := C) hN (hiN C c2 c1) c1 hB w5 h0 c3 (fun G1 => mM_fold_98 n (nI N) n 1 G1) N n n 0 G (gs_sv M 0 0) (by omega) (by omega) (by omega) ⟨rfl, fun _ _ => rfl⟩ ⟨rfl, fun _ _ => rfl⟩ (fun q hq => by omega)
  rw [← li_n0] at a1 a2
  obtain ⟨G2, b1, b2, b3⟩ := fa_compare n (by omega) hN G1
  have h23 : G2.2 23 = G1.2 23 := b2.2 23 (by decide)
  rw [← h23] at b3 a5
  obtain ⟨G3, M3, d1, d2, d3, d4, d5⟩ := fc_outer n (by omega) hN a5 b3 N n n 1 G2 M1 (by omega) (by omega) (by omega) (by omega) ⟨rfl, fun _ _ _ => rfl⟩ ⟨rfl, fun _ _ _ _ => rfl⟩ (fun a z q1 q2 q3 => by omega)
  rw [← li_n1] at d1 d2
  have hg : ∀ q, q ≠ 23 → q ≠ 24 → q ≠ 25 → q ≠ 26 → G3.2 q = G.2 q := fun q q1 q2 q3 q4 => (d3.2 q q3 q4).trans ((b2.2 q q2).trans (a3.2 q q1))
  have hg1 : G3.1 = G.1 := d3.1.trans (b2.1.trans a3.1)
  have hm : ∀ q, q ≠ 20 → q ≠ 21 → q ≠ 22 → q ≠ 23 → M3.2 q = M.2 q := fun q q1 q2 q3 q4 => (d4.2 q q2 q3 q4).trans (a4.2 q q1)
  have hm1 : M3.1 = (gs_sv M 0 0).1 := d4.1.trans a4.1
  obtain ⟨G4, M4, e1, e2, e3, e4, e5, e6, e7⟩ := fw_all n hn hN h1N (G := G3) (M := M3) (by
      rw [d3.2 23 (by decide) (by decide), d4.2 20 (by decide) (by decide) (by decide)]
      exact a5) (fun a z q1 q2 => d5 a z q1 q2 (Or.inl (by omega))) (by rw [hg 29 (by decide) (by decide) (by decide) (by decide), hm 24 (by decide) (by decide) (by decide) (by decide)]; exact f3) (by rw [hg 30 (by decide) (by decide) (by decide) (by decide), hm 25 (by decide) (by decide) (by decide) (by decide)]; exact f4)
  refine ⟨M4.1 12, G4, M4, ?_, ?_, ?_, fd_congr h (fun k hk => ?_) (fun k hk => ?_) (fun k hk1 hk => ?_) (fun k hk => ?_) e7⟩
  · rw [a1]
    unfold cT_writeRow
    rw [b1, Option.bind_some, d1, e1, Option.bind_some, Option.bind_some, e7.2.1]
  · rw [a2]
    show mM_fold_98 n (nI N) n 1 M1 = _
    rw [d2, e2, Option.bind_some]
  · rw [e6 0 (by decide), hm1]
    rfl
  · rw [e4 k hk, hg1]
  · rw [e3 k (by omega)]
    exact hg k (by omega) (by omega) (by omega) (by omega)
  · rw [e6 k hk, hm1, sv_1, if_neg (by omega)]
  · rw [e5 k (by omega)]
    exact hm k (by omega) (by omega) (by omega) (by omega)
theorem so_fold_ok (G M : gs_T) (h : rl_R G M) : so_fold rl_R G M := by
  obtain ⟨B, R, E, h⟩ := h
  intro x y
  obtain ⟨w1, w2, w3, w4, w5, w6, w7, w8, C, c1, c2, c3, c4⟩ := id h.2.2.2.1
  have e40 : (40 : Int32).toInt = 40 := by decide
  have eC := nI_toInt (n := C) (by omega)
  have m5 : M.1 5 = nI C := w2.symm.trans c2
  by_cases hy : 1 ≤ y.toInt ∧ y.toInt ≤ 40
  · obtain ⟨N, hN1, hN, rfl⟩ : ∃ N, 1 ≤ N ∧ N ≤ 40 ∧ y = nI N := ⟨y.toInt.toNat, by omega, by omega, li_nI (by omega) (by omega)⟩
    have y1 : ¬ nI N < 1 := nI_nlt (b := 1) hN1 (by omega)
    have y2 : nI N ≤ 40 := nI_le (b := 40) hN (by decide)
    have y3 : ¬ 40 < nI N := nI_nlt (a := 40) hN (by decide)
    have eN := nI_toInt (n := N) (by omega)
    have eD : (nI C - nI N).toInt = (C : Int) - N := by rw [li_sub] <;> rw [eC, eN] <;> omega
    by_cases hx : 0 ≤ x.toInt ∧ x.toInt ≤ (C : Int) - N
    · obtain ⟨i, hi, rfl⟩ : ∃ i, i + N ≤ C ∧ x = nI i := ⟨x.toInt.toNat, by omega, li_nI (by omega) (by omega)⟩
      have ei := nI_toInt (n := i) (by omega)
      have x1 : ¬ nI i < 0 := nI_pos (by omega)
      have x2 : nI i ≤ nI C - nI N := by rw [li_le, eD, ei]; omega
      obtain ⟨v, G', M', r1, r2, r3, r4⟩ := fd_call 1000 (by decide) (N := N) (i := i) h hN1 hN (fun C' q1 q2 => by
        rw [c2] at q1
        have := (nI_eq (a := C) (b := C') (by omega) (by omega)).mp q1
        omega)
      refine ⟨1000, 1000, G', (v, M'), ?_, ⟨B, R, E, r4⟩, Or.inl ⟨?_, r3⟩⟩
      · show mM_fold 1000 M (nI i) (nI N) = some (v, M')
        unfold mM_fold mM_fold_j16 mM_fold_j27 mM_fold_j49 mM_fold_j50 mM_refuses
        rw [if_neg y1, if_neg y3, if_neg (show ¬ (1 : Int32) = 0 by decide), m5, if_neg (show ¬ (1 : Int32) = 0 by decide), if_neg x1, if_pos x2, if_pos rfl, if_pos rfl, if_pos rfl, Option.bind_some, if_pos rfl]
        exact r2
      · show cR_fold 1000 G (nI i) (nI N) = some (.inl v, G')
        unfold cR_fold
        rw [if_neg y1, if_pos y2, if_neg x1, c2, if_pos x2]
        exact r1
    · refine ⟨1000, 1000, G, (0, gs_sv M 0 2), ?_, ⟨B, R, E, rl_thrown 2 h⟩, Or.inr ⟨(1, 2), by simp, ?_, rfl⟩⟩
      · show mM_fold 1000 M x (nI N) = some (0, gs_sv M 0 2)
        unfold mM_fold mM_fold_j16 mM_fold_j27 mM_fold_j45
        rw [if_neg y1, if_neg y3, if_neg (show ¬ (1 : Int32) = 0 by decide), m5, if_neg (show ¬ (1 : Int32) = 0 by decide)]
        by_cases x1 : x < 0
        · rw [if_pos x1]; simp [mM_fold_j50, mM_refuses]
        · have x2 : ¬ x ≤ nI C - nI N := by
            rw [li_le, eD]
            rw [li_lt, li_0] at x1
            omega
          rw [if_neg x1, if_neg x2]; simp [mM_fold_j50, mM_refuses]
      · show cR_fold 1000 G x (nI N) = some (.inr 1, G)
        unfold cR_fold
        rw [if_neg y1, if_pos y2, c2]
        by_cases x1 : x < 0
        · rw [if_pos x1]
        · have x2 : ¬ x ≤ nI C - nI N := by
            rw [li_le, eD]
            rw [li_lt, li_0] at x1
            omega
          rw [if_neg x1, if_neg x2]
  · refine ⟨1000, 1000, G, (0, gs_sv M 0 1), ?_, ⟨B, R, E, rl_thrown 1 h⟩, Or.inr ⟨(2, 1), by simp, ?_, rfl⟩⟩
    · show mM_fold 1000 M x y = some (0, gs_sv M 0 1)
      have hj : mM_fold_j15 1000 M x y = some (0, gs_sv M 0 1) := by
        unfold mM_fold_j15 mM_fold_j16 mM_fold_j27 mM_fold_j49
        rw [if_pos rfl, if_pos rfl]
        simp [mM_fold_j50, mM_refuses]
      unfold mM_fold
      by_cases y1 : y < 1
      · rw [if_pos y1, hj]
      · have y2 : 40 < y := by
          rw [li_lt, e40]
          rw [li_lt, li_1] at y1
          omega
        rw [if_neg y1, if_pos y2, hj]
    · show cR_fold 1000 G x y = some (.inr 2, G)
      unfold cR_fold
      by_cases y1 : y < 1
      · rw [if_pos y1]
      · have y2 : ¬ y ≤ 40 := by
          rw [li_le, e40]
          rw [li_lt, li_1] at y1
          omega
        rw [if_neg y1, if_neg y2]
theorem rl_step : ∀ G Gm : gs_T, rl_R G Gm → sp_ok rl_R G Gm := fun G Gm h =>
  ⟨so_bar_ok G Gm h, so_repeat_ok G Gm h, so_ending_ok G Gm h, so_sign_ok G Gm h, so_jump_ok G Gm h, so_plain_ok G Gm h, so_unfold_ok G Gm h, so_fault_ok G Gm h, so_played_ok G Gm h, so_times_ok G Gm h, so_comes_ok G Gm h, so_fold_ok G Gm h, so_folded_ok G Gm h, so_told_ok G Gm h⟩
