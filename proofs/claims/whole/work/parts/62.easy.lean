/-! ===== own: the calls that only read or write a little ===== -/
theorem so_fault_ok (G M : gs_T) (h : rl_R G M) : so_fault rl_R G M := by
  obtain ⟨B, R, E, h⟩ := h
  refine ⟨_, _, rfl, rfl, h.2.2.2.1.1, B, R, E, rl_thrown 0 h⟩
theorem ez_hasBar {G : gs_T} {B : Nat} (h6 : G.1 6 = nI B) (hB : B ≤ 60) (x : Int32) : (cS_hasBar G x = some 1 ∧ 0 ≤ x.toInt ∧ x.toInt < B) ∨ (cS_hasBar G x = some 0 ∧ ¬ (0 ≤ x.toInt ∧ x.toInt < B)) := by
  unfold cS_hasBar
  have e := nI_toInt (n := B) (by omega)
  rw [h6]
  simp only [li_lt, li_le, li_0, e]
  by_cases h1 : x.toInt < 0
  · exact Or.inr ⟨by rw [if_pos h1], by omega⟩
  · rw [if_neg h1]
    by_cases h2 : (B : Int) ≤ x.toInt
    · exact Or.inr ⟨by rw [if_pos h2], by omega⟩
    · exact Or.inl ⟨by rw [if_neg h2], by omega⟩
theorem ez_isBar {M : gs_T} {B : Nat} (h6 : M.1 1 = nI B) (hB : B ≤ 60) (x : Int32) : (mM_isBar M x = some 1 ∧ 0 ≤ x.toInt ∧ x.toInt < B) ∨ (mM_isBar M x = some 0 ∧ ¬ (0 ≤ x.toInt ∧ x.toInt < B)) := by
  unfold mM_isBar
  have e := nI_toInt (n := B) (by omega)
  rw [h6]
  simp only [li_lt, li_le, li_0, e]
  by_cases h1 : x.toInt < 0
  · exact Or.inr ⟨by rw [if_pos h1], by omega⟩
  · rw [if_neg h1]
    by_cases h2 : (B : Int) ≤ x.toInt
    · exact Or.inr ⟨by rw [if_pos h2], by omega⟩
    · exact Or.inl ⟨by rw [if_neg h2], by omega⟩
theorem ez_nb {x : Int32} {B : Nat} (h0 : 0 ≤ x.toInt) (h1 : x.toInt < B) (hB : B ≤ 60) : ∃ b, b < B ∧ x = nI b := by
  refine ⟨x.toInt.toNat, by omega, ?_⟩
  exact li_nI (by omega) (by omega)
theorem rl_bar {G M : gs_T} {B R E : Nat} (h : rl_A G M B R E) : M.1 1 = nI B := h.2.2.1.1.symm.trans h.1.1.1
theorem so_comes_ok (G M : gs_T) (h : rl_R G M) : so_comes rl_R G M := by
  obtain ⟨B, R, E, h⟩ := h
  intro x
  have hB := h.1.1.2.1
  have b1 := ez_hasBar h.1.1.1 hB x
  have b2 := ez_isBar (rl_bar h) hB x
  refine ⟨0, 0, G, ?_⟩
  simp only [cR_comes, mM_comes, mM_refuses]
  rcases b1 with ⟨e1, h0, h1⟩ | ⟨e1, h1⟩ <;> rcases b2 with ⟨e2, h2⟩ | ⟨e2, h2⟩
  · obtain ⟨b, hb, rfl⟩ := ez_nb h0 h1 hB
    refine ⟨_, by simp [e2, ck_nI, show b < 60 by omega]; rfl, ⟨B, R, E, rl_thrown 0 h⟩, Or.inl ⟨?_, rfl⟩⟩
    simp only [e1, Option.bind_some]
    rw [if_neg (by decide), ck_nI _ (by omega) (by decide)]
    simp only [ga_nI _ _ (show b < 2 ^ 31 by omega)]
    rw [h.2.2.2.1.2.2.2.1 b (by omega)]
    rfl
  · exact absurd ⟨h0, h1⟩ h2
  · exact absurd h2 h1
  · refine ⟨_, by simp [e2]; rfl, ⟨B, R, E, rl_thrown 1 h⟩, Or.inr ⟨(1, 1), by simp, by simp [e1], rfl⟩⟩
theorem ez_times (M : gs_T) (x : Int32) (C : Nat) (hC : C ≤ 1000) (h5 : M.1 5 = nI C) (n : Nat) : ∀ k i c, i ≤ C → C - i < k → c = rp_cnt (M.2 13) x i → mM_times_28 n M x k (nI c) (nI i) = some (nI (rp_cnt (M.2 13) x C), M) := by
  intro k
  induction k with
  | zero => intro i c h1 h2; omega
  | succ k ih =>
    intro i c h1 h2 hc
    unfold mM_times_28
    rw [h5]
    by_cases hi : i = C
    · subst hi
      rw [if_pos (Int32.le_refl _), hc]
    · rw [if_neg (nI_ge (by omega) (by omega)), ck_nI _ (by omega) (by decide)]
      simp only [ga_nI _ _ (show i < 2 ^ 31 by omega)]
      have hs : rp_cnt (M.2 13) x (i + 1) = rp_cnt (M.2 13) x i + (if M.2 13 i = x then 1 else 0) := rfl
      by_cases hx : M.2 13 i = x
      · rw [if_pos hx, ← nI_succ, ← nI_succ]
        exact ih (i + 1) (c + 1) (by omega) (by omega) (by rw [hs, if_pos hx, hc])
      · rw [if_neg hx, ← nI_succ, show nI c + 0 = nI c by simp]
        exact ih (i + 1) c (by omega) (by omega) (by rw [hs, if_neg hx, hc]; rfl)
theorem so_times_ok (G M : gs_T) (h : rl_R G M) : so_times rl_R G M := by
  obtain ⟨B, R, E, h⟩ := h
  intro x
  have hB := h.1.1.2.1
  have b1 := ez_hasBar h.1.1.1 hB x
  have b2 := ez_isBar (rl_bar h) hB x
  obtain ⟨w1, w2, w3, w4, w5, w6, w7, w8, C, hC, w9, w10, w11⟩ := h.2.2.2.1
  refine ⟨0, 1001, G, ?_⟩
  simp only [cR_times, mM_times, mM_times_j14, mM_refuses]
  rcases b1 with ⟨e1, h0, h1⟩ | ⟨e1, h1⟩ <;> rcases b2 with ⟨e2, h2⟩ | ⟨e2, h2⟩
  · obtain ⟨b, hb, rfl⟩ := ez_nb h0 h1 hB
    have e3 := ez_times (gs_sv M 0 0) (nI b) C hC (w2.symm.trans w9) 1001 1001 0 0 (by omega) (by omega) rfl
    refine ⟨(nI (rp_cnt (M.2 13) (nI b) C), gs_sv M 0 0), ?_, ⟨B, R, E, rl_thrown 0 h⟩, Or.inl ⟨?_, rfl⟩⟩
    · simp only [e2, Option.bind_some]
      rw [if_neg (by decide)]
      simp only [reduceIte, Option.bind_some]
      rw [← li_n0] at e3
      exact e3
    · simp only [e1, Option.bind_some]
      rw [if_neg (by decide), ck_nI _ (by omega) (by decide)]
      simp only [ga_nI _ _ (show b < 2 ^ 31 by omega)]
      rw [w11 b (by omega), w5]
  · exact absurd ⟨h0, h1⟩ h2
  · exact absurd h2 h1
  · refine ⟨_, by simp [e2]; rfl, ⟨B, R, E, rl_thrown 1 h⟩, Or.inr ⟨(1, 1), by simp, by simp [e1], rfl⟩⟩
theorem ez_told (M : gs_T) (x : Int32) (K : Int32 → Option (Int32 × gs_T)) (B : Nat) (hB : B ≤ 60) (h5 : M.1 1 = nI B) (n : Nat) : ∀ k i c, i ≤ B → B - i < k → c = rj_cnt (M.2 9) i → mM_told_30 n M x K k (nI c) (nI i) = K (nI (rj_cnt (M.2 9) B)) := by
  intro k
  induction k with
  | zero => intro i c h1 h2; omega
  | succ k ih =>
    intro i c h1 h2 hc
    unfold mM_told_30
    rw [h5]
    by_cases hi : i = B
    · subst hi
      rw [if_pos (Int32.le_refl _), hc]
    · rw [if_neg (nI_ge (by omega) (by omega)), ck_nI _ (by omega) (by decide)]
      simp only [ga_nI _ _ (show i < 2 ^ 31 by omega)]
      have hs : rj_cnt (M.2 9) (i + 1) = rj_cnt (M.2 9) i + (if M.2 9 i = 0 then 0 else 1) := rfl
      by_cases hx : M.2 9 i = 0
      · rw [if_pos hx, ← nI_succ, show nI c + 0 = nI c by simp]
        exact ih (i + 1) c (by omega) (by omega) (by rw [hs, if_pos hx, hc]; rfl)
      · rw [if_neg hx, ← nI_succ, ← nI_succ]
        exact ih (i + 1) (c + 1) (by omega) (by omega) (by rw [hs, if_neg hx, hc])
theorem so_told_ok (G M : gs_T) (h : rl_R G M) : so_told rl_R G M := by
  obtain ⟨B, R, E, h⟩ := h
  intro x
  have hB := h.1.1.2.1
  obtain ⟨w1, w2, w3, w4⟩ := h.2.2.2.1
  obtain ⟨d1, d2, d3, d4⟩ := h.2.2.1
  obtain ⟨f1, f2, f3⟩ := h.2.2.2.2
  obtain ⟨j1, j2⟩ := h.2.1
  have hok : ∀ K : Int32 → Option (Int32 × gs_T), mM_told_30 61 (gs_sv M 0 0) x K 61 0 0 = K (G.1 9) := fun K => by
    have e := ez_told (gs_sv M 0 0) x K B hB (rl_bar h) 61 61 0 0 (by omega) (by omega) rfl
    rw [← li_n0] at e
    rw [e, j1]
    rfl
  refine ⟨0, 61, G, ?_⟩
  have hin : (x < 0 ∨ ¬ x ≤ 7) ∨ x = 0 ∨ x = 1 ∨ x = 2 ∨ x = 3 ∨ x = 4 ∨ x = 5 ∨ x = 6 ∨ x = 7 := by
    simp only [li_lt, li_le, li_eq, li_0, li_1, li_2, li_3, li_4, show (5 : Int32).toInt = 5 by decide, show (6 : Int32).toInt = 6 by decide, show (7 : Int32).toInt = 7 by decide]
    omega
  rcases hin with hout | hin
  · have hm : mM_told 61 M x = some (0, gs_sv M 0 1) := by
      unfold mM_told mM_told_j11 mM_told_j16
      by_cases h1 : x < 0
      · rw [if_pos h1]; simp [mM_refuses]
      · have h2 : ¬ x ≤ 7 := hout.resolve_left h1
        rw [if_neg h1, if_neg h2]; simp [mM_refuses]
    refine ⟨_, hm, ⟨B, R, E, rl_thrown 1 h⟩, Or.inr ⟨(2, 1), by simp, ?_, rfl⟩⟩
    unfold cR_told
    have hne : ∀ c : Int32, ¬ c < 0 → c ≤ 7 → ¬ x = c := fun c h1 h2 e => by subst e; exact hout.elim h1 (fun h => h h2)
    rw [if_neg (hne 0 (by decide) (by decide)), if_neg (hne 1 (by decide) (by decide)), if_neg (hne 2 (by decide) (by decide)), if_neg (hne 3 (by decide) (by decide)), if_neg (hne 4 (by decide) (by decide)), if_neg (hne 5 (by decide) (by decide)), if_neg (hne 6 (by decide) (by decide)), if_neg (hne 7 (by decide) (by decide))]
  · have hm : ∃ v, mM_told 61 M x = some (v, gs_sv M 0 0) ∧ cR_told G x = some (.inl v, G) := by
      unfold mM_told mM_told_j16 cR_told
      rcases hin with rfl | rfl | rfl | rfl | rfl | rfl | rfl | rfl
      all_goals
        refine ⟨_, ?_, rfl⟩
        rw [if_neg (by decide), if_pos (by decide)]
        simp only [mM_refuses, reduceIte, Option.bind_some]
        rw [hok]
      · show some (M.1 1, _) = _; rw [d1]
      · show some (M.1 2, _) = _; rw [d2]
      · show some (M.1 3, _) = _; rw [d3]
      · rfl
      · show some (M.1 5, _) = _; rw [w2]
      · show some (M.1 6, _) = _; rw [w3]
      · show some (M.1 11, _) = _; rw [f1]
      · show some (M.1 12, _) = _; rw [f2]
    obtain ⟨v, h1, h2⟩ := hm
    exact ⟨_, h1, ⟨B, R, E, rl_thrown 0 h⟩, Or.inl ⟨h2, rfl⟩⟩
theorem so_played_ok (G M : gs_T) (h : rl_R G M) : so_played rl_R G M := by
  obtain ⟨B, R, E, h⟩ := h
  intro x y
  have hB := h.1.1.2.1
  obtain ⟨w1, w2, w3, w4, w5, w6, w7, w8, C, hC, w9, w10, w11⟩ := h.2.2.2.1
  have d4 := h.2.2.1.2.2.2.1
  refine ⟨0, 0, G, ?_⟩
  have eC := nI_toInt (n := C) (by omega)
  by_cases hx : 0 ≤ x.toInt ∧ x.toInt < C
  · obtain ⟨i, hi, rfl⟩ : ∃ i, i < C ∧ x = nI i := ⟨x.toInt.toNat, by omega, li_nI (by omega) (by omega)⟩
    have hx1 : ¬ nI i < 0 := nI_pos (by omega)
    have hx2 : nI i < G.1 0 := by rw [w9]; exact nI_lt hi (by omega)
    have hx3 : nI i < M.1 5 := by rw [← w2]; exact hx2
    have hb := w10 i hi
    obtain ⟨b, hb1, hb2⟩ := ez_nb hb.1 hb.2 hB
    have hin : (y < 0 ∨ ¬ y ≤ 4) ∨ y = 0 ∨ y = 1 ∨ y = 2 ∨ y = 3 ∨ y = 4 := by
      simp only [li_lt, li_le, li_eq, li_0, li_1, li_2, li_3, li_4]
      omega
    rcases hin with hout | hin
    · refine ⟨(0, gs_sv M 0 2), ?_, ⟨B, R, E, rl_thrown 2 h⟩, Or.inr ⟨(2, 2), by simp, ?_, rfl⟩⟩
      · unfold mM_played mM_played_j18 mM_played_j27 mM_played_j32
        rw [if_neg hx1, if_pos hx3]
        by_cases h1 : y < 0
        · rw [if_pos h1]; simp [mM_refuses]
        · have h2 : ¬ y ≤ 4 := hout.resolve_left h1
          rw [if_neg h1, if_neg h2]; simp [mM_refuses]
      · unfold cR_played
        have hne : ∀ c : Int32, ¬ c < 0 → c ≤ 4 → ¬ y = c := fun c h1 h2 e => by subst e; exact hout.elim h1 (fun h => h h2)
        rw [if_neg hx1, if_pos hx2, if_neg (hne 0 (by decide) (by decide)), if_neg (hne 1 (by decide) (by decide)), if_neg (hne 2 (by decide) (by decide)), if_neg (hne 3 (by decide) (by decide)), if_neg (hne 4 (by decide) (by decide))]
    · have hm : ∃ v, mM_played M (nI i) y = some (v, gs_sv M 0 0) ∧ cR_played G (nI i) y = some (.inl v, G) := by
        have hb3 : M.2 13 i = nI b := by rw [← w5]; exact hb2
        have hi31 : i < 2 ^ 31 := by omega
        have hb31 : b < 2 ^ 31 := by omega
        unfold mM_played mM_played_j18 mM_played_j32 cR_played
        rw [if_neg hx1, if_pos hx3, if_neg hx1, if_pos hx2]
        rcases hin with rfl | rfl | rfl | rfl | rfl
        · refine ⟨nI b, ?_, ?_⟩
          · rw [if_neg (by decide), if_pos (by decide)]
            simp only [mM_refuses, reduceIte, Option.bind_some, ck_nI _ (show i < 1000 by omega) (by decide), ga_nI _ _ hi31, sv_2, hb3, ck_nI _ (show b < 60 by omega) (by decide), ga_nI _ _ hb31, show ¬ (1 : Int32) = 0 by decide, show ¬ (2 : Int32) = 0 by decide, show ¬ (2 : Int32) = 1 by decide, show ¬ (3 : Int32) = 0 by decide, show ¬ (3 : Int32) = 1 by decide, show ¬ (3 : Int32) = 2 by decide, show ¬ (4 : Int32) = 0 by decide, show ¬ (4 : Int32) = 1 by decide, show ¬ (4 : Int32) = 2 by decide, show ¬ (4 : Int32) = 3 by decide]
          · simp only [reduceIte, ck_nI _ (show i < 1000 by omega) (by decide), ga_nI _ _ hi31, hb2, ck_nI _ (show b < 60 by omega) (by decide), ga_nI _ _ hb31, d4, w6, w7, w8, show ¬ (1 : Int32) = 0 by decide, show ¬ (2 : Int32) = 0 by decide, show ¬ (2 : Int32) = 1 by decide, show ¬ (3 : Int32) = 0 by decide, show ¬ (3 : Int32) = 1 by decide, show ¬ (3 : Int32) = 2 by decide, show ¬ (4 : Int32) = 0 by decide, show ¬ (4 : Int32) = 1 by decide, show ¬ (4 : Int32) = 2 by decide, show ¬ (4 : Int32) = 3 by decide]
        · refine ⟨M.2 0 b, ?_, ?_⟩
          · rw [if_neg (by decide), if_pos (by decide)]
            simp only [mM_refuses, reduceIte, Option.bind_some, ck_nI _ (show i < 1000 by omega) (by decide), ga_nI _ _ hi31, sv_2, hb3, ck_nI _ (show b < 60 by omega) (by decide), ga_nI _ _ hb31, show ¬ (1 : Int32) = 0 by decide, show ¬ (2 : Int32) = 0 by decide, show ¬ (2 : Int32) = 1 by decide, show ¬ (3 : Int32) = 0 by decide, show ¬ (3 : Int32) = 1 by decide, show ¬ (3 : Int32) = 2 by decide, show ¬ (4 : Int32) = 0 by decide, show ¬ (4 : Int32) = 1 by decide, show ¬ (4 : Int32) = 2 by decide, show ¬ (4 : Int32) = 3 by decide]
          · simp only [reduceIte, ck_nI _ (show i < 1000 by omega) (by decide), ga_nI _ _ hi31, hb2, ck_nI _ (show b < 60 by omega) (by decide), ga_nI _ _ hb31, d4, w6, w7, w8, show ¬ (1 : Int32) = 0 by decide, show ¬ (2 : Int32) = 0 by decide, show ¬ (2 : Int32) = 1 by decide, show ¬ (3 : Int32) = 0 by decide, show ¬ (3 : Int32) = 1 by decide, show ¬ (3 : Int32) = 2 by decide, show ¬ (4 : Int32) = 0 by decide, show ¬ (4 : Int32) = 1 by decide, show ¬ (4 : Int32) = 2 by decide, show ¬ (4 : Int32) = 3 by decide]
        · refine ⟨M.2 14 i, ?_, ?_⟩
          · rw [if_neg (by decide), if_pos (by decide)]
            simp only [mM_refuses, reduceIte, Option.bind_some, ck_nI _ (show i < 1000 by omega) (by decide), ga_nI _ _ hi31, sv_2, hb3, ck_nI _ (show b < 60 by omega) (by decide), ga_nI _ _ hb31, show ¬ (1 : Int32) = 0 by decide, show ¬ (2 : Int32) = 0 by decide, show ¬ (2 : Int32) = 1 by decide, show ¬ (3 : Int32) = 0 by decide, show ¬ (3 : Int32) = 1 by decide, show ¬ (3 : Int32) = 2 by decide, show ¬ (4 : Int32) = 0 by decide, show ¬ (4 : Int32) = 1 by decide, show ¬ (4 : Int32) = 2 by decide, show ¬ (4 : Int32) = 3 by decide]
          · simp only [reduceIte, ck_nI _ (show i < 1000 by omega) (by decide), ga_nI _ _ hi31, hb2, ck_nI _ (show b < 60 by omega) (by decide), ga_nI _ _ hb31, d4, w6, w7, w8, show ¬ (1 : Int32) = 0 by decide, show ¬ (2 : Int32) = 0 by decide, show ¬ (2 : Int32) = 1 by decide, show ¬ (3 : Int32) = 0 by decide, show ¬ (3 : Int32) = 1 by decide, show ¬ (3 : Int32) = 2 by decide, show ¬ (4 : Int32) = 0 by decide, show ¬ (4 : Int32) = 1 by decide, show ¬ (4 : Int32) = 2 by decide, show ¬ (4 : Int32) = 3 by decide]
        · refine ⟨M.2 15 i, ?_, ?_⟩
          · rw [if_neg (by decide), if_pos (by decide)]
            simp only [mM_refuses, reduceIte, Option.bind_some, ck_nI _ (show i < 1000 by omega) (by decide), ga_nI _ _ hi31, sv_2, hb3, ck_nI _ (show b < 60 by omega) (by decide), ga_nI _ _ hb31, show ¬ (1 : Int32) = 0 by decide, show ¬ (2 : Int32) = 0 by decide, show ¬ (2 : Int32) = 1 by decide, show ¬ (3 : Int32) = 0 by decide, show ¬ (3 : Int32) = 1 by decide, show ¬ (3 : Int32) = 2 by decide, show ¬ (4 : Int32) = 0 by decide, show ¬ (4 : Int32) = 1 by decide, show ¬ (4 : Int32) = 2 by decide, show ¬ (4 : Int32) = 3 by decide]
          · simp only [reduceIte, ck_nI _ (show i < 1000 by omega) (by decide), ga_nI _ _ hi31, hb2, ck_nI _ (show b < 60 by omega) (by decide), ga_nI _ _ hb31, d4, w6, w7, w8, show ¬ (1 : Int32) = 0 by decide, show ¬ (2 : Int32) = 0 by decide, show ¬ (2 : Int32) = 1 by decide, show ¬ (3 : Int32) = 0 by decide, show ¬ (3 : Int32) = 1 by decide, show ¬ (3 : Int32) = 2 by decide, show ¬ (4 : Int32) = 0 by decide, show ¬ (4 : Int32) = 1 by decide, show ¬ (4 : Int32) = 2 by decide, show ¬ (4 : Int32) = 3 by decide]
        · refine ⟨M.2 16 i, ?_, ?_⟩
          · rw [if_neg (by decide), if_pos (by decide)]
            simp only [mM_refuses, reduceIte, Option.bind_some, ck_nI _ (show i < 1000 by omega) (by decide), ga_nI _ _ hi31, sv_2, hb3, ck_nI _ (show b < 60 by omega) (by decide), ga_nI _ _ hb31, show ¬ (1 : Int32) = 0 by decide, show ¬ (2 : Int32) = 0 by decide, show ¬ (2 : Int32) = 1 by decide, show ¬ (3 : Int32) = 0 by decide, show ¬ (3 : Int32) = 1 by decide, show ¬ (3 : Int32) = 2 by decide, show ¬ (4 : Int32) = 0 by decide, show ¬ (4 : Int32) = 1 by decide, show ¬ (4 : Int32) = 2 by decide, show ¬ (4 : Int32) = 3 by decide]
          · simp only [reduceIte, ck_nI _ (show i < 1000 by omega) (by decide), ga_nI _ _ hi31, hb2, ck_nI _ (show b < 60 by omega) (by decide), ga_nI _ _ hb31, d4, w6, w7, w8, show ¬ (1 : Int32) = 0 by decide, show ¬ (2 : Int32) = 0 by decide, show ¬ (2 : Int32) = 1 by decide, show ¬ (3 : Int32) = 0 by decide, show ¬ (3 : Int32) = 1 by decide, show ¬ (3 : Int32) = 2 by decide, show ¬ (4 : Int32) = 0 by decide, show ¬ (4 : Int32) = 1 by decide, show ¬ (4 : Int32) = 2 by decide, show ¬ (4 : Int32) = 3 by decide]
      obtain ⟨v, h1, h2⟩ := hm
      exact ⟨_, h1, ⟨B, R, E, rl_thrown 0 h⟩, Or.inl ⟨h2, rfl⟩⟩
  · have hx4 : x < 0 ∨ ¬ x < G.1 0 := by
      rw [w9]
      simp only [li_lt, li_0, eC]
      omega
    refine ⟨(0, gs_sv M 0 1), ?_, ⟨B, R, E, rl_thrown 1 h⟩, Or.inr ⟨(1, 1), by simp, ?_, rfl⟩⟩
    · have e1 : mM_played M x y = mM_played_j18 M x y 1 := by
        unfold mM_played mM_played_j13
        rw [← w2]
        by_cases h1 : x < 0
        · rw [if_pos h1]
        · rw [if_neg h1, if_neg (hx4.resolve_left h1)]
      rw [e1]
      unfold mM_played_j18 mM_played_j27 mM_played_j32
      simp [mM_refuses]
    · unfold cR_played
      by_cases h1 : x < 0
      · rw [if_pos h1]
      · rw [if_neg h1, if_neg (hx4.resolve_left h1)]
theorem so_folded_ok (G M : gs_T) (h : rl_R G M) : so_folded rl_R G M := by
  obtain ⟨B, R, E, h⟩ := h
  intro x y
  obtain ⟨f1, f2, f3, f4, I, hI, f5⟩ := h.2.2.2.2
  refine ⟨0, 0, G, ?_⟩
  have eC := nI_toInt (n := I) (by omega)
  by_cases hx : 0 ≤ x.toInt ∧ x.toInt < I
  · obtain ⟨i, hi, rfl⟩ : ∃ i, i < I ∧ x = nI i := ⟨x.toInt.toNat, by omega, li_nI (by omega) (by omega)⟩
    have hx1 : ¬ nI i < 0 := nI_pos (by omega)
    have hx2 : nI i < G.1 11 := by rw [f5]; exact nI_lt hi (by omega)
    have hx3 : nI i < M.1 11 := by rw [← f1]; exact hx2
    have hin : (y < 0 ∨ ¬ y ≤ 1) ∨ y = 0 ∨ y = 1 := by
      simp only [li_lt, li_le, li_eq, li_0, li_1]
      omega
    have hi31 : i < 2 ^ 31 := by omega
    rcases hin with hout | rfl | rfl
    · refine ⟨(0, gs_sv M 0 2), ?_, ⟨B, R, E, rl_thrown 2 h⟩, Or.inr ⟨(2, 2), by simp, ?_, rfl⟩⟩
      · unfold mM_folded mM_folded_j18 mM_folded_j27 mM_folded_j32
        rw [if_neg hx1, if_pos hx3]
        by_cases h1 : y < 0
        · rw [if_pos h1]; simp [mM_refuses]
        · have h2 : ¬ y ≤ 1 := hout.resolve_left h1
          rw [if_neg h1, if_neg h2]; simp [mM_refuses]
      · unfold cR_folded
        have hne : ∀ c : Int32, ¬ c < 0 → c ≤ 1 → ¬ y = c := fun c h1 h2 e => by subst e; exact hout.elim h1 (fun h => h h2)
        rw [if_neg hx1, if_pos hx2, if_neg (hne 0 (by decide) (by decide)), if_neg (hne 1 (by decide) (by decide))]
    · refine ⟨(M.2 24 i, gs_sv M 0 0), ?_, ⟨B, R, E, rl_thrown 0 h⟩, Or.inl ⟨?_, rfl⟩⟩
      · unfold mM_folded mM_folded_j18 mM_folded_j32
        rw [if_neg hx1, if_pos hx3, if_neg (by decide), if_pos (by decide)]
        simp only [mM_refuses, reduceIte, Option.bind_some, ck_nI _ (show i < 200 by omega) (by decide), ga_nI _ _ hi31, sv_2]
      · unfold cR_folded
        rw [if_neg hx1, if_pos hx2]
        simp only [reduceIte, ck_nI _ (show i < 80 by omega) (by decide), ga_nI _ _ hi31, f3]
    · refine ⟨(M.2 25 i, gs_sv M 0 0), ?_, ⟨B, R, E, rl_thrown 0 h⟩, Or.inl ⟨?_, rfl⟩⟩
      · unfold mM_folded mM_folded_j18 mM_folded_j32
        rw [if_neg hx1, if_pos hx3, if_neg (by decide), if_pos (by decide)]
        simp only [mM_refuses, reduceIte, Option.bind_some, ck_nI _ (show i < 200 by omega) (by decide), ga_nI _ _ hi31, sv_2, show ¬ (1 : Int32) = 0 by decide]
      · unfold cR_folded
        rw [if_neg hx1, if_pos hx2]
        simp only [reduceIte, ck_nI _ (show i < 80 by omega) (by decide), ga_nI _ _ hi31, f4, show ¬ (1 : Int32) = 0 by decide]
  · have hx4 : x < 0 ∨ ¬ x < G.1 11 := by
      rw [f5]
      simp only [li_lt, li_0, eC]
      omega
    refine ⟨(0, gs_sv M 0 1), ?_, ⟨B, R, E, rl_thrown 1 h⟩, Or.inr ⟨(1, 1), by simp, ?_, rfl⟩⟩
    · have e1 : mM_folded M x y = mM_folded_j18 M x y 1 := by
        unfold mM_folded mM_folded_j13
        rw [← f1]
        by_cases h1 : x < 0
        · rw [if_pos h1]
        · rw [if_neg h1, if_neg (hx4.resolve_left h1)]
      rw [e1]
      unfold mM_folded_j18 mM_folded_j27 mM_folded_j32
      simp [mM_refuses]
    · unfold cR_folded
      by_cases h1 : x < 0
      · rw [if_pos h1]
      · rw [if_neg h1, if_neg (hx4.resolve_left h1)]
