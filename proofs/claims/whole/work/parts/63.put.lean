/-! ===== own: bar, sign, jump, plain ===== -/
theorem pu_sig {G M : gs_T} {B R E : Nat} (h : rl_A G M B R E) {s : Nat} (hs : s < 4) {y : Int32} (h1 : -1 ≤ y.toInt) (h2 : y.toInt < B) : rl_A (gs_sa G 8 (nI s) y) (gs_sa (gs_sv M 0 0) 8 (nI s) y) B R E := by
  obtain ⟨⟨s1, s2, s3, s4, s5, s6, s7, s8, s9⟩, hj, hd, hw, hf⟩ := h
  unfold rl_A rl_S rl_J rl_D rl_W rl_F at *
  simp only [sv_1, sv_2, sa_1, sa_2, reduceIte, Nat.reduceEqDiff] at *
  refine ⟨⟨s1, s2, s3, s4, s5, s6, s7, s8, ?_⟩, hj, ?_, hw, hf⟩
  · intro k hk
    rw [nI_clamp (by omega), ud_e]
    split
    · exact ⟨h1, h2⟩
    · exact s9 k hk
  · obtain ⟨d1, d2, d3, d4, d5, d6, d7, d8, d9, d10, d11, d12, d13, d14⟩ := hd
    exact ⟨d1, d2, d3, d4, d5, d6, d7, d8, d9, d10, d11, by rw [d12], d13, d14⟩
theorem so_sign_ok (G M : gs_T) (h : rl_R G M) : so_sign rl_R G M := by
  obtain ⟨B, R, E, h⟩ := h
  intro x y
  have hB := h.1.1.2.1
  have b1 := ez_hasBar h.1.1.1 hB y
  have b2 := ez_isBar (rl_bar h) hB y
  by_cases hx : 0 ≤ x.toInt ∧ x.toInt < 4
  · obtain ⟨i, hi, rfl⟩ : ∃ i, i < 4 ∧ x = nI i := ⟨x.toInt.toNat, by omega, li_nI (by omega) (by omega)⟩
    have hx1 : ¬ nI i < 0 := nI_pos (by omega)
    have hx2 : nI i < 4 := nI_lt (b := 4) hi (by omega)
    have hx3 : nI i ≤ 3 := nI_le (b := 3) (by omega) (by omega)
    have hi31 : i < 2 ^ 31 := by omega
    have hgo : ∀ y : Int32, mM_sign_j33 M (nI i) y 0 0 = some (M.2 8 i, gs_sa (gs_sv M 0 0) 8 (nI i) y) := by
      intro y
      simp only [mM_sign_j33, mM_refuses, reduceIte, Option.bind_some, ck_nI _ hi (show 4 < 2 ^ 31 by decide), ga_nI _ _ hi31, sv_2]
    have hgc : ∀ y : Int32, cS_moveSign G (nI i) y = some (M.2 8 i, gs_sa G 8 (nI i) y) := by
      intro y
      have d12 := h.2.2.1.2.2.2.2.2.2.2.2.2.2.2.1
      simp only [cS_moveSign, ck_nI _ hi (show 4 < 2 ^ 31 by decide), ga_nI _ _ hi31, d12]
    have ec : cR_sign G (nI i) y = if y = -1 then (cS_moveSign G (nI i) y).bind (fun q => some (.inl q.1, q.2)) else (cS_hasBar G y).bind (fun q => if q = 0 then some (.inr 1, G) else (cS_moveSign G (nI i) y).bind (fun q => some (.inl q.1, q.2))) := by
      unfold cR_sign
      rw [if_neg hx1, if_pos hx2]
    have em : mM_sign M (nI i) y = mM_sign_j15 M (nI i) y 0 := by
      unfold mM_sign
      rw [if_neg hx1, if_pos hx3]
    by_cases hy : y = -1
    · subst hy
      refine ⟨0, 0, _, (M.2 8 i, gs_sa (gs_sv M 0 0) 8 (nI i) (-1)), ?_, ⟨B, R, E, pu_sig h hi (y := -1) (by decide) (by rw [li_m1]; omega)⟩, Or.inl ⟨?_, rfl⟩⟩
      · rw [em]; unfold mM_sign_j15 mM_sign_j32; rw [if_pos rfl, hgo]
      · show cR_sign G (nI i) (-1) = _
        rw [ec, if_pos rfl, hgc]; rfl
    · rcases b1 with ⟨e1, h0, h1⟩ | ⟨e1, h1⟩ <;> rcases b2 with ⟨e2, h2⟩ | ⟨e2, h2⟩
      · refine ⟨0, 0, _, (M.2 8 i, gs_sa (gs_sv M 0 0) 8 (nI i) y), ?_, ⟨B, R, E, pu_sig h hi (y := y) (by omega) h1⟩, Or.inl ⟨?_, rfl⟩⟩
        · rw [em]; unfold mM_sign_j15 mM_sign_j32; rw [if_neg hy, e2]; simp only [Option.bind_some]; rw [if_neg (by decide), hgo]
        · show cR_sign G (nI i) y = _
          rw [ec, if_neg hy, e1]; simp only [Option.bind_some]; rw [if_neg (by decide), hgc]; rfl
      · exact absurd ⟨h0, h1⟩ h2
      · exact absurd h2 h1
      · refine ⟨0, 0, G, (0, gs_sv M 0 2), ?_, ⟨B, R, E, rl_thrown 2 h⟩, Or.inr ⟨(1, 2), by simp, ?_, rfl⟩⟩
        · rw [em]; unfold mM_sign_j15 mM_sign_j33; rw [if_neg hy, e2]; simp [mM_refuses]
        · show cR_sign G (nI i) y = _
          rw [ec, if_neg hy, e1]; simp
  · have hx4 : x < 0 ∨ ¬ x < 4 := by
      simp only [li_lt, li_0, li_4]
      omega
    have hx5 : x < 0 ∨ ¬ x ≤ 3 := by
      simp only [li_lt, li_le, li_0, li_3]
      omega
    refine ⟨0, 0, G, (0, gs_sv M 0 1), ?_, ⟨B, R, E, rl_thrown 1 h⟩, Or.inr ⟨(2, 1), by simp, ?_, rfl⟩⟩
    · have e1 : mM_sign M x y = mM_sign_j15 M x y 1 := by
        unfold mM_sign mM_sign_j10
        by_cases h1 : x < 0
        · rw [if_pos h1]
        · rw [if_neg h1, if_neg (hx5.resolve_left h1)]
      rw [e1]
      unfold mM_sign_j15 mM_sign_j32 mM_sign_j33
      rcases b2 with ⟨e2, h2⟩ | ⟨e2, h2⟩ <;> simp [mM_refuses, e2]
    · unfold cR_sign
      by_cases h1 : x < 0
      · rw [if_pos h1]
      · rw [if_neg h1, if_neg (hx4.resolve_left h1)]
theorem pu_bar {G M : gs_T} {B R E : Nat} (h : rl_A G M B R E) (hB : B < 60) (x : Int32) : rl_A (gs_sv (gs_sa G 0 (nI B) x) 6 (nI (B + 1))) (gs_sv (gs_sa (gs_sv M 0 0) 0 (nI B) x) 1 (nI (B + 1))) (B + 1) R E := by
  obtain ⟨⟨s1, s2, s3, s4, s5, s6, s7, s8, s9⟩, hj, hd, hw, hf⟩ := h
  unfold rl_A rl_S rl_J rl_D rl_W rl_F at *
  simp only [sv_1, sv_2, sa_1, sa_2, reduceIte, Nat.reduceEqDiff] at *
  refine ⟨⟨⟨trivial, by omega, s1.2.2⟩, ?_, s3, s4, s5, s6, s7, s8, ?_⟩, ⟨?_, ?_⟩, ?_, ?_, hf⟩
  · intro r hr
    have := s2 r hr
    omega
  · intro k hk
    have := s9 k hk
    omega
  · rw [hj.1]
    have e : rj_cnt (M.2 9) (B + 1) = rj_cnt (M.2 9) B + (if M.2 9 B = 0 then 0 else 1) := rfl
    rcases hj.2 B hB with h1 | h1
    · rw [e, if_pos h1.1]; rfl
    · exact absurd h1.2.2.2.2 (Nat.lt_irrefl _)
  · intro b hb
    rcases hj.2 b hb with h1 | h1
    · exact Or.inl h1
    · exact Or.inr ⟨h1.1, h1.2.1, h1.2.2.1, h1.2.2.2.1, by omega⟩
  · obtain ⟨d1, d2, d3, d4, d5, d6, d7, d8, d9, d10, d11, d12, d13, d14⟩ := hd
    exact ⟨trivial, d2, d3, by rw [d4], d5, d6, d7, d8, d9, d10, d11, d12, d13, d14⟩
  · obtain ⟨w1, w2, w3, w4, w5, w6, w7, w8, C, hC, w9, w10, w11⟩ := hw
    exact ⟨w1, w2, w3, w4, w5, w6, w7, w8, C, hC, w9, fun i hi => by have := w10 i hi; omega, w11⟩
theorem so_bar_ok (G M : gs_T) (h : rl_R G M) : so_bar rl_R G M := by
  obtain ⟨B, R, E, h⟩ := h
  intro x
  have hB := h.1.1.2.1
  have e6 := h.1.1.1
  have em := rl_bar h
  by_cases hb : B < 60
  · refine ⟨0, 0, _, (nI B, _), ?_, ⟨B + 1, R, E, pu_bar h hb x⟩, Or.inl ⟨?_, rfl⟩⟩
    · show mM_bar M x = _
      have hne : ¬ nI B = 60 := by
        intro e
        have := (nI_eq (a := B) (b := 60) (by omega) (by omega)).mp e
        omega
      simp only [mM_bar, mM_bar_j15, mM_refuses, em, if_neg hne, reduceIte, Option.bind_some, sv_1, Nat.reduceEqDiff, ck_nI _ hb (show 60 < 2 ^ 31 by decide), ← nI_succ, nI_pred]
      rfl
    · show cR_bar G x = _
      have hlt : nI B < 60 := nI_lt (b := 60) hb (by omega)
      simp only [cR_bar, cS_addBar, e6, if_pos hlt, ck_nI _ hb (show 60 < 2 ^ 31 by decide), Option.bind_some, ← nI_succ]
  · have hb2 : B = 60 := by omega
    subst hb2
    refine ⟨0, 0, G, (0, gs_sv M 0 1), ?_, ⟨60, R, E, rl_thrown 1 h⟩, Or.inr ⟨(0, 1), by simp, ?_, rfl⟩⟩
    · show mM_bar M x = _
      simp only [mM_bar, mM_bar_j15, mM_refuses, em, show nI 60 = 60 by decide, if_true, show ¬ (1 : Int32) = 0 by decide, if_false, Option.bind_some, reduceIte]
    · show cR_bar G x = _
      simp only [cR_bar, e6, show ¬ nI 60 < 60 by decide, if_false]
theorem pu_cnt_eq {h h' : Nat → Int32} : ∀ n : Nat, (∀ b, b < n → h b = h' b) → rj_cnt h n = rj_cnt h' n
  | 0, _ => rfl
  | n + 1, e => by
    have e1 : rj_cnt h (n + 1) = rj_cnt h n + (if h n = 0 then 0 else 1) := rfl
    have e2 : rj_cnt h' (n + 1) = rj_cnt h' n + (if h' n = 0 then 0 else 1) := rfl
    rw [e1, e2, pu_cnt_eq n (fun b hb => e b (by omega)), e n (by omega)]
theorem pu_cnt_up {h : Nat → Int32} {b : Nat} (hb : h b = 0) {x : Int32} (hx : x ≠ 0) : ∀ n : Nat, b < n → rj_cnt (upd h b x) n = rj_cnt h n + 1 := by
  intro n
  induction n with
  | zero => intro h; omega
  | succ n ih =>
    intro hn
    have e1 : rj_cnt h (n + 1) = rj_cnt h n + (if h n = 0 then 0 else 1) := rfl
    have e2 : rj_cnt (upd h b x) (n + 1) = rj_cnt (upd h b x) n + (if upd h b x n = 0 then 0 else 1) := rfl
    by_cases hbn : b = n
    · subst hbn
      rw [e1, e2, ud_s, if_neg hx, hb, if_pos rfl, pu_cnt_eq b (h := upd h b x) (h' := h) (fun c hc => ud_n h x (by omega))]
    · rw [e1, e2, ud_n h x (by omega), ih (by omega)]
      omega
theorem pu_cnt_same {h : Nat → Int32} {b : Nat} {x : Int32} (hb : h b ≠ 0) (hx : x ≠ 0) : ∀ n : Nat, rj_cnt (upd h b x) n = rj_cnt h n := by
  intro n
  induction n with
  | zero => rfl
  | succ n ih =>
    have e1 : rj_cnt h (n + 1) = rj_cnt h n + (if h n = 0 then 0 else 1) := rfl
    have e2 : rj_cnt (upd h b x) (n + 1) = rj_cnt (upd h b x) n + (if upd h b x n = 0 then 0 else 1) := rfl
    rw [e1, e2, ih]
    by_cases hbn : n = b
    · subst hbn
      rw [ud_s, if_neg hx, if_neg hb]
    · rw [ud_n h x hbn]
theorem pu_cnt_down {h : Nat → Int32} {b : Nat} (hb : h b ≠ 0) : ∀ n : Nat, b < n → rj_cnt (upd h b 0) n + 1 = rj_cnt h n := by
  intro n
  induction n with
  | zero => intro h; omega
  | succ n ih =>
    intro hn
    have e1 : rj_cnt h (n + 1) = rj_cnt h n + (if h n = 0 then 0 else 1) := rfl
    have e2 : rj_cnt (upd h b 0) (n + 1) = rj_cnt (upd h b 0) n + (if upd h b 0 n = 0 then 0 else 1) := rfl
    by_cases hbn : b = n
    · subst hbn
      rw [e1, e2, ud_s, if_pos rfl, if_neg hb, pu_cnt_eq b (h := upd h b 0) (h' := h) (fun c hc => ud_n h 0 (by omega))]
    · rw [e1, e2, ud_n h 0 (by omega), ← ih (by omega)]
      omega
theorem pu_n1 : vp_nar .boolean 1 = 1 := by decide
theorem pu_n0 : vp_nar .boolean 0 = 0 := by decide
theorem pu_jump {G M : gs_T} {B R E : Nat} (h : rl_A G M B R E) {b : Nat} (hb : b < B) {x y z j : Int32} (hx0 : 0 ≤ x.toInt) (hx1 : x.toInt ≤ 1) (hj9 : j = nI (rj_cnt (upd (M.2 9) b 1) B)) : rl_A (gs_sa (gs_sa (gs_sa (gs_sv G 9 j) 9 (nI b) x) 10 (nI b) y) 11 (nI b) z) (gs_sa (gs_sa (gs_sa (gs_sa (gs_sv M 0 0) 9 (nI b) 1) 10 (nI b) x) 11 (nI b) y) 12 (nI b) z) B R E := by
  obtain ⟨⟨s1, s2, s3, s4, s5, s6, s7, s8, s9⟩, hj, hd, hw, hf⟩ := h
  have hB := s1.2.1
  unfold rl_A rl_S rl_J rl_D rl_W rl_F at *
  simp only [sv_1, sv_2, sa_1, sa_2, reduceIte, Nat.reduceEqDiff, nI_clamp (show b < 2 ^ 31 by omega)] at *
  refine ⟨⟨s1, s2, s3, s4, s5, s6, s7, s8, s9⟩, ⟨hj9, ?_⟩, ?_, hw, hf⟩
  · intro c hc
    by_cases hcb : c = b
    · subst hcb
      rw [ud_s, ud_s, ud_s]
      exact Or.inr ⟨by decide, rfl, hx0, hx1, hb⟩
    · rw [ud_n _ _ hcb, ud_n _ _ hcb, ud_n _ _ hcb]
      exact hj.2 c hc
  · obtain ⟨d1, d2, d3, d4, d5, d6, d7, d8, d9, d10, d11, d12, d13, d14⟩ := hd
    exact ⟨d1, d2, d3, d4, d5, d6, d7, d8, d9, d10, d11, d12, by rw [d13], by rw [d14]⟩
theorem pu_sv9 (G : gs_T) : gs_sv G 9 (G.1 9) = G := by
  obtain ⟨a, b⟩ := G
  show (va_up a 9 (a 9), b) = (a, b)
  congr 1
  funext k
  unfold va_up
  split
  · rename_i h; rw [h]
  · rfl
theorem so_jump_ok (G M : gs_T) (h : rl_R G M) : so_jump rl_R G M := by
  obtain ⟨B, R, E, h⟩ := h
  intro x y z w hw
  have hB := h.1.1.2.1
  have b1 := ez_hasBar h.1.1.1 hB x
  have b2 := ez_isBar (rl_bar h) hB x
  have hbad : (y < 0 ∨ 1 < y ∨ z < 0 ∨ ¬ z ≤ 2) ∨ (¬ y < 0 ∧ ¬ 1 < y ∧ ¬ z < 0 ∧ z ≤ 2) := by
    by_cases h1 : y < 0
    · exact Or.inl (Or.inl h1)
    · by_cases h2 : 1 < y
      · exact Or.inl (Or.inr (Or.inl h2))
      · by_cases h3 : z < 0
        · exact Or.inl (Or.inr (Or.inr (Or.inl h3)))
        · by_cases h4 : z ≤ 2
          · exact Or.inr ⟨h1, h2, h3, h4⟩
          · exact Or.inl (Or.inr (Or.inr (Or.inr h4)))
  have hj14b : ∀ s : Int32, (y < 0 ∨ 1 < y ∨ z < 0 ∨ ¬ z ≤ 2) → mM_jump_j14 M x y z w s = mM_jump_j37 M x y z w s 1 := by
    intro s hb
    unfold mM_jump_j14 mM_jump_j32
    by_cases h1 : y < 0
    · rw [if_pos h1]
    · rw [if_neg h1]
      by_cases h2 : 1 < y
      · rw [if_pos h2]
      · rw [if_neg h2]
        by_cases h3 : z < 0
        · rw [if_pos h3]
        · rw [if_neg h3]
          by_cases h4 : z ≤ 2
          · exact absurd hb (by simp only [h1, h2, h3, h4]; decide)
          · rw [if_neg h4]
  have hj14g : ∀ s : Int32, (¬ y < 0 ∧ ¬ 1 < y ∧ ¬ z < 0 ∧ z ≤ 2) → mM_jump_j14 M x y z w s = mM_jump_j37 M x y z w s 0 := by
    intro s hb
    unfold mM_jump_j14
    rw [if_neg hb.1, if_neg hb.2.1, if_neg hb.2.2.1, if_pos hb.2.2.2]
  rcases b1 with ⟨e1, h0, h1⟩ | ⟨e1, h1⟩ <;> rcases b2 with ⟨e2, h2⟩ | ⟨e2, h2⟩
  · rcases hbad with hbad | hgood
    · refine ⟨0, 0, G, gs_sv M 0 2, ?_, ⟨B, R, E, rl_thrown 2 h⟩, Or.inr ⟨(2, 2), by simp, ?_, rfl⟩⟩
      · show mM_jump M x y z w = _
        unfold mM_jump
        simp only [e2, Option.bind_some, if_neg (show ¬ (1 : Int32) = 0 by decide), hj14b 0 hbad]
        simp [mM_jump_j37, mM_refuses]
      · show cR_jump G x y z w = _
        unfold cR_jump
        simp only [e1, Option.bind_some, if_neg (show ¬ (1 : Int32) = 0 by decide)]
        by_cases h1 : y < 0
        · rw [if_pos h1]
        · rw [if_neg h1]
          by_cases h2 : 1 < y
          · rw [if_pos h2]
          · rw [if_neg h2]
            by_cases h3 : z < 0
            · rw [if_pos h3]
            · rw [if_neg h3]
              by_cases h4 : z ≤ 2
              · exact absurd hbad (by simp only [h1, h2, h3, h4]; decide)
              · rw [if_neg h4]
    · obtain ⟨b, hb, rfl⟩ := ez_nb h0 h1 hB
      have hy0 : 0 ≤ y.toInt := by have := hgood.1; rw [li_lt, li_0] at this; omega
      have hy1 : y.toInt ≤ 1 := by have := hgood.2.1; rw [li_lt, li_1] at this; omega
      have hb60 : b < 60 := by omega
      have hb31 : b < 2 ^ 31 := by omega
      have hnw : vp_nar .boolean w = w := by rcases hw with rfl | rfl <;> decide
      have em : mM_jump M (nI b) y z w = some (gs_sa (gs_sa (gs_sa (gs_sa (gs_sv M 0 0) 9 (nI b) 1) 10 (nI b) y) 11 (nI b) z) 12 (nI b) w) := by
        unfold mM_jump
        simp only [e2, Option.bind_some, if_neg (show ¬ (1 : Int32) = 0 by decide), hj14g 0 hgood]
        simp only [mM_jump_j37, mM_refuses, reduceIte, Option.bind_some, ck_nI _ hb60 (show 60 < 2 ^ 31 by decide), pu_n1, hnw]
      obtain ⟨j1, j2⟩ := h.2.1
      have ec : cR_jump G (nI b) y z w = (cS_putJump G (nI b) y z w).bind fun q2 => some (.inl (), q2) := by
        unfold cR_jump
        simp only [e1, Option.bind_some, if_neg (show ¬ (1 : Int32) = 0 by decide), if_neg hgood.1, if_neg hgood.2.1, if_neg hgood.2.2.1, if_pos hgood.2.2.2]
      rcases j2 b hb60 with ⟨q1, q2⟩ | ⟨q1, q2, q3, q4, q5⟩
      · refine ⟨0, 0, _, _, em, ⟨B, R, E, pu_jump h hb (j := nI (rj_cnt (M.2 9) B + 1)) hy0 hy1 (by rw [pu_cnt_up q1 (by decide) B hb])⟩, Or.inl ⟨?_, rfl⟩⟩
        show cR_jump G (nI b) y z w = _
        rw [ec]
        simp only [cS_putJump, cS_hasJump, cS_putJump_j18, ck_nI _ hb60 (show 60 < 2 ^ 31 by decide), ga_nI _ _ hb31, q2, reduceIte, Option.bind_some, hnw, j1, ← nI_succ]
      · refine ⟨0, 0, _, _, em, ⟨B, R, E, pu_jump h hb (j := G.1 9) hy0 hy1 (by rw [pu_cnt_same q1 (by decide) B, j1])⟩, Or.inl ⟨?_, rfl⟩⟩
        show cR_jump G (nI b) y z w = _
        have hne : ¬ G.2 9 b = -1 := by rw [li_eq, li_m1]; omega
        rw [ec, pu_sv9]
        simp only [cS_putJump, cS_hasJump, cS_putJump_j18, ck_nI _ hb60 (show 60 < 2 ^ 31 by decide), ga_nI _ _ hb31, if_neg hne, Option.bind_some, hnw, if_neg (show ¬ (1 : Int32) = 0 by decide)]
  · exact absurd ⟨h0, h1⟩ h2
  · exact absurd h2 h1
  · refine ⟨0, 0, G, gs_sv M 0 1, ?_, ⟨B, R, E, rl_thrown 1 h⟩, Or.inr ⟨(1, 1), by simp, ?_, rfl⟩⟩
    · show mM_jump M x y z w = _
      unfold mM_jump
      simp only [e2, Option.bind_some, reduceIte]
      rcases hbad with hbad | hgood
      · rw [hj14b 1 hbad]; simp [mM_jump_j37, mM_refuses]
      · rw [hj14g 1 hgood]; simp [mM_jump_j37, mM_refuses]
    · show cR_jump G x y z w = _
      unfold cR_jump
      simp only [e1, Option.bind_some, reduceIte]
theorem pu_plain {G M : gs_T} {B R E : Nat} (h : rl_A G M B R E) {b : Nat} (hb : b < B) (hne : M.2 9 b ≠ 0) : rl_A (gs_sv (gs_sa G 9 (nI b) (-1)) 9 (G.1 9 - 1)) (gs_sa (gs_sv M 0 0) 9 (nI b) 0) B R E := by
  obtain ⟨⟨s1, s2, s3, s4, s5, s6, s7, s8, s9⟩, hj, hd, hw, hf⟩ := h
  have hB := s1.2.1
  unfold rl_A rl_S rl_J rl_D rl_W rl_F at *
  simp only [sv_1, sv_2, sa_1, sa_2, reduceIte, Nat.reduceEqDiff, nI_clamp (show b < 2 ^ 31 by omega)] at *
  refine ⟨⟨s1, s2, s3, s4, s5, s6, s7, s8, s9⟩, ⟨?_, ?_⟩, hd, hw, hf⟩
  · rw [hj.1, ← pu_cnt_down hne B hb, nI_pred]
  · intro c hc
    by_cases hcb : c = b
    · subst hcb
      rw [ud_s, ud_s]
      exact Or.inl ⟨rfl, rfl⟩
    · rw [ud_n _ _ hcb, ud_n _ _ hcb]
      exact hj.2 c hc
theorem so_plain_ok (G M : gs_T) (h : rl_R G M) : so_plain rl_R G M := by
  obtain ⟨B, R, E, h⟩ := h
  intro x
  have hB := h.1.1.2.1
  have b1 := ez_hasBar h.1.1.1 hB x
  have b2 := ez_isBar (rl_bar h) hB x
  rcases b1 with ⟨e1, h0, h1⟩ | ⟨e1, h1⟩ <;> rcases b2 with ⟨e2, h2⟩ | ⟨e2, h2⟩
  · obtain ⟨b, hb, rfl⟩ := ez_nb h0 h1 hB
    have hb60 : b < 60 := by omega
    have hb31 : b < 2 ^ 31 := by omega
    rcases h.2.1.2 b hb60 with ⟨q1, q2⟩ | ⟨q1, q2, q3, q4, q5⟩
    · refine ⟨0, 0, G, gs_sv M 0 2, ?_, ⟨B, R, E, rl_thrown 2 h⟩, Or.inr ⟨(0, 2), by simp, ?_, rfl⟩⟩
      · show mM_plain M (nI b) = _
        simp only [mM_plain, mM_plain_j14, e2, Option.bind_some, if_neg (show ¬ (1 : Int32) = 0 by decide), ck_nI _ hb60 (show 60 < 2 ^ 31 by decide), ga_nI _ _ hb31, q1, mM_refuses, reduceIte]
      · show cR_plain G (nI b) = _
        simp only [cR_plain, cS_hasJump, e1, Option.bind_some, if_neg (show ¬ (1 : Int32) = 0 by decide), ck_nI _ hb60 (show 60 < 2 ^ 31 by decide), ga_nI _ _ hb31, q2, reduceIte]
    · have hne : ¬ G.2 9 b = -1 := by rw [li_eq, li_m1]; omega
      refine ⟨0, 0, _, _, ?_, ⟨B, R, E, pu_plain h hb q1⟩, Or.inl ⟨?_, rfl⟩⟩
      · show mM_plain M (nI b) = _
        simp only [mM_plain, mM_plain_j14, e2, Option.bind_some, if_neg (show ¬ (1 : Int32) = 0 by decide), ck_nI _ hb60 (show 60 < 2 ^ 31 by decide), ga_nI _ _ hb31, if_neg q1, mM_refuses, reduceIte, pu_n0]
      · show cR_plain G (nI b) = _
        simp only [cR_plain, cS_hasJump, cS_takeJump, e1, Option.bind_some, if_neg (show ¬ (1 : Int32) = 0 by decide), ck_nI _ hb60 (show 60 < 2 ^ 31 by decide), ga_nI _ _ hb31, if_neg hne]
  · exact absurd ⟨h0, h1⟩ h2
  · exact absurd h2 h1
  · refine ⟨0, 0, G, gs_sv M 0 1, ?_, ⟨B, R, E, rl_thrown 1 h⟩, Or.inr ⟨(1, 1), by simp, ?_, rfl⟩⟩
    · show mM_plain M x = _
      simp only [mM_plain, mM_plain_j14, e2, Option.bind_some, mM_refuses, reduceIte, if_neg (show ¬ (1 : Int32) = 0 by decide)]
    · show cR_plain G x = _
      simp only [cR_plain, e1, Option.bind_some, reduceIte]
