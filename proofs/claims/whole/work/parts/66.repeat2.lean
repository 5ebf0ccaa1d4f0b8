/-! ===== own: repeat, the call ===== -/
theorem rb_sym {a b c d : Int} (h : rc_lw a b c d) : rc_lw c d a b := by
  unfold rc_lw at *
  omega
theorem rb_takes {G : gs_T} {B R E : Nat} (h : rl_S G B R E) (n : Nat) (hn : 61 < n) {a b : Nat} (hab : a ≤ b) (hb : b < 60) :
    (cS_takesRepeat n G (nI a) (nI b) = some 1 ∧ ((∀ r, r < R → ¬ ((G.2 1 r).toInt = a ∧ (G.2 2 r).toInt = b) ∧ rc_lw a b (G.2 1 r).toInt (G.2 2 r).toInt) ∧ (∀ e, e < E → rc_lw a b (G.2 5 e).toInt (G.2 6 e).toInt) ∧ (∀ j : Nat, a ≤ j → j < b + 1 → rc_cnt (G.2 1) (G.2 2) j R < 3) ∧ R < 20)) ∨
    (cS_takesRepeat n G (nI a) (nI b) = some 0 ∧ ¬ ((∀ r, r < R → ¬ ((G.2 1 r).toInt = a ∧ (G.2 2 r).toInt = b) ∧ rc_lw a b (G.2 1 r).toInt (G.2 2 r).toInt) ∧ (∀ e, e < E → rc_lw a b (G.2 5 e).toInt (G.2 6 e).toInt) ∧ (∀ j : Nat, a ≤ j → j < b + 1 → rc_cnt (G.2 1) (G.2 2) j R < 3) ∧ R < 20)) := by
  obtain ⟨⟨s1, s2, s3, s4, s5, s6⟩, -, -, -, -, -, hch, -, -⟩ := h
  have ea := nI_toInt (n := a) (by omega)
  have eb := nI_toInt (n := b) (by omega)
  unfold cS_takesRepeat
  rw [s3]
  by_cases hR : R < 20
  · rw [if_neg (show ¬ (20 : Int32) ≤ nI R from nI_ge (b := 20) hR (by omega))]
    rcases te_byR s3 s4 n (by omega) (nI a) (nI b) with ⟨e1, h1⟩ | ⟨e1, h1⟩
    · rcases te_same s3 s4 n (by omega) (nI a) (nI b) with ⟨e2, h2⟩ | ⟨e2, h2⟩
      · rcases te_byE s5 s6 n (by omega) (nI a) (nI b) with ⟨e3, h3⟩ | ⟨e3, h3⟩
        · rcases te_depth n hn hab hb (fun q => rc_cnt (G.2 1) (G.2 2) q R) (fun q hq => by
            obtain ⟨d, d1, d2, d3, -⟩ := hch q hq
            rw [← d3]
            exact ⟨d2, d1⟩) with ⟨e4, h4⟩ | ⟨e4, h4⟩
          · refine Or.inl ⟨by rw [e1, e2, e3, e4]; rfl, fun r hr => ?_, fun e he => ?_, h4, hR⟩
            · have q1 := h1 r hr
              have q2 := h2 r hr
              rw [ea, eb] at q1 q2
              exact ⟨q2, q1⟩
            · have q1 := h3 e he
              rw [ea, eb] at q1
              exact q1
          · exact Or.inr ⟨by rw [e1, e2, e3, e4]; rfl, fun h => h4 h.2.2.1⟩
        · refine Or.inr ⟨by rw [e1, e2, e3]; rfl, fun h => h3 (fun e he => ?_)⟩
          rw [ea, eb]
          exact h.2.1 e he
      · refine Or.inr ⟨by rw [e1, e2]; rfl, fun h => h2 (fun r hr => ?_)⟩
        rw [ea, eb]
        exact (h.1 r hr).1
    · refine Or.inr ⟨by rw [e1]; rfl, fun h => h1 (fun r hr => ?_)⟩
      rw [ea, eb]
      exact (h.1 r hr).2
  · rw [if_pos (show (20 : Int32) ≤ nI R from nI_le (a := 20) (by omega) (by omega))]
    exact Or.inr ⟨rfl, fun h => hR h.2.2.2⟩
theorem rb_add {G M : gs_T} {B R E : Nat} (h : rl_A G M B R E) (n : Nat) (hn : 61 < n) {a b m : Nat} (hab : a ≤ b) (hb : b < B) (hm : 2 ≤ m ∧ m ≤ 4) (ht : (∀ r, r < R → ¬ ((G.2 1 r).toInt = a ∧ (G.2 2 r).toInt = b) ∧ rc_lw a b (G.2 1 r).toInt (G.2 2 r).toInt) ∧ (∀ e, e < E → rc_lw a b (G.2 5 e).toInt (G.2 6 e).toInt) ∧ (∀ j : Nat, a ≤ j → j < b + 1 → rc_cnt (G.2 1) (G.2 2) j R < 3) ∧ R < 20) :
    ∃ G' : gs_T, cS_addRepeat n G (nI a) (nI b) (nI m) = some (nI R, G') ∧ rl_A G' (gs_sv (gs_sa (gs_sa (gs_sa (gs_sv M 0 0) 1 (nI R) (nI a)) 2 (nI R) (nI b)) 3 (nI R) (nI m)) 2 (nI (R + 1))) B (R + 1) E := by
  obtain ⟨⟨⟨s1, s2, s3, s4, s5, s6⟩, t1, t2, t3, t4, t5, t6, t7, t8⟩, hj, hd, hw, hf⟩ := h
  obtain ⟨q1, q2, q3, q4⟩ := ht
  have ea := nI_toInt (n := a) (by omega)
  have eb := nI_toInt (n := b) (by omega)
  have em := nI_toInt (n := m) (by omega)
  have kf : ∀ r, r < R → upd (G.2 1) R (nI a) r = G.2 1 r ∧ upd (G.2 2) R (nI b) r = G.2 2 r := fun r hr => ⟨ud_n _ _ (by omega), ud_n _ _ (by omega)⟩
  have hcR : (nI R).toNatClampNeg = R := nI_clamp (by omega)
  obtain ⟨G', g1, g2, g3, g4⟩ := ra_loop n hn (G := gs_sa (gs_sa (gs_sa G 1 (nI R) (nI a)) 2 (nI R) (nI b)) 3 (nI R) (nI m)) (F := a) (T := b) (R := R) hab (by omega) q4 s3
    (by simp only [sa_2, reduceIte, Nat.reduceEqDiff, hcR, ud_s, ea]) (by simp only [sa_2, reduceIte, Nat.reduceEqDiff, hcR, ud_s, eb])
    (fun c hc => by simp only [sa_2, reduceIte, Nat.reduceEqDiff, hcR]; exact ra_chain_f kf (t6 c hc))
    (fun j h1 h2 => by simp only [sa_2, reduceIte, Nat.reduceEqDiff, hcR]; rw [ra_cnt_congr _ R kf]; exact q3 j h1 h2)
    (fun r hr => by
      simp only [sa_2, reduceIte, Nat.reduceEqDiff, hcR, ud_s, (kf r hr).1, (kf r hr).2, ea, eb]
      exact ⟨(q1 r hr).2, (q1 r hr).1⟩)
  simp only [sa_2, reduceIte, Nat.reduceEqDiff, hcR] at g4
  have gq : ∀ q, q ≠ 12 → q ≠ 13 → G'.2 q = (gs_sa (gs_sa (gs_sa G 1 (nI R) (nI a)) 2 (nI R) (nI b)) 3 (nI R) (nI m)).2 q := g3
  have gs1 : G'.1 = G.1 := g2
  refine ⟨gs_sv G' 7 (nI (R + 1)), ?_, ?_⟩
  · unfold cS_addRepeat
    rw [s3]
    simp only [ck_nI _ q4 (show 20 < 2 ^ 31 by decide)]
    exact g1
  · have x0 := gq 0 (by decide) (by decide)
    have x1 := gq 1 (by decide) (by decide)
    have x2 := gq 2 (by decide) (by decide)
    have x3 := gq 3 (by decide) (by decide)
    have x4 := gq 4 (by decide) (by decide)
    have x5 := gq 5 (by decide) (by decide)
    have x6 := gq 6 (by decide) (by decide)
    have x7 := gq 7 (by decide) (by decide)
    have x8 := gq 8 (by decide) (by decide)
    have x9 := gq 9 (by decide) (by decide)
    have x10 := gq 10 (by decide) (by decide)
    have x11 := gq 11 (by decide) (by decide)
    have x14 := gq 14 (by decide) (by decide)
    have x15 := gq 15 (by decide) (by decide)
    have x16 := gq 16 (by decide) (by decide)
    have x17 := gq 17 (by decide) (by decide)
    have x18 := gq 18 (by decide) (by decide)
    have x19 := gq 19 (by decide) (by decide)
    have x20 := gq 20 (by decide) (by decide)
    have x29 := gq 29 (by decide) (by decide)
    have x30 := gq 30 (by decide) (by decide)
    unfold rl_A rl_S rl_J rl_D rl_W rl_F at *
    simp only [sv_1, sv_2, sa_1, sa_2, reduceIte, Nat.reduceEqDiff, hcR, gs1, x0, x1, x2, x3, x4, x5, x6, x7, x8, x9, x10, x11, x14, x15, x16, x17, x18, x19, x20, x29, x30] at *
    refine ⟨⟨⟨s1, s2, trivial, by omega, s5, s6⟩, ?_, ?_, ?_, ?_, t5, g4, t7, t8⟩, hj, ?_, hw, hf⟩
    · intro r hr
      by_cases hrR : r = R
      · subst hrR
        simp only [ud_s, ea, eb, em]
        omega
      · rw [ud_n _ _ hrR, ud_n _ _ hrR, ud_n _ _ hrR]
        exact t1 r (by omega)
    · intro r s hr hs hrs
      by_cases hrR : r = R
      · subst hrR
        rw [(kf s (by omega)).1, (kf s (by omega)).2]
        simp only [ud_s, ea, eb]
        have := q1 s (by omega)
        exact ⟨this.2, fun h => this.1 ⟨h.1.symm, h.2.symm⟩⟩
      · by_cases hsR : s = R
        · subst hsR
          rw [(kf r (by omega)).1, (kf r (by omega)).2]
          simp only [ud_s, ea, eb]
          have := q1 r (by omega)
          exact ⟨rb_sym this.2, this.1⟩
        · rw [(kf r (by omega)).1, (kf r (by omega)).2, (kf s (by omega)).1, (kf s (by omega)).2]
          exact t2 r s (by omega) (by omega) hrs
    · intro e he
      obtain ⟨r, hr, h1⟩ := t3 e he
      refine ⟨r, by omega, ?_⟩
      rw [(kf r hr).1, (kf r hr).2]
      exact h1
    · intro e r he hr
      by_cases hrR : r = R
      · subst hrR
        simp only [ud_s, ea, eb]
        exact rb_sym (q2 e he)
      · rw [(kf r (by omega)).1, (kf r (by omega)).2]
        exact t4 e r he (by omega)
    · obtain ⟨d1, d2, d3, d4, d5, d6, d7, d8, d9, d10, d11, d12, d13, d14⟩ := hd
      exact ⟨d1, trivial, d3, d4, by rw [d5], by rw [d6], by rw [d7], d8, d9, d10, d11, d12, d13, d14⟩
theorem so_repeat_ok (G M : gs_T) (h : rl_R G M) : so_repeat rl_R G M := by
  obtain ⟨B, R, E, h⟩ := h
  intro x y z
  have hB := h.1.1.2.1
  have hS := h.1
  have b1 := ez_hasBar h.1.1.1 hB x
  have b2 := ez_isBar (rl_bar h) hB x
  have c1 := ez_hasBar h.1.1.1 hB y
  have c2 := ez_isBar (rl_bar h) hB y
  have d2 : M.1 2 = nI R := h.2.2.1.2.1.symm.trans h.1.1.2.2.1
  have d3 : M.1 3 = nI E := h.2.2.1.2.2.1.symm.trans h.1.1.2.2.2.2.1
  have j21 : ∀ s : Int32, ((z < 2 ∨ 4 < z ∨ y < x) → mM_repeat_j21 62 M x y z s = mM_repeat_j43 62 M x y z s 0) ∧ (¬ (z < 2 ∨ 4 < z ∨ y < x) → mM_repeat_j21 62 M x y z s = mM_repeat_j43 62 M x y z s 1) := by
    intro s
    unfold mM_repeat_j21 mM_repeat_j42
    by_cases h1 : z < 2
    · rw [if_pos h1]; exact ⟨fun _ => rfl, fun h => absurd (Or.inl h1) h⟩
    · rw [if_neg h1]
      by_cases h2 : 4 < z
      · rw [if_pos h2]; exact ⟨fun _ => rfl, fun h => absurd (Or.inr (Or.inl h2)) h⟩
      · rw [if_neg h2]
        by_cases h3 : y < x
        · rw [if_pos h3]; exact ⟨fun _ => rfl, fun h => absurd (Or.inr (Or.inr h3)) h⟩
        · rw [if_neg h3]; exact ⟨fun h => by simp only [h1, h2, h3, or_self] at h, fun _ => rfl⟩
  by_cases hbars : (0 ≤ x.toInt ∧ x.toInt < B) ∧ (0 ≤ y.toInt ∧ y.toInt < B)
  · have e1 : cS_hasBar G x = some 1 := by rcases b1 with h1 | h1; exact h1.1; exact absurd hbars.1 h1.2
    have e2 : mM_isBar M x = some 1 := by rcases b2 with h1 | h1; exact h1.1; exact absurd hbars.1 h1.2
    have e3 : cS_hasBar G y = some 1 := by rcases c1 with h1 | h1; exact h1.1; exact absurd hbars.2 h1.2
    have e4 : mM_isBar M y = some 1 := by rcases c2 with h1 | h1; exact h1.1; exact absurd hbars.2 h1.2
    have em : mM_repeat 62 M x y z = mM_repeat_j21 62 M x y z 1 := by
      unfold mM_repeat
      simp only [e2, e4, Option.bind_some, if_neg (show ¬ (1 : Int32) = 0 by decide)]
    by_cases hbad : z < 2 ∨ 4 < z ∨ y < x
    · refine ⟨62, 62, G, (0, gs_sv M 0 2), ?_, ⟨B, R, E, rl_thrown 2 h⟩, Or.inr ⟨(2, 2), by simp, ?_, rfl⟩⟩
      · show mM_repeat 62 M x y z = _
        rw [em, (j21 1).1 hbad]
        simp [mM_repeat_j43, mM_repeat_j56, mM_repeat_j66, mM_repeat_j89, mM_repeat_j90, mM_refuses]
      · show cR_repeat 62 G x y z = _
        unfold cR_repeat
        simp only [e1, e3, Option.bind_some, if_neg (show ¬ (1 : Int32) = 0 by decide)]
        by_cases h1 : z < 2
        · rw [if_pos h1]
        · rw [if_neg h1]
          by_cases h2 : 4 < z
          · rw [if_pos h2]
          · rw [if_neg h2]
            have h3 : y < x := (hbad.resolve_left h1).resolve_left h2
            rw [if_neg (by rw [li_le]; rw [li_lt] at h3; omega)]
    · obtain ⟨a, ha, rfl⟩ := ez_nb hbars.1.1 hbars.1.2 hB
      obtain ⟨b, hb, rfl⟩ := ez_nb hbars.2.1 hbars.2.2 hB
      have hz1 : ¬ z < 2 := fun h => hbad (Or.inl h)
      have hz2 : ¬ 4 < z := fun h => hbad (Or.inr (Or.inl h))
      have hz3 : ¬ nI b < nI a := fun h => hbad (Or.inr (Or.inr h))
      have hab : a ≤ b := by
        have := nI_ltI (a := b) (b := a) (by omega) (by omega)
        by_cases hlt : b < a
        · exact absurd (this.mpr hlt) hz3
        · omega
      have hz4 : 2 ≤ z.toInt ∧ z.toInt ≤ 4 := by
        rw [li_lt, li_2] at hz1
        rw [li_lt, li_4] at hz2
        omega
      obtain ⟨m, hm, rfl⟩ : ∃ m : Nat, (2 ≤ m ∧ m ≤ 4) ∧ z = nI m := ⟨z.toInt.toNat, by omega, li_nI (by omega) (by omega)⟩
      have ec : cR_repeat 62 G (nI a) (nI b) (nI m) = (cS_takesRepeat 62 G (nI a) (nI b)).bind fun q3 => if q3 = 0 then some (.inr 0, G) else (cS_addRepeat 62 G (nI a) (nI b) (nI m)).bind fun q4 => some ((.inl q4.1), q4.2) := by
        unfold cR_repeat
        simp only [e1, e3, Option.bind_some, if_neg (show ¬ (1 : Int32) = 0 by decide), if_neg hz1, if_neg hz2, if_pos (nI_le hab (by omega))]
      have em2 : mM_repeat 62 M (nI a) (nI b) (nI m) = (mM_mayRepeat 62 M (nI a) (nI b)).bind fun q1 => if q1 = 0 then mM_repeat_j90 62 M (nI a) (nI b) (nI m) 0 0 1 else mM_repeat_j90 62 M (nI a) (nI b) (nI m) 0 0 0 := by
        rw [em, (j21 1).2 hbad]
        simp only [mM_repeat_j43, mM_repeat_j56, mM_repeat_j66, mM_repeat_j89, if_neg (show ¬ (1 : Int32) = 0 by decide)]
      have tG := rb_takes hS 62 (by omega) hab (show b < 60 by omega)
      have tM := te_mR d2 hS.1.2.2.2.1 d3 hS.1.2.2.2.2.2 62 (by omega) hab (show b < 60 by omega)
      rw [← h.2.2.1.2.2.2.2.1, ← h.2.2.1.2.2.2.2.2.1, ← h.2.2.1.2.2.2.2.2.2.2.2.1, ← h.2.2.1.2.2.2.2.2.2.2.2.2.1] at tM
      rcases tG with ⟨g1, g2⟩ | ⟨g1, g2⟩ <;> rcases tM with ⟨m1, m2⟩ | ⟨m1, m2⟩
      · obtain ⟨G', g3, g4⟩ := rb_add h 62 (by omega) hab hb hm g2
        refine ⟨62, 62, G', (nI R, _), ?_, ⟨B, R + 1, E, g4⟩, Or.inl ⟨?_, rfl⟩⟩
        · show mM_repeat 62 M (nI a) (nI b) (nI m) = _
          have hR20 := g2.2.2.2
          rw [em2, m1]
          simp only [Option.bind_some, if_neg (show ¬ (1 : Int32) = 0 by decide), mM_repeat_j90, mM_refuses, reduceIte, sv_1, Nat.reduceEqDiff, d2, ck_nI _ hR20 (show 20 < 2 ^ 31 by decide), ← nI_succ, nI_pred]
          rfl
        · show cR_repeat 62 G (nI a) (nI b) (nI m) = _
          rw [ec, g1]
          simp only [Option.bind_some, if_neg (show ¬ (1 : Int32) = 0 by decide), g3]
      · exact absurd g2 m2
      · exact absurd m2 g2
      · refine ⟨62, 62, G, (0, gs_sv M 0 3), ?_, ⟨B, R, E, rl_thrown 3 h⟩, Or.inr ⟨(0, 3), by simp, ?_, rfl⟩⟩
        · show mM_repeat 62 M (nI a) (nI b) (nI m) = _
          rw [em2, m1]
          simp [mM_repeat_j90, mM_refuses]
        · show cR_repeat 62 G (nI a) (nI b) (nI m) = _
          rw [ec, g1]
          simp
  · refine ⟨62, 62, G, (0, gs_sv M 0 1), ?_, ⟨B, R, E, rl_thrown 1 h⟩, Or.inr ⟨(1, 1), by simp, ?_, rfl⟩⟩
    · show mM_repeat 62 M x y z = _
      have e : mM_repeat 62 M x y z = mM_repeat_j21 62 M x y z 0 := by
        unfold mM_repeat mM_repeat_j20
        rcases b2 with ⟨e2, h2⟩ | ⟨e2, h2⟩
        · rcases c2 with ⟨e4, h4⟩ | ⟨e4, h4⟩
          · exact absurd ⟨h2, h4⟩ hbars
          · simp only [e2, e4, Option.bind_some, if_neg (show ¬ (1 : Int32) = 0 by decide), reduceIte]
        · simp only [e2, Option.bind_some, reduceIte]
      rw [e]
      by_cases hbad : z < 2 ∨ 4 < z ∨ y < x
      · rw [(j21 0).1 hbad]
        simp [mM_repeat_j43, mM_repeat_j56, mM_repeat_j66, mM_repeat_j89, mM_repeat_j90, mM_refuses]
      · rw [(j21 0).2 hbad]
        simp [mM_repeat_j43, mM_repeat_j56, mM_repeat_j66, mM_repeat_j89, mM_repeat_j90, mM_refuses]
    · show cR_repeat 62 G x y z = _
      unfold cR_repeat
      rcases b1 with ⟨e1, h1⟩ | ⟨e1, h1⟩
      · rcases c1 with ⟨e3, h3⟩ | ⟨e3, h3⟩
        · exact absurd ⟨h1, h3⟩ hbars
        · simp only [e1, e3, Option.bind_some, if_neg (show ¬ (1 : Int32) = 0 by decide), reduceIte]
      · simp only [e1, Option.bind_some, reduceIte]
