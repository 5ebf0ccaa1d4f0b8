/-! ===== own: repeat ===== -/
theorem nI_dec (m : Nat) : nI (m + 1) + (-1) = nI m := by
  rw [nI_succ, Int32.add_assoc, show (1 : Int32) + -1 = 0 by decide, Int32.add_zero]
theorem nI_mul3 {c : Nat} (hc : c < 100) : nI c * 3 = nI (3 * c) := by
  have e := nI_toInt (n := c) (by omega)
  refine li_nI (by omega) ?_
  rw [li_mul] <;> rw [e, li_3] <;> omega
theorem ra_chain_congr {f t a d a' d' : Nat → Int32} {R b : Nat} (ha : ∀ lv, lv < 3 → a' (3 * b + lv) = a (3 * b + lv)) (hd : d' b = d b) (h : rc_chain f t a d R b) : rc_chain f t a' d' R b := by
  obtain ⟨n, h1, h2, h3, h4, h5, h6⟩ := h
  have hc : ∀ lv, lv < n → rc_ch a' b lv = rc_ch a b lv := fun lv hl => by unfold rc_ch; rw [ha lv (by omega)]
  refine ⟨n, h1, hd.trans h2, h3, fun lv hl => ?_, fun u v hu hv => ?_, fun r hr h7 h8 => ?_⟩
  · rw [hc lv hl, ha lv (by omega)]
    exact h4 lv hl
  · rw [hc u (by omega), hc v hv]
    exact h5 u v hu hv
  · obtain ⟨lv, hl, e⟩ := h6 r hr h7 h8
    exact ⟨lv, hl, by rw [hc lv hl]; exact e⟩
theorem ra_within {G : gs_T} {r s : Nat} (hr : r < 20) (hs : s < 20) : (cS_isRepeatWithin G (nI r) (nI s) = some 1 ∧ ((G.2 1 s).toInt ≤ (G.2 1 r).toInt ∧ (G.2 2 r).toInt ≤ (G.2 2 s).toInt)) ∨ (cS_isRepeatWithin G (nI r) (nI s) = some 0 ∧ ¬ ((G.2 1 s).toInt ≤ (G.2 1 r).toInt ∧ (G.2 2 r).toInt ≤ (G.2 2 s).toInt)) := by
  unfold cS_isRepeatWithin
  simp only [ck_nI _ hr (show 20 < 2 ^ 31 by decide), ck_nI _ hs (show 20 < 2 ^ 31 by decide), ga_nI _ _ (show r < 2 ^ 31 by omega), ga_nI _ _ (show s < 2 ^ 31 by omega)]
  rcases te_within G (G.2 1 r) (G.2 2 r) (G.2 1 s) (G.2 2 s) with ⟨e, h⟩ | ⟨e, h⟩
  · exact Or.inl ⟨by rw [e]; rfl, h⟩
  · exact Or.inr ⟨by rw [e]; rfl, h⟩
/-- the shifting -/
theorem ra_shift (n : Nat) {G : gs_T} {c d R : Nat} (hc : c < 60) (hd : d ≤ 2) (hR : R < 20) (hdep : G.2 13 c = nI d) (hch : ∀ lv, lv < d → rc_ch (G.2 12) c lv < R ∧ G.2 12 (3 * c + lv) = nI (rc_ch (G.2 12) c lv)) :
    ∀ (j k : Nat) (G' : gs_T), j ≤ d → j < k → G'.1 = G.1 → (∀ q, q ≠ 12 → G'.2 q = G.2 q) → (∀ lv, lv < j → G'.2 12 (3 * c + lv) = G.2 12 (3 * c + lv)) →
    (∀ lv, j ≤ lv → lv < d → G'.2 12 (3 * c + (lv + 1)) = G.2 12 (3 * c + lv) ∧ ((G.2 1 R).toInt ≤ (G.2 1 (rc_ch (G.2 12) c lv)).toInt ∧ (G.2 2 (rc_ch (G.2 12) c lv)).toInt ≤ (G.2 2 R).toInt)) → (∀ q, q < 3 * c ∨ 3 * c + 3 ≤ q → G'.2 12 q = G.2 12 q) →
    ∃ (G'' : gs_T) (j' : Nat), j' ≤ j ∧ cS_putAround_14 n (nI c) (nI R) (nI (3 * c)) k (nI (3 * c + j)) G' = some G'' ∧ G''.1 = G.1 ∧ (∀ q, q ≠ 12 → q ≠ 13 → G''.2 q = G.2 q) ∧ G''.2 13 = upd (G.2 13) c (nI (d + 1)) ∧
      (∀ lv, lv < j' → G''.2 12 (3 * c + lv) = G.2 12 (3 * c + lv)) ∧ G''.2 12 (3 * c + j') = nI R ∧
      (∀ lv, j' ≤ lv → lv < d → G''.2 12 (3 * c + (lv + 1)) = G.2 12 (3 * c + lv) ∧ ((G.2 1 R).toInt ≤ (G.2 1 (rc_ch (G.2 12) c lv)).toInt ∧ (G.2 2 (rc_ch (G.2 12) c lv)).toInt ≤ (G.2 2 R).toInt)) ∧
      (j' = 0 ∨ ∃ u, j' = u + 1 ∧ ¬ ((G.2 1 R).toInt ≤ (G.2 1 (rc_ch (G.2 12) c u)).toInt ∧ (G.2 2 (rc_ch (G.2 12) c u)).toInt ≤ (G.2 2 R).toInt)) ∧ (∀ q, q < 3 * c ∨ 3 * c + 3 ≤ q → G''.2 12 q = G.2 12 q) := by
  intro j
  induction j with
  | zero =>
    intro k G' h1 h2 e1 e2 e3 e4 e5
    obtain ⟨k, rfl⟩ : ∃ q, k = q + 1 := ⟨k - 1, by omega⟩
    refine ⟨gs_sa (gs_sa G' 12 (nI (3 * c)) (nI R)) 13 (nI c) (nI d + 1), 0, Nat.le_refl 0, ?_, e1, ?_, ?_, fun lv h => by omega, ?_, ?_, Or.inl rfl, ?_⟩
    · have hg : gs_a G' 13 (nI c) = nI d := by rw [ga_nI _ _ (by omega), e2 13 (by decide), hdep]
      simp only [cS_putAround_14, Nat.add_zero, if_pos (Int32.le_refl _), ck_nI _ (show 3 * c < 180 by omega) (show 180 < 2 ^ 31 by decide), ck_nI _ hc (show 60 < 2 ^ 31 by decide), hg]
    · intro q h3 h4
      simp only [sa_2, if_neg h3, if_neg h4]
      exact e2 q h3
    · simp only [sa_2, reduceIte, Nat.reduceEqDiff, nI_clamp (show c < 2 ^ 31 by omega), e2 13 (by decide), ← nI_succ]
    · simp only [sa_2, reduceIte, Nat.reduceEqDiff, nI_clamp (show 3 * c < 2 ^ 31 by omega)]
      exact ud_s _ _ _
    · intro lv h3 h4
      simp only [sa_2, reduceIte, Nat.reduceEqDiff, nI_clamp (show 3 * c < 2 ^ 31 by omega)]
      rw [ud_n _ _ (by omega)]
      exact e4 lv h3 h4
    · intro q h3
      simp only [sa_2, reduceIte, Nat.reduceEqDiff, nI_clamp (show 3 * c < 2 ^ 31 by omega)]
      rw [ud_n _ _ (by omega)]
      exact e5 q h3
  | succ j ih =>
    intro k G' h1 h2 e1 e2 e3 e4 e5
    obtain ⟨k, rfl⟩ : ∃ q, k = q + 1 := ⟨k - 1, by omega⟩
    have hu := hch j (by omega)
    have hp : nI (3 * c + (j + 1)) - 1 = nI (3 * c + j) := nI_pred _
    have hr : gs_a G' 12 (nI (3 * c + j)) = nI (rc_ch (G.2 12) c j) := by rw [ga_nI _ _ (by omega), e3 j (by omega), hu.2]
    have hstep : cS_putAround_14 n (nI c) (nI R) (nI (3 * c)) (k + 1) (nI (3 * c + (j + 1))) G' = (cS_isRepeatWithin G' (nI (rc_ch (G.2 12) c j)) (nI R)).bind fun q1 => if q1 = 0 then some (gs_sa (gs_sa G' 12 (nI (3 * c + (j + 1))) (nI R)) 13 (nI c) (nI d + 1)) else cS_putAround_14 n (nI c) (nI R) (nI (3 * c)) k (nI (3 * c + j)) (gs_sa G' 12 (nI (3 * c + (j + 1))) (nI (rc_ch (G.2 12) c j))) := by
      have hg : gs_a G' 13 (nI c) = nI d := by rw [ga_nI _ _ (by omega), e2 13 (by decide), hdep]
      simp only [cS_putAround_14, if_neg (nI_ge (show 3 * c < 3 * c + (j + 1) by omega) (by omega)), hp, ck_nI _ (show 3 * c + j < 180 by omega) (show 180 < 2 ^ 31 by decide), ck_nI _ (show 3 * c + (j + 1) < 180 by omega) (show 180 < 2 ^ 31 by decide), ck_nI _ hc (show 60 < 2 ^ 31 by decide), hg, hr]
      rw [show 3 * c + (j + 1) = (3 * c + j) + 1 from rfl, nI_dec]
    have hw := ra_within (G := G') (r := rc_ch (G.2 12) c j) (s := R) (by omega) hR
    rw [e2 1 (by decide), e2 2 (by decide)] at hw
    rcases hw with ⟨e, hw⟩ | ⟨e, hw⟩
    · rw [hstep, e]
      simp only [Option.bind_some, if_neg (show ¬ (1 : Int32) = 0 by decide)]
      obtain ⟨G'', j', g1, g2⟩ := ih k (gs_sa G' 12 (nI (3 * c + (j + 1))) (nI (rc_ch (G.2 12) c j))) (by omega) (by omega) e1 (fun q h3 => by simp only [sa_2, if_neg h3]; exact e2 q h3) (fun lv h3 => by
          simp only [sa_2, reduceIte, nI_clamp (show 3 * c + (j + 1) < 2 ^ 31 by omega)]
          rw [ud_n _ _ (by omega)]
          exact e3 lv (by omega)) (fun lv h3 h4 => by
          simp only [sa_2, reduceIte, nI_clamp (show 3 * c + (j + 1) < 2 ^ 31 by omega)]
          by_cases hlv : lv = j
          · subst hlv
            rw [ud_s]
            exact ⟨hu.2.symm, hw⟩
          · rw [ud_n _ _ (by omega)]
            exact e4 lv (by omega) h4) (fun q h3 => by
          simp only [sa_2, reduceIte, nI_clamp (show 3 * c + (j + 1) < 2 ^ 31 by omega)]
          rw [ud_n _ _ (by omega)]
          exact e5 q h3)
      exact ⟨G'', j', by omega, g2⟩
    · rw [hstep, e]
      simp only [Option.bind_some, reduceIte]
      refine ⟨_, j + 1, Nat.le_refl _, rfl, e1, ?_, ?_, ?_, ?_, ?_, Or.inr ⟨j, rfl, hw⟩, ?_⟩
      · intro q h3 h4
        simp only [sa_2, if_neg h3, if_neg h4]
        exact e2 q h3
      · simp only [sa_2, reduceIte, Nat.reduceEqDiff, nI_clamp (show c < 2 ^ 31 by omega), e2 13 (by decide), ← nI_succ]
      · intro lv h3
        simp only [sa_2, reduceIte, Nat.reduceEqDiff, nI_clamp (show 3 * c + (j + 1) < 2 ^ 31 by omega)]
        rw [ud_n _ _ (by omega)]
        exact e3 lv h3
      · simp only [sa_2, reduceIte, Nat.reduceEqDiff, nI_clamp (show 3 * c + (j + 1) < 2 ^ 31 by omega)]
        exact ud_s _ _ _
      · intro lv h3 h4
        simp only [sa_2, reduceIte, Nat.reduceEqDiff, nI_clamp (show 3 * c + (j + 1) < 2 ^ 31 by omega)]
        rw [ud_n _ _ (by omega)]
        exact e4 lv h3 h4
      · intro q h3
        simp only [sa_2, reduceIte, Nat.reduceEqDiff, nI_clamp (show 3 * c + (j + 1) < 2 ^ 31 by omega)]
        rw [ud_n _ _ (by omega)]
        exact e5 q h3
/-- a bar within the new repeat R -/
theorem ra_put (n : Nat) (hn : 3 < n) {G : gs_T} {c R : Nat} (hc : c < 60) (hR : R < 20) (hch : rc_chain (G.2 1) (G.2 2) (G.2 12) (G.2 13) R c) (h3 : rc_cnt (G.2 1) (G.2 2) c R < 3) (h1 : (G.2 1 R).toInt ≤ c) (h2 : (c : Int) ≤ (G.2 2 R).toInt)
    (hlam : ∀ r, r < R → rc_lw (G.2 1 R).toInt (G.2 2 R).toInt (G.2 1 r).toInt (G.2 2 r).toInt ∧ ¬ ((G.2 1 r).toInt = (G.2 1 R).toInt ∧ (G.2 2 r).toInt = (G.2 2 R).toInt)) :
    ∃ G'' : gs_T, cS_putAround n G (nI c) (nI R) = some G'' ∧ G''.1 = G.1 ∧ (∀ q, q ≠ 12 → q ≠ 13 → G''.2 q = G.2 q) ∧ (∀ q, q ≠ c → G''.2 13 q = G.2 13 q) ∧ (∀ q, q < 3 * c ∨ 3 * c + 3 ≤ q → G''.2 12 q = G.2 12 q) ∧ rc_chain (G.2 1) (G.2 2) (G''.2 12) (G''.2 13) (R + 1) c := by
  obtain ⟨d, d1, d2, d3, d4, d5, d6⟩ := hch
  have hd2 : d ≤ 2 := by omega
  obtain ⟨G'', j', g1, g2, g3, g4, g5, g6, g7, g8, g9, g10⟩ := ra_shift n hc hd2 hR d2 (fun lv hl => ⟨(d4 lv hl).1, (d4 lv hl).2.1⟩) d n G (Nat.le_refl d) (by omega) rfl (fun _ _ => rfl) (fun _ _ => rfl) (fun lv h4 h5 => by omega) (fun _ _ => rfl)
  refine ⟨G'', ?_, g3, g4, fun q hq => by rw [g5]; exact ud_n _ _ hq, g10, d + 1, by omega, by rw [g5]; exact ud_s _ _ _, ?_, ?_, ?_, ?_⟩
  · unfold cS_putAround
    rw [ck_nI _ hc (by decide), ga_nI _ _ (by omega), d2, nI_mul3 (by omega), nI_add]
    exact g2
  · show d + 1 = rc_cnt (G.2 1) (G.2 2) c R + (if (G.2 1 R).toInt ≤ c ∧ (c : Int) ≤ (G.2 2 R).toInt then 1 else 0)
    rw [if_pos ⟨h1, h2⟩, d3]
  all_goals
    have k1 : ∀ lv, lv < j' → rc_ch (G''.2 12) c lv = rc_ch (G.2 12) c lv := fun lv hl => by unfold rc_ch; rw [g6 lv hl]
    have k2 : rc_ch (G''.2 12) c j' = R := by unfold rc_ch; rw [g7, nI_toInt (by omega)]; rfl
    have k3 : ∀ lv, j' ≤ lv → lv < d → rc_ch (G''.2 12) c (lv + 1) = rc_ch (G.2 12) c lv := fun lv h4 h5 => by unfold rc_ch; rw [(g8 lv h4 h5).1]
  · intro lv hl
    by_cases c1 : lv < j'
    · rw [k1 lv c1, g6 lv c1]
      have := d4 lv (by omega)
      exact ⟨by omega, this.2⟩
    · by_cases c2 : lv = j'
      · subst c2
        rw [k2]
        exact ⟨by omega, g7, h1, h2⟩
      · obtain ⟨u, rfl⟩ : ∃ u, lv = u + 1 := ⟨lv - 1, by omega⟩
        rw [k3 u (by omega) (by omega), (g8 u (by omega) (by omega)).1]
        have := d4 u (by omega)
        exact ⟨by omega, this.2⟩
  · -- the new repeat lies within those before it
    have hin : ∀ u, u < j' → (G.2 1 (rc_ch (G.2 12) c u)).toInt ≤ (G.2 1 R).toInt ∧ (G.2 2 R).toInt ≤ (G.2 2 (rc_ch (G.2 12) c u)).toInt := by
      intro u hu
      rcases g9 with h0 | ⟨w, h0, hw⟩
      · omega
      · have hu1 := d4 u (by omega)
        have hl := hlam _ hu1.1
        have hnw : ¬ ((G.2 1 R).toInt ≤ (G.2 1 (rc_ch (G.2 12) c u)).toInt ∧ (G.2 2 (rc_ch (G.2 12) c u)).toInt ≤ (G.2 2 R).toInt) := by
          by_cases huw : u = w
          · subst huw; exact hw
          · have h5 := d5 u w (by omega) (by omega)
            intro h6
            exact hw ⟨by omega, by omega⟩
        have hl1 := hl.1
        unfold rc_lw at hl1
        omega
    intro u v hu hv
    by_cases c1 : v < j'
    · rw [k1 u (by omega), k1 v c1]
      exact d5 u v hu (by omega)
    · by_cases c2 : v = j'
      · subst c2
        rw [k1 u hu, k2]
        have h4 := hin u hu
        have hl := hlam _ (d4 u (by omega)).1
        refine ⟨h4.1, h4.2, fun h5 => hl.2 ⟨h5.1, h5.2.symm⟩⟩
      · obtain ⟨v, rfl⟩ : ∃ w, v = w + 1 := ⟨v - 1, by omega⟩
        have h8 := g8 v (by omega) (by omega)
        rw [k3 v (by omega) (by omega)]
        by_cases c3 : u < j'
        · rw [k1 u c3]
          have h4 := hin u c3
          have h5 := h8.2
          have h6 := d5 u v (by omega) (by omega)
          refine ⟨by omega, by omega, h6.2.2⟩
        · by_cases c4 : u = j'
          · subst c4
            rw [k2]
            have hl := hlam _ (d4 v (by omega)).1
            refine ⟨h8.2.1, h8.2.2, fun h5 => hl.2 ⟨h5.1.symm, h5.2⟩⟩
          · obtain ⟨u, rfl⟩ : ∃ w, u = w + 1 := ⟨u - 1, by omega⟩
            rw [k3 u (by omega) (by omega)]
            exact d5 u v (by omega) (by omega)
  · intro r hr h7 h8
    by_cases hrR : r = R
    · subst hrR
      exact ⟨j', by omega, k2⟩
    · obtain ⟨lv, hl, e⟩ := d6 r (by omega) h7 h8
      by_cases c1 : lv < j'
      · exact ⟨lv, by omega, by rw [k1 lv c1]; exact e⟩
      · exact ⟨lv + 1, by omega, by rw [k3 lv (by omega) hl]; exact e⟩
theorem ra_cnt_congr {f t f' t' : Nat → Int32} (b : Int) : ∀ R : Nat, (∀ r, r < R → f' r = f r ∧ t' r = t r) → rc_cnt f' t' b R = rc_cnt f t b R
  | 0, _ => rfl
  | R + 1, h => by
    show rc_cnt f' t' b R + (if (f' R).toInt ≤ b ∧ b ≤ (t' R).toInt then 1 else 0) = rc_cnt f t b R + (if (f R).toInt ≤ b ∧ b ≤ (t R).toInt then 1 else 0)
    rw [ra_cnt_congr b R (fun r hr => h r (by omega)), (h R (by omega)).1, (h R (by omega)).2]
theorem ra_chain_f {f t f' t' a d : Nat → Int32} {R b : Nat} (he : ∀ r, r < R → f' r = f r ∧ t' r = t r) (h : rc_chain f t a d R b) : rc_chain f' t' a d R b := by
  obtain ⟨n, h1, h2, h3, h4, h5, h6⟩ := h
  refine ⟨n, h1, h2, by rw [ra_cnt_congr _ R he]; exact h3, fun lv hl => ?_, fun u v hu hv => ?_, fun r hr h7 h8 => ?_⟩
  · have := h4 lv hl
    rw [(he _ this.1).1, (he _ this.1).2]
    exact this
  · have q1 := (h4 u (by omega)).1
    have q2 := (h4 v hv).1
    rw [(he _ q1).1, (he _ q1).2, (he _ q2).1, (he _ q2).2]
    exact h5 u v hu hv
  · rw [(he r hr).1] at h7
    rw [(he r hr).2] at h8
    exact h6 r hr h7 h8
theorem ra_out {f t a d : Nat → Int32} {R b : Nat} (h : rc_chain f t a d R b) (ho : ¬ ((f R).toInt ≤ b ∧ (b : Int) ≤ (t R).toInt)) : rc_chain f t a d (R + 1) b := by
  obtain ⟨n, h1, h2, h3, h4, h5, h6⟩ := h
  refine ⟨n, h1, h2, ?_, fun lv hl => ?_, h5, fun r hr h7 h8 => ?_⟩
  · show n = rc_cnt f t b R + (if (f R).toInt ≤ b ∧ (b : Int) ≤ (t R).toInt then 1 else 0)
    rw [if_neg ho]
    exact h3
  · have := h4 lv hl
    exact ⟨by omega, this.2⟩
  · by_cases hrR : r = R
    · subst hrR
      exact absurd ⟨h7, h8⟩ ho
    · exact h6 r (by omega) h7 h8
/-- the new repeat is put around its bars -/
theorem ra_loop (n : Nat) (hn : 61 < n) {G : gs_T} {F T R : Nat} (hFT : F ≤ T) (hT : T < 60) (hR : R < 20) (h7 : G.1 7 = nI R) (hF : (G.2 1 R).toInt = F) (hTt : (G.2 2 R).toInt = T) (hch : ∀ b, b < 60 → rc_chain (G.2 1) (G.2 2) (G.2 12) (G.2 13) R b) (h3 : ∀ j : Nat, F ≤ j → j < T + 1 → rc_cnt (G.2 1) (G.2 2) j R < 3)
    (hlam : ∀ r, r < R → rc_lw (G.2 1 R).toInt (G.2 2 R).toInt (G.2 1 r).toInt (G.2 2 r).toInt ∧ ¬ ((G.2 1 r).toInt = (G.2 1 R).toInt ∧ (G.2 2 r).toInt = (G.2 2 R).toInt)) :
    ∃ G' : gs_T, cS_addRepeat_33 n (nI T) n (nI F) G = some (nI R, gs_sv G' 7 (nI (R + 1))) ∧ G'.1 = G.1 ∧ (∀ q, q ≠ 12 → q ≠ 13 → G'.2 q = G.2 q) ∧ ∀ b, b < 60 → rc_chain (G.2 1) (G.2 2) (G'.2 12) (G'.2 13) (R + 1) b := by
  have h := lp_for (fun k i G => cS_addRepeat_33 n (nI T) k i G) (T + 1)
    (fun i G' => G'.1 = G.1 ∧ (∀ q, q ≠ 12 → q ≠ 13 → G'.2 q = G.2 q) ∧ (∀ b, b < 60 → F ≤ b → b < i → rc_chain (G.2 1) (G.2 2) (G'.2 12) (G'.2 13) (R + 1) b) ∧ (∀ b, b < 60 → b < F ∨ i ≤ b → rc_chain (G.2 1) (G.2 2) (G'.2 12) (G'.2 13) R b) ∧ F ≤ i)
    (fun G' => some (nI R, gs_sv G' 7 (nI (R + 1))))
    (fun k G' hI => by
      obtain ⟨i1, i2, i3, i4⟩ := hI
      simp only [cS_addRepeat_33, if_pos (nI_lt (show T < T + 1 by omega) (by omega)), i1, h7, ← nI_succ])
    (fun k i G' hi hI => by
      obtain ⟨i1, i2, i3, i4, i5⟩ := hI
      have e1 := i2 1 (by decide) (by decide)
      have e2 := i2 2 (by decide) (by decide)
      obtain ⟨G'', p1, p2, p3, p4, p5, p6⟩ := ra_put n (by omega) (G := G') (c := i) (R := R) (by omega) hR (by rw [e1, e2]; exact i4 i (by omega) (Or.inr (Nat.le_refl i))) (by rw [e1, e2]; exact h3 i i5 hi) (by rw [e1, hF]; omega) (by rw [e2, hTt]; omega) (by rw [e1, e2]; exact hlam)
      rw [e1, e2] at p6
      refine ⟨G'', ⟨p2.trans i1, fun q h4 h5 => (p3 q h4 h5).trans (i2 q h4 h5), ?_, ?_, by omega⟩, ?_⟩
      · intro b hb hFb hbi
        by_cases hbe : b = i
        · subst hbe; exact p6
        · exact ra_chain_congr (fun lv hl => p5 _ (by omega)) (p4 b hbe) (i3 b hb hFb (by omega))
      · intro b hb hbi
        exact ra_chain_congr (fun lv hl => p5 _ (by omega)) (p4 b (by omega)) (i4 b hb (by omega))
      · simp only [cS_addRepeat_33, if_neg (nI_nlt (show i ≤ T by omega) (by omega)), i1, h7, p1, Option.bind_some, ← nI_succ])
    n F G (by omega) (by omega) ⟨rfl, fun _ _ _ => rfl, fun b _ h4 h5 => by omega, fun b hb _ => hch b hb, Nat.le_refl F⟩
  obtain ⟨G', ⟨i1, i2, i3, i4, i5⟩, h6⟩ := h
  refine ⟨G', h6, i1, i2, fun b hb => ?_⟩
  by_cases hin : F ≤ b ∧ b < T + 1
  · exact i3 b hb hin.1 hin.2
  · refine ra_out (i4 b hb (by omega)) (fun h => ?_)
    rw [hF, hTt] at h
    omega
