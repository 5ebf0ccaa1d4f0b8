/-! ===== own: unfold: opening and leaving of repeats ===== -/
def uo_op (f t m p : Nat → Int32) (R b : Nat) (x : Int32) (r : Nat) : Int32 := if r < R ∧ (f r).toInt ≤ b ∧ (b : Int) ≤ (t r).toInt ∧ p r = 0 then (if x = 0 then 1 else m r) else p r
theorem uo_around {G : gs_T} {b lv : Nat} (hb : b < 60) (hl : lv < 3) (he : G.2 12 (3 * b + lv) = nI (rc_ch (G.2 12) b lv)) : cS_repeatAround G (nI b) (nI lv) = some (nI (rc_ch (G.2 12) b lv)) := by
  unfold cS_repeatAround
  rw [nI_mul3 (by omega), nI_add, ck_nI _ (by omega) (by decide), ga_nI _ _ (by omega), he]
theorem uo_class (n : Nat) (hn : 61 < n) {G : gs_T} {R b : Nat} (hR : R ≤ 20) (hb : b < 60) (hch : rc_chain (G.2 1) (G.2 2) (G.2 12) (G.2 13) R b) (x : Int32) :
    ∃ G' : gs_T, cW_openAround_31 n (nI b) x n 0 G = some G' ∧ G'.1 = G.1 ∧ (∀ q, q ≠ 21 → G'.2 q = G.2 q) ∧ ∀ r, r < 20 → G'.2 21 r = uo_op (G.2 1) (G.2 2) (G.2 3) (G.2 21) R b x r := by
  obtain ⟨d, d1, d2, d3, d4, d5, d6⟩ := hch
  have hne : ∀ u v, u < v → v < d → rc_ch (G.2 12) b u ≠ rc_ch (G.2 12) b v := by
    intro u v hu hv e
    have := d5 u v hu hv
    rw [e] at this
    exact this.2.2 ⟨rfl, rfl⟩
  have h := lp_for (fun k i G => cW_openAround_31 n (nI b) x k i G) d
    (fun i G' => G'.1 = G.1 ∧ (∀ q, q ≠ 21 → G'.2 q = G.2 q) ∧ (∀ lv, lv < i → G'.2 21 (rc_ch (G.2 12) b lv) = if G.2 21 (rc_ch (G.2 12) b lv) = 0 then (if x = 0 then 1 else G.2 3 (rc_ch (G.2 12) b lv)) else G.2 21 (rc_ch (G.2 12) b lv)) ∧ (∀ r, (∀ lv, lv < i → rc_ch (G.2 12) b lv ≠ r) → G'.2 21 r = G.2 21 r))
    (fun G' => some G')
    (fun k G' hI => by
      obtain ⟨i1, i2, i3, i4⟩ := hI
      simp only [cW_openAround_31, ck_nI _ hb (show 60 < 2 ^ 31 by decide), ga_nI _ _ (show b < 2 ^ 31 by omega), i2 13 (by decide), d2, if_pos (Int32.le_refl _)])
    (fun k i G' hi hI => by
      obtain ⟨i1, i2, i3, i4⟩ := hI
      have hc := d4 i hi
      have hr20 : rc_ch (G.2 12) b i < 20 := by omega
      have e12 := i2 12 (by decide)
      have ha : cS_repeatAround G' (nI b) (nI i) = some (nI (rc_ch (G.2 12) b i)) := by
        have := uo_around (G := G') (b := b) (lv := i) hb (by omega) (by rw [e12]; exact hc.2.1)
        rw [e12] at this
        exact this
      have hold : G'.2 21 (rc_ch (G.2 12) b i) = G.2 21 (rc_ch (G.2 12) b i) := i4 _ (fun lv hl => hne lv i hl hi)
      have hr31 : rc_ch (G.2 12) b i < 2 ^ 31 := by omega
      have hstep : cW_openAround_31 n (nI b) x (k + 1) (nI i) G' = if G.2 21 (rc_ch (G.2 12) b i) = 0 then cW_openAround_31 n (nI b) x k (nI (i + 1)) (gs_sa G' 21 (nI (rc_ch (G.2 12) b i)) (if x = 0 then 1 else G.2 3 (rc_ch (G.2 12) b i))) else cW_openAround_31 n (nI b) x k (nI (i + 1)) G' := by
        simp only [cW_openAround_31, ck_nI _ hb (show 60 < 2 ^ 31 by decide), ga_nI _ _ (show b < 2 ^ 31 by omega), i2 13 (by decide), d2, if_neg (nI_ge hi (by omega)), ha, Option.bind_some, ck_nI _ hr20 (show 20 < 2 ^ 31 by decide), ga_nI _ _ hr31, hold, i2 3 (by decide), ← nI_succ]
        by_cases hx : x = 0
        · rw [if_pos hx, if_pos hx]
        · rw [if_neg hx, if_neg hx]
      by_cases hp : G.2 21 (rc_ch (G.2 12) b i) = 0
      · refine ⟨gs_sa G' 21 (nI (rc_ch (G.2 12) b i)) (if x = 0 then 1 else G.2 3 (rc_ch (G.2 12) b i)), ⟨i1, fun q hq => ?_, fun lv hl => ?_, fun r hr => ?_⟩, by rw [hstep, if_pos hp]⟩
        · simp only [sa_2, if_neg hq]
          exact i2 q hq
        · simp only [sa_2, reduceIte, nI_clamp hr31]
          by_cases hle : lv = i
          · subst hle
            rw [ud_s, if_pos hp]
          · rw [ud_n _ _ (hne lv i (by omega) hi)]
            exact i3 lv (by omega)
        · simp only [sa_2, reduceIte, nI_clamp hr31]
          rw [ud_n _ _ (fun e => hr i (by omega) e.symm)]
          exact i4 r (fun lv hl => hr lv (by omega))
      · refine ⟨G', ⟨i1, i2, fun lv hl => ?_, fun r hr => i4 r (fun lv hl => hr lv (by omega))⟩, by rw [hstep, if_neg hp]⟩
        by_cases hle : lv = i
        · subst hle
          rw [hold, if_neg hp]
        · exact i3 lv (by omega))
    n 0 G (by omega) (by omega) ⟨rfl, fun _ _ => rfl, fun lv hl => by omega, fun _ _ => rfl⟩
  obtain ⟨G', ⟨i1, i2, i3, i4⟩, h6⟩ := h
  rw [← li_n0] at h6
  refine ⟨G', h6, i1, i2, fun r hr => ?_⟩
  unfold uo_op
  by_cases hin : r < R ∧ (G.2 1 r).toInt ≤ b ∧ (b : Int) ≤ (G.2 2 r).toInt
  · obtain ⟨lv, hl, e⟩ := d6 r hin.1 hin.2.1 hin.2.2
    have := i3 lv hl
    rw [e] at this
    rw [this]
    by_cases hp : G.2 21 r = 0
    · have hc : r < R ∧ (G.2 1 r).toInt ≤ b ∧ (b : Int) ≤ (G.2 2 r).toInt ∧ G.2 21 r = 0 := ⟨hin.1, hin.2.1, hin.2.2, hp⟩
      rw [if_pos hp, if_pos hc]
    · have hc : ¬ (r < R ∧ (G.2 1 r).toInt ≤ b ∧ (b : Int) ≤ (G.2 2 r).toInt ∧ G.2 21 r = 0) := fun h => hp h.2.2.2
      rw [if_neg hp, if_neg hc]
  · rw [if_neg (fun h => hin ⟨h.1, h.2.1, h.2.2.1⟩)]
    refine i4 r (fun lv hl e => hin ?_)
    have := d4 lv hl
    rw [e] at this
    exact ⟨this.1, this.2.2.1, this.2.2.2⟩
theorem uo_model (n : Nat) (hn : 61 < n) {M : gs_T} {R b : Nat} (hR : R ≤ 20) (h2 : M.1 2 = nI R) (hb : b < 60) (x : Int32) (K : gs_T → Option gs_T) :
    ∃ M' : gs_T, mM_comeTo_38 n (nI b) x K n 0 M = K M' ∧ M'.1 = M.1 ∧ (∀ q, q ≠ 18 → M'.2 q = M.2 q) ∧ ∀ r, r < 20 → M'.2 18 r = uo_op (M.2 1) (M.2 2) (M.2 3) (M.2 18) R b x r := by
  have eb := nI_toInt (n := b) (by omega)
  have h := lp_for (fun k i G => mM_comeTo_38 n (nI b) x K k i G) R
    (fun i M' => M'.1 = M.1 ∧ (∀ q, q ≠ 18 → M'.2 q = M.2 q) ∧ ∀ r, M'.2 18 r = if r < i then uo_op (M.2 1) (M.2 2) (M.2 3) (M.2 18) R b x r else M.2 18 r)
    K
    (fun k M' hI => by simp only [mM_comeTo_38, hI.1, h2, if_pos (Int32.le_refl _)])
    (fun k i M' hi hI => by
      obtain ⟨i1, i2, i3⟩ := hI
      have hi20 : i < 20 := by omega
      have hi31 : i < 2 ^ 31 := by omega
      have hold : M'.2 18 i = M.2 18 i := by rw [i3, if_neg (by omega)]
      have hnx : ∀ (M2 : gs_T), M2.1 = M.1 → (∀ q, q ≠ 18 → M2.2 q = M.2 q) → (M2.2 18 = upd (M'.2 18) i (uo_op (M.2 1) (M.2 2) (M.2 3) (M.2 18) R b x i)) → M2.1 = M.1 ∧ (∀ q, q ≠ 18 → M2.2 q = M.2 q) ∧ ∀ r, M2.2 18 r = if r < i + 1 then uo_op (M.2 1) (M.2 2) (M.2 3) (M.2 18) R b x r else M.2 18 r := by
        intro M2 g1 g2 g3
        refine ⟨g1, g2, fun r => ?_⟩
        rw [g3]
        by_cases hr : r = i
        · subst hr
          rw [ud_s, if_pos (by omega)]
        · rw [ud_n _ _ hr, i3]
          by_cases hlt : r < i
          · rw [if_pos hlt, if_pos (by omega)]
          · rw [if_neg hlt, if_neg (by omega)]
      have hself : ∀ y : Int32, M'.2 18 i = y → M'.2 18 = upd (M'.2 18) i y := by
        intro y hy
        funext r
        rw [ud_e]
        split
        · rename_i e; rw [e, hy]
        · rfl
      have ha := te_around M' hi20 (nI b)
      rw [eb, i2 1 (by decide), i2 2 (by decide)] at ha
      rcases ha with ⟨e, h⟩ | ⟨e, h⟩
      · by_cases hp : M.2 18 i = 0
        · refine ⟨gs_sa M' 18 (nI i) (if x = 0 then 1 else M.2 3 i), hnx _ i1 (fun q hq => ?_) ?_, ?_⟩
          · simp only [sa_2, if_neg hq]
            exact i2 q hq
          · simp only [sa_2, reduceIte, nI_clamp hi31]
            unfold uo_op
            have hc : i < R ∧ (M.2 1 i).toInt ≤ b ∧ (b : Int) ≤ (M.2 2 i).toInt ∧ M.2 18 i = 0 := ⟨hi, h.1, h.2, hp⟩
            rw [if_pos hc]
          · simp only [mM_comeTo_38, i1, h2, if_neg (nI_ge hi (by omega)), e, Option.bind_some, if_neg (show ¬ (1 : Int32) = 0 by decide), ck_nI _ hi20 (show 20 < 2 ^ 31 by decide), ga_nI _ _ hi31, hold, if_pos hp, i2 3 (by decide), ← nI_succ]
            by_cases hx : x = 0
            · rw [if_pos hx, if_pos hx]
            · rw [if_neg hx, if_neg hx]
        · refine ⟨M', hnx _ i1 i2 (hself _ ?_), ?_⟩
          · unfold uo_op
            rw [if_neg (fun h => hp h.2.2.2), hold]
          · simp only [mM_comeTo_38, i1, h2, if_neg (nI_ge hi (by omega)), e, Option.bind_some, if_neg (show ¬ (1 : Int32) = 0 by decide), ck_nI _ hi20 (show 20 < 2 ^ 31 by decide), ga_nI _ _ hi31, hold, if_neg hp, ← nI_succ]
      · refine ⟨M', hnx _ i1 i2 (hself _ ?_), ?_⟩
        · unfold uo_op
          rw [if_neg (fun h9 => h ⟨h9.2.1, h9.2.2.1⟩), hold]
        · simp only [mM_comeTo_38, i1, h2, if_neg (nI_ge hi (by omega)), e, Option.bind_some, reduceIte, ← nI_succ])
    n 0 M (by omega) (by omega) ⟨rfl, fun _ _ => rfl, fun r => by rw [if_neg (by omega)]⟩
  obtain ⟨M', ⟨i1, i2, i3⟩, h6⟩ := h
  rw [← li_n0] at h6
  refine ⟨M', h6, i1, i2, fun r hr => ?_⟩
  rw [i3]
  by_cases hlt : r < R
  · rw [if_pos hlt]
  · rw [if_neg hlt]
    unfold uo_op
    rw [if_neg (fun h => hlt h.1)]
/-- what is left: the repeats within, but one -/
def ul_op (f t p : Nat → Int32) (R o : Nat) (a z : Int) (r : Nat) : Int32 := if r < R ∧ r ≠ o ∧ a ≤ (f r).toInt ∧ (t r).toInt ≤ z then 0 else p r
theorem ul_class (n : Nat) (hn : 61 < n) {G : gs_T} {R E e o : Nat} (hR : R ≤ 20) (h7 : G.1 7 = nI R) (hE : E ≤ 20) (he : e < E) (ho : o < 20) (h4 : G.2 4 e = nI o) :
    ∃ G' : gs_T, cW_leaveWithin n G (nI e) = some G' ∧ G'.1 = G.1 ∧ (∀ q, q ≠ 21 → G'.2 q = G.2 q) ∧ ∀ r, G'.2 21 r = ul_op (G.2 1) (G.2 2) (G.2 21) R o (G.2 5 e).toInt (G.2 6 e).toInt r := by
  have he20 : e < 20 := by omega
  have he31 : e < 2 ^ 31 := by omega
  have h := lp_for (fun k i G => cW_leaveWithin_2 n (nI e) k i G) R
    (fun i G' => G'.1 = G.1 ∧ (∀ q, q ≠ 21 → G'.2 q = G.2 q) ∧ ∀ r, G'.2 21 r = if r < i then ul_op (G.2 1) (G.2 2) (G.2 21) R o (G.2 5 e).toInt (G.2 6 e).toInt r else G.2 21 r)
    (fun G' => some G')
    (fun k G' hI => by simp only [cW_leaveWithin_2, hI.1, h7, if_pos (Int32.le_refl _)])
    (fun k i G' hi hI => by
      obtain ⟨i1, i2, i3⟩ := hI
      have hi20 : i < 20 := by omega
      have hi31 : i < 2 ^ 31 := by omega
      have hnx : ∀ (M2 : gs_T), M2.1 = G.1 → (∀ q, q ≠ 21 → M2.2 q = G.2 q) → (M2.2 21 = upd (G'.2 21) i (ul_op (G.2 1) (G.2 2) (G.2 21) R o (G.2 5 e).toInt (G.2 6 e).toInt i)) → M2.1 = G.1 ∧ (∀ q, q ≠ 21 → M2.2 q = G.2 q) ∧ ∀ r, M2.2 21 r = if r < i + 1 then ul_op (G.2 1) (G.2 2) (G.2 21) R o (G.2 5 e).toInt (G.2 6 e).toInt r else G.2 21 r := by
        intro M2 g1 g2 g3
        refine ⟨g1, g2, fun r => ?_⟩
        rw [g3]
        by_cases hr : r = i
        · subst hr
          rw [ud_s, if_pos (by omega)]
        · rw [ud_n _ _ hr, i3]
          by_cases hlt : r < i
          · rw [if_pos hlt, if_pos (by omega)]
          · rw [if_neg hlt, if_neg (by omega)]
      have hold : G'.2 21 i = G.2 21 i := by rw [i3, if_neg (by omega)]
      have hself : ∀ y : Int32, G'.2 21 i = y → G'.2 21 = upd (G'.2 21) i y := by
        intro y hy
        funext r
        rw [ud_e]
        split
        · rename_i e; rw [e, hy]
        · rfl
      by_cases hio : i = o
      · refine ⟨G', hnx _ i1 i2 (hself _ ?_), ?_⟩
        · unfold ul_op
          rw [if_neg (fun h9 => h9.2.1 hio), hold]
        · subst hio
          simp only [cW_leaveWithin_2, i1, h7, if_neg (nI_ge hi (by omega)), ck_nI _ he20 (show 20 < 2 ^ 31 by decide), ga_nI _ _ he31, i2 4 (by decide), h4, reduceIte, ← nI_succ]
      · have hne : ¬ nI i = nI o := fun e9 => hio ((nI_eq hi31 (by omega)).mp e9)
        have ha := te_within G' (G.2 1 i) (G.2 2 i) (G.2 5 e) (G.2 6 e)
        have hw : cS_isRepeatWithinEnding G' (nI i) (nI e) = (cS_liesWithin G' (G.2 1 i) (G.2 2 i) (G.2 5 e) (G.2 6 e)).bind fun q1 => gs_bz q1 (some q1) := by
          simp only [cS_isRepeatWithinEnding, ck_nI _ he20 (show 20 < 2 ^ 31 by decide), ck_nI _ hi20 (show 20 < 2 ^ 31 by decide), ga_nI _ _ he31, ga_nI _ _ hi31, i2 1 (by decide), i2 2 (by decide), i2 5 (by decide), i2 6 (by decide)]
        rcases ha with ⟨e9, h⟩ | ⟨e9, h⟩
        · refine ⟨gs_sa G' 21 (nI i) 0, hnx _ i1 (fun q hq => ?_) ?_, ?_⟩
          · simp only [sa_2, if_neg hq]
            exact i2 q hq
          · simp only [sa_2, reduceIte, nI_clamp hi31]
            unfold ul_op
            rw [if_pos ⟨hi, hio, h.1, h.2⟩]
          · simp only [cW_leaveWithin_2, i1, h7, if_neg (nI_ge hi (by omega)), ck_nI _ he20 (show 20 < 2 ^ 31 by decide), ck_nI _ hi20 (show 20 < 2 ^ 31 by decide), ga_nI _ _ he31, i2 4 (by decide), h4, if_neg hne, hw, e9, Option.bind_some, gs_bz, or_true, if_true, if_neg (show ¬ (1 : Int32) = 0 by decide), ← nI_succ]
        · refine ⟨G', hnx _ i1 i2 (hself _ ?_), ?_⟩
          · unfold ul_op
            rw [if_neg (fun h9 => h ⟨h9.2.2.1, h9.2.2.2⟩), hold]
          · simp only [cW_leaveWithin_2, i1, h7, if_neg (nI_ge hi (by omega)), ck_nI _ he20 (show 20 < 2 ^ 31 by decide), ga_nI _ _ he31, i2 4 (by decide), h4, if_neg hne, hw, e9, Option.bind_some, gs_bz, true_or, if_true, reduceIte, ← nI_succ])
    n 0 G (by omega) (by omega) ⟨rfl, fun _ _ => rfl, fun r => by rw [if_neg (by omega)]⟩
  obtain ⟨G', ⟨i1, i2, i3⟩, h6⟩ := h
  rw [← li_n0] at h6
  refine ⟨G', h6, i1, i2, fun r => ?_⟩
  rw [i3]
  by_cases hlt : r < R
  · rw [if_pos hlt]
  · rw [if_neg hlt]
    unfold ul_op
    rw [if_neg (fun h => hlt h.1)]
theorem ul_model (n : Nat) (hn : 61 < n) {M : gs_T} {R o : Nat} (hR : R ≤ 20) (h2 : M.1 2 = nI R) (ho : o < 20) (a z : Int32) :
    ∃ M' : gs_T, mM_leaveWithin n M a z (nI o) = some M' ∧ M'.1 = M.1 ∧ (∀ q, q ≠ 18 → M'.2 q = M.2 q) ∧ ∀ r, M'.2 18 r = ul_op (M.2 1) (M.2 2) (M.2 18) R o a.toInt z.toInt r := by
  have h := lp_for (fun k i G => mM_leaveWithin_3 n a z (nI o) k i G) R
    (fun i G' => G'.1 = M.1 ∧ (∀ q, q ≠ 18 → G'.2 q = M.2 q) ∧ ∀ r, G'.2 18 r = if r < i then ul_op (M.2 1) (M.2 2) (M.2 18) R o a.toInt z.toInt r else M.2 18 r)
    (fun G' => some G')
    (fun k G' hI => by simp only [mM_leaveWithin_3, hI.1, h2, if_pos (Int32.le_refl _)])
    (fun k i G' hi hI => by
      obtain ⟨i1, i2, i3⟩ := hI
      have hi20 : i < 20 := by omega
      have hi31 : i < 2 ^ 31 := by omega
      have hnx : ∀ (M2 : gs_T), M2.1 = M.1 → (∀ q, q ≠ 18 → M2.2 q = M.2 q) → (M2.2 18 = upd (G'.2 18) i (ul_op (M.2 1) (M.2 2) (M.2 18) R o a.toInt z.toInt i)) → M2.1 = M.1 ∧ (∀ q, q ≠ 18 → M2.2 q = M.2 q) ∧ ∀ r, M2.2 18 r = if r < i + 1 then ul_op (M.2 1) (M.2 2) (M.2 18) R o a.toInt z.toInt r else M.2 18 r := by
        intro M2 g1 g2 g3
        refine ⟨g1, g2, fun r => ?_⟩
        rw [g3]
        by_cases hr : r = i
        · subst hr
          rw [ud_s, if_pos (by omega)]
        · rw [ud_n _ _ hr, i3]
          by_cases hlt : r < i
          · rw [if_pos hlt, if_pos (by omega)]
          · rw [if_neg hlt, if_neg (by omega)]
      have hold : G'.2 18 i = M.2 18 i := by rw [i3, if_neg (by omega)]
      have hself : ∀ y : Int32, G'.2 18 i = y → G'.2 18 = upd (G'.2 18) i y := by
        intro y hy
        funext r
        rw [ud_e]
        split
        · rename_i e; rw [e, hy]
        · rfl
      by_cases hio : i = o
      · refine ⟨G', hnx _ i1 i2 (hself _ ?_), ?_⟩
        · unfold ul_op
          rw [if_neg (fun h9 => h9.2.1 hio), hold]
        · subst hio
          simp only [mM_leaveWithin_3, i1, h2, if_neg (nI_ge hi (by omega)), reduceIte, ← nI_succ]
      · have hne : ¬ nI i = nI o := fun e9 => hio ((nI_eq hi31 (by omega)).mp e9)
        have ha := te_mwithin G' (M.2 1 i) (M.2 2 i) a z
        rcases ha with ⟨e9, h⟩ | ⟨e9, h⟩
        · refine ⟨gs_sa G' 18 (nI i) 0, hnx _ i1 (fun q hq => ?_) ?_, ?_⟩
          · simp only [sa_2, if_neg hq]
            exact i2 q hq
          · simp only [sa_2, reduceIte, nI_clamp hi31]
            unfold ul_op
            rw [if_pos ⟨hi, hio, h.1, h.2⟩]
          · simp only [mM_leaveWithin_3, i1, h2, if_neg (nI_ge hi (by omega)), ck_nI _ hi20 (show 20 < 2 ^ 31 by decide), ga_nI _ _ hi31, i2 1 (by decide), i2 2 (by decide), if_neg hne, e9, Option.bind_some, if_neg (show ¬ (1 : Int32) = 0 by decide), ← nI_succ]
        · refine ⟨G', hnx _ i1 i2 (hself _ ?_), ?_⟩
          · unfold ul_op
            rw [if_neg (fun h9 => h ⟨h9.2.2.1, h9.2.2.2⟩), hold]
          · simp only [mM_leaveWithin_3, i1, h2, if_neg (nI_ge hi (by omega)), ck_nI _ hi20 (show 20 < 2 ^ 31 by decide), ga_nI _ _ hi31, i2 1 (by decide), i2 2 (by decide), if_neg hne, e9, Option.bind_some, reduceIte, ← nI_succ])
    n 0 M (by omega) (by omega) ⟨rfl, fun _ _ => rfl, fun r => by rw [if_neg (by omega)]⟩
  obtain ⟨G', ⟨i1, i2, i3⟩, h6⟩ := h
  rw [← li_n0] at h6
  refine ⟨G', h6, i1, i2, fun r => ?_⟩
  rw [i3]
  by_cases hlt : r < R
  · rw [if_pos hlt]
  · rw [if_neg hlt]
    unfold ul_op
    rw [if_neg (fun h => hlt h.1)]
