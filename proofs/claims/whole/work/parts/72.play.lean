/-! ===== own: unfold: a bar is played ===== -/
theorem up_last (n : Nat) (hn : 61 < n) {G : gs_T} {R b d : Nat} (hR : R ≤ 20) (hb : b < 60) (hd : d ≤ 3) (hdep : G.2 13 b = nI d) (d4 : ∀ lv, lv < d → rc_ch (G.2 12) b lv < R ∧ G.2 12 (3 * b + lv) = nI (rc_ch (G.2 12) b lv)) :
    (cW_isInLastPasses n G (nI b) = some 1 ∧ (∀ lv, lv < d → (G.2 3 (rc_ch (G.2 12) b lv)).toInt ≤ (G.2 21 (rc_ch (G.2 12) b lv)).toInt)) ∨ (cW_isInLastPasses n G (nI b) = some 0 ∧ ¬ (∀ lv, lv < d → (G.2 3 (rc_ch (G.2 12) b lv)).toInt ≤ (G.2 21 (rc_ch (G.2 12) b lv)).toInt)) := by
  have key : ∀ k i, i < d → cW_isInLastPasses_2 n G (nI b) (k + 1) (nI i) = if G.2 3 (rc_ch (G.2 12) b i) ≤ G.2 21 (rc_ch (G.2 12) b i) then cW_isInLastPasses_2 n G (nI b) k (nI (i + 1)) else some 0 := by
    intro k i hi
    have h4 := d4 i hi
    have ha := uo_around (G := G) hb (show i < 3 by omega) h4.2
    simp only [cW_isInLastPasses_2, ck_nI _ hb (show 60 < 2 ^ 31 by decide), ga_nI _ _ (show b < 2 ^ 31 by omega), hdep, if_neg (nI_ge hi (by omega)), ha, Option.bind_some, ck_nI _ (show rc_ch (G.2 12) b i < 20 by omega) (show 20 < 2 ^ 31 by decide), ga_nI _ _ (show rc_ch (G.2 12) b i < 2 ^ 31 by omega), ← nI_succ]
  refine te_or (te_loop (fun k i => cW_isInLastPasses_2 n G (nI b) k i) d _ _ _ n (by omega) (fun k => ?_) (fun k i hi hp => ?_) (fun k i hi hp => ?_))
  · simp only [cW_isInLastPasses_2, ck_nI _ hb (show 60 < 2 ^ 31 by decide), ga_nI _ _ (show b < 2 ^ 31 by omega), hdep, if_pos (Int32.le_refl _)]
  · rw [key k i hi, if_pos (by rw [li_le]; exact hp)]
  · rw [key k i hi, if_neg (by rw [li_le]; exact hp)]
theorem up_areLast (n : Nat) {M : gs_T} {R b : Nat} (hR : R ≤ 20) (h2 : M.1 2 = nI R) (hb : b < 60) (K : Int32 → Option gs_T) :
    ∀ (k i : Nat) (y : Int32), i ≤ R → R - i < k → ((y = 1 ∧ (∀ r, r < i → (M.2 1 r).toInt ≤ b → (b : Int) ≤ (M.2 2 r).toInt → M.2 18 r = M.2 3 r)) ∨ (y = 0 ∧ ¬ (∀ r, r < i → (M.2 1 r).toInt ≤ b → (b : Int) ≤ (M.2 2 r).toInt → M.2 18 r = M.2 3 r))) →
    ((∀ r, r < R → (M.2 1 r).toInt ≤ b → (b : Int) ≤ (M.2 2 r).toInt → M.2 18 r = M.2 3 r) → mM_play_101 n M (nI b) K k y (nI i) = K 1) ∧ (¬ (∀ r, r < R → (M.2 1 r).toInt ≤ b → (b : Int) ≤ (M.2 2 r).toInt → M.2 18 r = M.2 3 r) → mM_play_101 n M (nI b) K k y (nI i) = K 0) := by
  have eb := nI_toInt (n := b) (by omega)
  intro k
  induction k with
  | zero => intro i y h1 h3; omega
  | succ k ih =>
    intro i y h1 h3 hy
    by_cases hi : i = R
    · subst hi
      have e : mM_play_101 n M (nI b) K (k + 1) y (nI i) = K y := by
        simp only [mM_play_101, h2, if_pos (Int32.le_refl _)]
      rw [e]
      rcases hy with ⟨rfl, hy⟩ | ⟨rfl, hy⟩
      · exact ⟨fun _ => rfl, fun h => absurd hy h⟩
      · exact ⟨fun h => absurd h hy, fun _ => rfl⟩
    · have hi20 : i < 20 := by omega
      have hi31 : i < 2 ^ 31 := by omega
      rcases hy with ⟨rfl, hy⟩ | ⟨rfl, hy⟩
      · rcases te_around M hi20 (nI b) with ⟨e, h⟩ | ⟨e, h⟩
        · rw [eb] at h
          by_cases hp : M.2 18 i = M.2 3 i
          · have e2 : mM_play_101 n M (nI b) K (k + 1) 1 (nI i) = mM_play_101 n M (nI b) K k 1 (nI (i + 1)) := by
              simp only [mM_play_101, h2, if_neg (nI_ge (show i < R by omega) (by omega)), if_neg (show ¬ (1 : Int32) = 0 by decide), e, Option.bind_some, ck_nI _ hi20 (show 20 < 2 ^ 31 by decide), ga_nI _ _ hi31, if_pos hp, ← nI_succ]
            rw [e2]
            refine ih (i + 1) 1 (by omega) (by omega) (Or.inl ⟨rfl, fun r h4 h5 h6 => ?_⟩)
            by_cases hr : r = i
            · subst hr; exact hp
            · exact hy r (by omega) h5 h6
          · have e2 : mM_play_101 n M (nI b) K (k + 1) 1 (nI i) = mM_play_101 n M (nI b) K k 0 (nI (i + 1)) := by
              simp only [mM_play_101, h2, if_neg (nI_ge (show i < R by omega) (by omega)), if_neg (show ¬ (1 : Int32) = 0 by decide), e, Option.bind_some, ck_nI _ hi20 (show 20 < 2 ^ 31 by decide), ga_nI _ _ hi31, if_neg hp, ← nI_succ]
            rw [e2]
            exact ih (i + 1) 0 (by omega) (by omega) (Or.inr ⟨rfl, fun h4 => hp (h4 i (by omega) h.1 h.2)⟩)
        · rw [eb] at h
          have e2 : mM_play_101 n M (nI b) K (k + 1) 1 (nI i) = mM_play_101 n M (nI b) K k 1 (nI (i + 1)) := by
            simp only [mM_play_101, h2, if_neg (nI_ge (show i < R by omega) (by omega)), if_neg (show ¬ (1 : Int32) = 0 by decide), e, Option.bind_some, reduceIte, ← nI_succ]
          rw [e2]
          refine ih (i + 1) 1 (by omega) (by omega) (Or.inl ⟨rfl, fun r h4 h5 h6 => ?_⟩)
          by_cases hr : r = i
          · subst hr; exact absurd ⟨h5, h6⟩ h
          · exact hy r (by omega) h5 h6
      · have e2 : mM_play_101 n M (nI b) K (k + 1) 0 (nI i) = mM_play_101 n M (nI b) K k 0 (nI (i + 1)) := by
          simp only [mM_play_101, h2, if_neg (nI_ge (show i < R by omega) (by omega)), reduceIte, ← nI_succ]
        rw [e2]
        exact ih (i + 1) 0 (by omega) (by omega) (Or.inr ⟨rfl, fun h4 => hy (fun r h5 => h4 r (by omega))⟩)
/-- the shortest (x is 1) or the longest (x is 0) repeat around a bar -/
theorem up_it (n : Nat) {M : gs_T} {R b : Nat} (hR : R ≤ 20) (h2 : M.1 2 = nI R) (hb : b < 60) (hrep : ∀ r, r < R → 0 ≤ (M.2 1 r).toInt ∧ (M.2 1 r).toInt ≤ (M.2 2 r).toInt ∧ (M.2 2 r).toInt < 60) (x : Int32) (hx : x = 0 ∨ x = 1) :
    ∀ (k i : Nat) (y : Int32), i ≤ R → R - i < k →
      ((y = -1 ∧ ∀ r, r < i → ¬ ((M.2 1 r).toInt ≤ b ∧ (b : Int) ≤ (M.2 2 r).toInt)) ∨ ∃ r0, r0 < i ∧ y = nI r0 ∧ ((M.2 1 r0).toInt ≤ b ∧ (b : Int) ≤ (M.2 2 r0).toInt) ∧ ∀ r, r < i → ((M.2 1 r).toInt ≤ b ∧ (b : Int) ≤ (M.2 2 r).toInt) → (x = 1 → (M.2 2 r0).toInt - (M.2 1 r0).toInt ≤ (M.2 2 r).toInt - (M.2 1 r).toInt) ∧ (x = 0 → (M.2 2 r).toInt - (M.2 1 r).toInt ≤ (M.2 2 r0).toInt - (M.2 1 r0).toInt)) →
      ∃ y' : Int32, mM_aroundIt_5 n M (nI b) x k y (nI i) = some y' ∧ ((y' = -1 ∧ ∀ r, r < R → ¬ ((M.2 1 r).toInt ≤ b ∧ (b : Int) ≤ (M.2 2 r).toInt)) ∨ ∃ r0, r0 < R ∧ y' = nI r0 ∧ ((M.2 1 r0).toInt ≤ b ∧ (b : Int) ≤ (M.2 2 r0).toInt) ∧ ∀ r, r < R → ((M.2 1 r).toInt ≤ b ∧ (b : Int) ≤ (M.2 2 r).toInt) → (x = 1 → (M.2 2 r0).toInt - (M.2 1 r0).toInt ≤ (M.2 2 r).toInt - (M.2 1 r).toInt) ∧ (x = 0 → (M.2 2 r).toInt - (M.2 1 r).toInt ≤ (M.2 2 r0).toInt - (M.2 1 r0).toInt)) := by
  have eb := nI_toInt (n := b) (by omega)
  intro k
  induction k with
  | zero => intro i y h1 h3; omega
  | succ k ih =>
    intro i y h1 h3 hy
    by_cases hi : i = R
    · subst hi
      exact ⟨y, by simp only [mM_aroundIt_5, h2, if_pos (Int32.le_refl _)], hy⟩
    · have hi20 : i < 20 := by omega
      have hi31 : i < 2 ^ 31 := by omega
      have hge := nI_ge (show i < R by omega) (show R < 2 ^ 31 by omega)
      rcases te_around M hi20 (nI b) with ⟨e, h⟩ | ⟨e, h⟩
      · rw [eb] at h
        rcases hy with ⟨rfl, hy⟩ | ⟨r0, g1, rfl, g2, g3⟩
        · have e2 : mM_aroundIt_5 n M (nI b) x (k + 1) (-1) (nI i) = mM_aroundIt_5 n M (nI b) x k (nI i) (nI (i + 1)) := by
            simp only [mM_aroundIt_5, h2, if_neg hge, e, Option.bind_some, if_neg (show ¬ (1 : Int32) = 0 by decide), reduceIte, ← nI_succ]
          rw [e2]
          refine ih (i + 1) (nI i) (by omega) (by omega) (Or.inr ⟨i, by omega, rfl, h, fun r h4 h5 => ?_⟩)
          by_cases hr : r = i
          · subst hr; exact ⟨fun _ => Int.le_refl _, fun _ => Int.le_refl _⟩
          · exact absurd h5 (hy r (by omega))
        · have hr20 : r0 < 20 := by omega
          have hr31 : r0 < 2 ^ 31 := by omega
          have hne : ¬ nI r0 = -1 := by rw [li_eq, li_m1, nI_toInt hr31]; omega
          have q1 := hrep r0 (by omega)
          have q2 := hrep i (by omega)
          have hsub1 : (M.2 2 r0 - M.2 1 r0).toInt = (M.2 2 r0).toInt - (M.2 1 r0).toInt := li_sub (by omega) (by omega)
          have hsub2 : (M.2 2 i - M.2 1 i).toInt = (M.2 2 i).toInt - (M.2 1 i).toInt := li_sub (by omega) (by omega)
          have e2 : mM_aroundIt_5 n M (nI b) x (k + 1) (nI r0) (nI i) = if M.2 2 r0 - M.2 1 r0 ≤ M.2 2 i - M.2 1 i then (if x = 0 then mM_aroundIt_5 n M (nI b) x k (nI i) (nI (i + 1)) else mM_aroundIt_5 n M (nI b) x k (nI r0) (nI (i + 1))) else (if x = 1 then mM_aroundIt_5 n M (nI b) x k (nI i) (nI (i + 1)) else mM_aroundIt_5 n M (nI b) x k (nI r0) (nI (i + 1))) := by
            simp only [mM_aroundIt_5, h2, if_neg hge, e, Option.bind_some, if_neg (show ¬ (1 : Int32) = 0 by decide), if_neg hne, ck_nI _ hi20 (show 20 < 2 ^ 31 by decide), ck_nI _ hr20 (show 20 < 2 ^ 31 by decide), ga_nI _ _ hi31, ga_nI _ _ hr31, ← nI_succ]
          have keepR : (x = 1 → (M.2 2 r0).toInt - (M.2 1 r0).toInt ≤ (M.2 2 i).toInt - (M.2 1 i).toInt) ∧ (x = 0 → (M.2 2 i).toInt - (M.2 1 i).toInt ≤ (M.2 2 r0).toInt - (M.2 1 r0).toInt) → ∃ y' : Int32, mM_aroundIt_5 n M (nI b) x k (nI r0) (nI (i + 1)) = some y' ∧ _ := fun hk => ih (i + 1) (nI r0) (by omega) (by omega) (Or.inr ⟨r0, by omega, rfl, g2, fun r h4 h5 => by
            by_cases hr : r = i
            · subst hr; exact hk
            · exact g3 r (by omega) h5⟩)
          have keepI : (x = 1 → (M.2 2 i).toInt - (M.2 1 i).toInt ≤ (M.2 2 r0).toInt - (M.2 1 r0).toInt) ∧ (x = 0 → (M.2 2 r0).toInt - (M.2 1 r0).toInt ≤ (M.2 2 i).toInt - (M.2 1 i).toInt) → ∃ y' : Int32, mM_aroundIt_5 n M (nI b) x k (nI i) (nI (i + 1)) = some y' ∧ _ := fun hk => ih (i + 1) (nI i) (by omega) (by omega) (Or.inr ⟨i, by omega, rfl, h, fun r h4 h5 => by
            by_cases hr : r = i
            · subst hr; exact ⟨fun _ => Int.le_refl _, fun _ => Int.le_refl _⟩
            · have h6 := g3 r (by omega) h5
              exact ⟨fun hx1 => Int.le_trans (hk.1 hx1) (h6.1 hx1), fun hx0 => Int.le_trans (h6.2 hx0) (hk.2 hx0)⟩⟩)
          rw [e2]
          by_cases hle : M.2 2 r0 - M.2 1 r0 ≤ M.2 2 i - M.2 1 i
          · rw [if_pos hle]
            rw [li_le, hsub1, hsub2] at hle
            rcases hx with rfl | rfl
            · rw [if_pos rfl]
              exact keepI ⟨fun h => absurd h (by decide), fun _ => hle⟩
            · rw [if_neg (by decide)]
              exact keepR ⟨fun _ => hle, fun h => absurd h (by decide)⟩
          · rw [if_neg hle]
            rw [li_le, hsub1, hsub2] at hle
            rcases hx with rfl | rfl
            · rw [if_neg (by decide)]
              exact keepR ⟨fun h => absurd h (by decide), fun _ => by omega⟩
            · rw [if_pos rfl]
              exact keepI ⟨fun _ => by omega, fun h => absurd h (by decide)⟩
      · rw [eb] at h
        have e2 : mM_aroundIt_5 n M (nI b) x (k + 1) y (nI i) = mM_aroundIt_5 n M (nI b) x k y (nI (i + 1)) := by
          simp only [mM_aroundIt_5, h2, if_neg hge, e, Option.bind_some, reduceIte, ← nI_succ]
        rw [e2]
        refine ih (i + 1) y (by omega) (by omega) ?_
        rcases hy with ⟨g1, g2⟩ | ⟨r0, g1, g2, g3, g4⟩
        · refine Or.inl ⟨g1, fun r h4 h5 => ?_⟩
          by_cases hr : r = i
          · subst hr; exact h h5
          · exact g2 r (by omega) h5
        · refine Or.inr ⟨r0, by omega, g2, g3, fun r h4 h5 => ?_⟩
          by_cases hr : r = i
          · subst hr; exact absurd h5 h
          · exact g4 r (by omega) h5
