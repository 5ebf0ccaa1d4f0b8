/-! ===== own: what a repeat or an ending is tested for ===== -/
theorem te_within (G : gs_T) (x0 x1 x2 x3 : Int32) : (cS_liesWithin G x0 x1 x2 x3 = some 1 ∧ (x2.toInt ≤ x0.toInt ∧ x1.toInt ≤ x3.toInt)) ∨ (cS_liesWithin G x0 x1 x2 x3 = some 0 ∧ ¬ (x2.toInt ≤ x0.toInt ∧ x1.toInt ≤ x3.toInt)) := by
  unfold cS_liesWithin
  simp only [li_lt]
  by_cases h1 : x0.toInt < x2.toInt
  · exact Or.inr ⟨by rw [if_pos h1], by omega⟩
  · rw [if_neg h1]
    by_cases h2 : x3.toInt < x1.toInt
    · exact Or.inr ⟨by rw [if_pos h2], by omega⟩
    · exact Or.inl ⟨by rw [if_neg h2], by omega⟩
theorem te_well (G : gs_T) (x0 x1 x2 x3 : Int32) : (cS_liesWell G x0 x1 x2 x3 = some 1 ∧ rc_lw x0.toInt x1.toInt x2.toInt x3.toInt) ∨ (cS_liesWell G x0 x1 x2 x3 = some 0 ∧ ¬ rc_lw x0.toInt x1.toInt x2.toInt x3.toInt) := by
  unfold cS_liesWell rc_lw
  simp only [li_lt]
  by_cases h1 : x1.toInt < x2.toInt
  · exact Or.inl ⟨by rw [if_pos h1], Or.inl h1⟩
  · rw [if_neg h1]
    by_cases h2 : x3.toInt < x0.toInt
    · exact Or.inl ⟨by rw [if_pos h2], Or.inr (Or.inl h2)⟩
    · rw [if_neg h2]
      rcases te_within G x0 x1 x2 x3 with ⟨e1, h3⟩ | ⟨e1, h3⟩
      · exact Or.inl ⟨by rw [e1]; rfl, Or.inr (Or.inr (Or.inl h3))⟩
      · rcases te_within G x2 x3 x0 x1 with ⟨e2, h4⟩ | ⟨e2, h4⟩
        · exact Or.inl ⟨by rw [e1, e2]; rfl, Or.inr (Or.inr (Or.inr h4))⟩
        · exact Or.inr ⟨by rw [e1, e2]; rfl, by omega⟩
theorem te_mwithin (G : gs_T) (x0 x1 x2 x3 : Int32) : (mM_isWithin G x0 x1 x2 x3 = some 1 ∧ (x2.toInt ≤ x0.toInt ∧ x1.toInt ≤ x3.toInt)) ∨ (mM_isWithin G x0 x1 x2 x3 = some 0 ∧ ¬ (x2.toInt ≤ x0.toInt ∧ x1.toInt ≤ x3.toInt)) := te_within G x0 x1 x2 x3
theorem te_apart (G : gs_T) (x0 x1 x2 x3 : Int32) : (mM_isApart G x0 x1 x2 x3 = some 1 ∧ (x1.toInt < x2.toInt ∨ x3.toInt < x0.toInt)) ∨ (mM_isApart G x0 x1 x2 x3 = some 0 ∧ ¬ (x1.toInt < x2.toInt ∨ x3.toInt < x0.toInt)) := by
  unfold mM_isApart
  simp only [li_lt, li_le]
  by_cases h1 : x1.toInt < x2.toInt
  · exact Or.inl ⟨by rw [if_pos h1], Or.inl h1⟩
  · rw [if_neg h1]
    by_cases h2 : x0.toInt ≤ x3.toInt
    · exact Or.inr ⟨by rw [if_pos h2], by omega⟩
    · exact Or.inl ⟨by rw [if_neg h2], by omega⟩
theorem te_mwell (G : gs_T) (x0 x1 x2 x3 : Int32) : (mM_liesWell G x0 x1 x2 x3 = some 1 ∧ rc_lw x0.toInt x1.toInt x2.toInt x3.toInt) ∨ (mM_liesWell G x0 x1 x2 x3 = some 0 ∧ ¬ rc_lw x0.toInt x1.toInt x2.toInt x3.toInt) := by
  unfold mM_liesWell rc_lw
  rcases te_apart G x0 x1 x2 x3 with ⟨e0, h0⟩ | ⟨e0, h0⟩
  · exact Or.inl ⟨by rw [e0]; rfl, by omega⟩
  · rcases te_mwithin G x0 x1 x2 x3 with ⟨e1, h3⟩ | ⟨e1, h3⟩
    · exact Or.inl ⟨by rw [e0, e1]; rfl, by omega⟩
    · rcases te_mwithin G x2 x3 x0 x1 with ⟨e2, h4⟩ | ⟨e2, h4⟩
      · exact Or.inl ⟨by rw [e0, e1, e2]; rfl, by omega⟩
      · exact Or.inr ⟨by rw [e0, e1, e2]; rfl, by omega⟩
theorem te_or {α : Type} {o : Option α} {a b : α} {P : Prop} (h : (P → o = some a) ∧ (¬ P → o = some b)) : (o = some a ∧ P) ∨ (o = some b ∧ ¬ P) := by
  by_cases hp : P
  · exact Or.inl ⟨h.1 hp, hp⟩
  · exact Or.inr ⟨h.2 hp, hp⟩
theorem te_nall {N : Nat} {P : Nat → Prop} (h : ¬ ∀ j, j < N → P j) : ∃ j, 0 ≤ j ∧ j < N ∧ ¬ P j := by
  by_cases h2 : ∃ j, 0 ≤ j ∧ j < N ∧ ¬ P j
  · exact h2
  · refine absurd (fun j hj => ?_) h
    by_cases hp : P j
    · exact hp
    · exact absurd ⟨j, Nat.zero_le j, hj, hp⟩ h2
/-- such a loop, from its begin, as a test -/
theorem te_loop {α : Type} (L : Nat → Int32 → Option α) (N : Nat) (P : Nat → Prop) (T F : Option α) (n : Nat) (hn : N < n) (hend : ∀ k, L (k + 1) (nI N) = T) (hgo : ∀ k i, i < N → P i → L (k + 1) (nI i) = L k (nI (i + 1))) (hno : ∀ k i, i < N → ¬ P i → L (k + 1) (nI i) = F) : ((∀ j, j < N → P j) → L n 0 = T) ∧ (¬ (∀ j, j < N → P j) → L n 0 = F) := by
  have h := lp_all L N P T F hend hgo hno n 0 (Nat.zero_le N) (by omega)
  rw [← li_n0] at h
  exact ⟨fun h1 => h.1 (fun j _ h2 => h1 j h2), fun h1 => h.2 (te_nall h1)⟩
theorem te_byR {G : gs_T} {R : Nat} (h7 : G.1 7 = nI R) (hR : R ≤ 20) (n : Nat) (hn : 20 < n) (x y : Int32) : (cS_liesWellByRepeats n G x y = some 1 ∧ (∀ r, r < R → rc_lw x.toInt y.toInt (G.2 1 r).toInt (G.2 2 r).toInt)) ∨ (cS_liesWellByRepeats n G x y = some 0 ∧ ¬ (∀ r, r < R → rc_lw x.toInt y.toInt (G.2 1 r).toInt (G.2 2 r).toInt)) := by
  refine te_or (te_loop (fun k i => cS_liesWellByRepeats_2 n G x y k i) R _ _ _ n (by omega) (fun k => ?_) (fun k i hi hp => ?_) (fun k i hi hp => ?_))
  · simp only [cS_liesWellByRepeats_2, h7, if_pos (Int32.le_refl _)]
  · simp only [cS_liesWellByRepeats_2, h7, if_neg (nI_ge hi (by omega)), ck_nI _ (show i < 20 by omega) (by decide), ga_nI _ _ (show i < 2 ^ 31 by omega)]
    rcases te_well G x y (G.2 1 i) (G.2 2 i) with ⟨e, h⟩ | ⟨e, h⟩
    · rw [e]; simp only [Option.bind_some, if_neg (show ¬ (1 : Int32) = 0 by decide), ← nI_succ]
    · exact absurd hp h
  · simp only [cS_liesWellByRepeats_2, h7, if_neg (nI_ge hi (by omega)), ck_nI _ (show i < 20 by omega) (by decide), ga_nI _ _ (show i < 2 ^ 31 by omega)]
    rcases te_well G x y (G.2 1 i) (G.2 2 i) with ⟨e, h⟩ | ⟨e, h⟩
    · exact absurd h hp
    · rw [e]; simp only [Option.bind_some, reduceIte]
theorem te_byE {G : gs_T} {E : Nat} (h7 : G.1 8 = nI E) (hR : E ≤ 20) (n : Nat) (hn : 20 < n) (x y : Int32) : (cS_liesWellByEndings n G x y = some 1 ∧ (∀ r, r < E → rc_lw x.toInt y.toInt (G.2 5 r).toInt (G.2 6 r).toInt)) ∨ (cS_liesWellByEndings n G x y = some 0 ∧ ¬ (∀ r, r < E → rc_lw x.toInt y.toInt (G.2 5 r).toInt (G.2 6 r).toInt)) := by
  refine te_or (te_loop (fun k i => cS_liesWellByEndings_2 n G x y k i) E _ _ _ n (by omega) (fun k => ?_) (fun k i hi hp => ?_) (fun k i hi hp => ?_))
  · simp only [cS_liesWellByEndings_2, h7, if_pos (Int32.le_refl _)]
  · simp only [cS_liesWellByEndings_2, h7, if_neg (nI_ge hi (by omega)), ck_nI _ (show i < 20 by omega) (by decide), ga_nI _ _ (show i < 2 ^ 31 by omega)]
    rcases te_well G x y (G.2 5 i) (G.2 6 i) with ⟨e, h⟩ | ⟨e, h⟩
    · rw [e]; simp only [Option.bind_some, if_neg (show ¬ (1 : Int32) = 0 by decide), ← nI_succ]
    · exact absurd hp h
  · simp only [cS_liesWellByEndings_2, h7, if_neg (nI_ge hi (by omega)), ck_nI _ (show i < 20 by omega) (by decide), ga_nI _ _ (show i < 2 ^ 31 by omega)]
    rcases te_well G x y (G.2 5 i) (G.2 6 i) with ⟨e, h⟩ | ⟨e, h⟩
    · exact absurd h hp
    · rw [e]; simp only [Option.bind_some, reduceIte]
theorem te_apE {G : gs_T} {E : Nat} (h7 : G.1 8 = nI E) (hR : E ≤ 20) (n : Nat) (hn : 20 < n) (x y : Int32) : (cS_isApartFromEndings n G x y = some 1 ∧ (∀ r, r < E → (G.2 6 r).toInt < x.toInt ∨ y.toInt < (G.2 5 r).toInt)) ∨ (cS_isApartFromEndings n G x y = some 0 ∧ ¬ (∀ r, r < E → (G.2 6 r).toInt < x.toInt ∨ y.toInt < (G.2 5 r).toInt)) := by
  refine te_or (te_loop (fun k i => cS_isApartFromEndings_2 n G x y k i) E _ _ _ n (by omega) (fun k => ?_) (fun k i hi hp => ?_) (fun k i hi hp => ?_))
  · simp only [cS_isApartFromEndings_2, h7, if_pos (Int32.le_refl _)]
  · simp only [cS_isApartFromEndings_2, h7, if_neg (nI_ge hi (by omega)), ck_nI _ (show i < 20 by omega) (by decide), ga_nI _ _ (show i < 2 ^ 31 by omega), li_lt, ← nI_succ]
    by_cases h1 : (G.2 6 i).toInt < x.toInt
    · rw [if_pos h1]
    · rw [if_neg h1, if_pos (hp.resolve_left h1)]
  · simp only [cS_isApartFromEndings_2, h7, if_neg (nI_ge hi (by omega)), ck_nI _ (show i < 20 by omega) (by decide), ga_nI _ _ (show i < 2 ^ 31 by omega), li_lt, ← nI_succ]
    rw [if_neg (fun h => hp (Or.inl h)), if_neg (fun h => hp (Or.inr h))]
theorem te_same {G : gs_T} {R : Nat} (h7 : G.1 7 = nI R) (hR : R ≤ 20) (n : Nat) (hn : 20 < n) (x y : Int32) : (cS_hasSameRepeat n G x y = some 0 ∧ (∀ r, r < R → ¬ ((G.2 1 r).toInt = x.toInt ∧ (G.2 2 r).toInt = y.toInt))) ∨ (cS_hasSameRepeat n G x y = some 1 ∧ ¬ (∀ r, r < R → ¬ ((G.2 1 r).toInt = x.toInt ∧ (G.2 2 r).toInt = y.toInt))) := by
  refine te_or (te_loop (fun k i => cS_hasSameRepeat_2 n G x y k i) R _ _ _ n (by omega) (fun k => ?_) (fun k i hi hp => ?_) (fun k i hi hp => ?_))
  · simp only [cS_hasSameRepeat_2, h7, if_pos (Int32.le_refl _)]
  · simp only [cS_hasSameRepeat_2, h7, if_neg (nI_ge hi (by omega)), ck_nI _ (show i < 20 by omega) (by decide), ga_nI _ _ (show i < 2 ^ 31 by omega), li_eq, ← nI_succ]
    by_cases h1 : (G.2 1 i).toInt = x.toInt
    · rw [if_pos h1, if_neg (fun h => hp ⟨h1, h⟩)]
    · rw [if_neg h1]
  · simp only [cS_hasSameRepeat_2, h7, if_neg (nI_ge hi (by omega)), ck_nI _ (show i < 20 by omega) (by decide), ga_nI _ _ (show i < 2 ^ 31 by omega), li_eq, ← nI_succ]
    have h2 : (G.2 1 i).toInt = x.toInt ∧ (G.2 2 i).toInt = y.toInt := by
      by_cases h3 : (G.2 1 i).toInt = x.toInt ∧ (G.2 2 i).toInt = y.toInt
      · exact h3
      · exact absurd h3 hp
    rw [if_pos h2.1, if_pos h2.2]
/-- the same from a bar on -/
theorem te_from {α : Type} (L : Nat → Int32 → Option α) (a N : Nat) (P : Nat → Prop) (T F : Option α) (n : Nat) (hn : N - a < n) (ha : a ≤ N) (hend : ∀ k, L (k + 1) (nI N) = T) (hgo : ∀ k i, i < N → P i → L (k + 1) (nI i) = L k (nI (i + 1))) (hno : ∀ k i, i < N → ¬ P i → L (k + 1) (nI i) = F) : ((∀ j, a ≤ j → j < N → P j) → L n (nI a) = T) ∧ (¬ (∀ j, a ≤ j → j < N → P j) → L n (nI a) = F) := by
  have h := lp_all L N P T F hend hgo hno n a ha hn
  refine ⟨h.1, fun h1 => h.2 ?_⟩
  by_cases h2 : ∃ j, a ≤ j ∧ j < N ∧ ¬ P j
  · exact h2
  · refine absurd (fun j hj hj2 => ?_) h1
    by_cases hp : P j
    · exact hp
    · exact absurd ⟨j, hj, hj2, hp⟩ h2
theorem te_depth {G : gs_T} (n : Nat) (hn : 61 < n) {a b : Nat} (hab : a ≤ b) (hb : b < 60) (c : Nat → Nat) (hc : ∀ q, q < 60 → G.2 13 q = nI (c q) ∧ c q ≤ 3) : (cS_isDepthLeft n G (nI a) (nI b) = some 1 ∧ (∀ j, a ≤ j → j < b + 1 → c j < 3)) ∨ (cS_isDepthLeft n G (nI a) (nI b) = some 0 ∧ ¬ (∀ j, a ≤ j → j < b + 1 → c j < 3)) := by
  refine te_or (te_from (fun k i => cS_isDepthLeft_2 n G (nI b) k i) a (b + 1) _ _ _ n (by omega) (by omega) (fun k => ?_) (fun k i hi hp => ?_) (fun k i hi hp => ?_))
  · simp only [cS_isDepthLeft_2, if_pos (nI_lt (show b < b + 1 by omega) (by omega))]
  · simp only [cS_isDepthLeft_2, if_neg (nI_nlt (show i ≤ b by omega) (by omega)), ck_nI _ (show i < 60 by omega) (by decide), ga_nI _ _ (show i < 2 ^ 31 by omega), (hc i (by omega)).1]
    rw [if_pos (show nI (c i) < 3 from nI_lt (b := 3) hp (by omega)), ← nI_succ]
  · simp only [cS_isDepthLeft_2, if_neg (nI_nlt (show i ≤ b by omega) (by omega)), ck_nI _ (show i < 60 by omega) (by decide), ga_nI _ _ (show i < 2 ^ 31 by omega), (hc i (by omega)).1]
    rw [if_neg (show ¬ nI (c i) < 3 from nI_nlt (b := 3) (show 3 ≤ c i by omega) (by have := (hc i (by omega)).2; omega))]
theorem te_around (M : gs_T) {r : Nat} (hr : r < 20) (x : Int32) : (mM_isAround M (nI r) x = some 1 ∧ ((M.2 1 r).toInt ≤ x.toInt ∧ x.toInt ≤ (M.2 2 r).toInt)) ∨ (mM_isAround M (nI r) x = some 0 ∧ ¬ ((M.2 1 r).toInt ≤ x.toInt ∧ x.toInt ≤ (M.2 2 r).toInt)) := by
  unfold mM_isAround
  simp only [ck_nI _ hr (show 20 < 2 ^ 31 by decide), ga_nI _ _ (show r < 2 ^ 31 by omega), li_lt]
  by_cases h1 : x.toInt < (M.2 1 r).toInt
  · exact Or.inr ⟨by rw [if_pos h1], by omega⟩
  · rw [if_neg h1]
    by_cases h2 : (M.2 2 r).toInt < x.toInt
    · exact Or.inr ⟨by rw [if_pos h2], by omega⟩
    · exact Or.inl ⟨by rw [if_neg h2], by omega⟩
theorem te_cnt (M : gs_T) (n : Nat) (x2 : Int32) {b R : Nat} (hb : b < 60) (h7 : M.1 2 = nI R) (hR : R ≤ 20) (K : Int32 → Option Int32) : ∀ k i c, i ≤ R → R - i < k → c = 1 + rc_cnt (M.2 1) (M.2 2) b i → mM_mayRepeat_121 n M x2 (nI b) K k (nI c) (nI i) = K (nI (1 + rc_cnt (M.2 1) (M.2 2) b R)) := by
  intro k
  induction k with
  | zero => intro i c h1 h2; omega
  | succ k ih =>
    intro i c h1 h2 hc
    unfold mM_mayRepeat_121
    rw [h7]
    by_cases hi : i = R
    · subst hi
      rw [if_pos (Int32.le_refl _), hc]
    · rw [if_neg (nI_ge (by omega) (by omega))]
      have hs : rc_cnt (M.2 1) (M.2 2) b (i + 1) = rc_cnt (M.2 1) (M.2 2) b i + (if (M.2 1 i).toInt ≤ b ∧ (b : Int) ≤ (M.2 2 i).toInt then 1 else 0) := rfl
      have eb := nI_toInt (n := b) (by omega)
      rcases te_around M (show i < 20 by omega) (nI b) with ⟨e, h⟩ | ⟨e, h⟩
      · rw [eb] at h
        rw [e]
        simp only [Option.bind_some, if_neg (show ¬ (1 : Int32) = 0 by decide), ← nI_succ]
        exact ih (i + 1) (c + 1) (by omega) (by omega) (by rw [hs, if_pos h, hc]; omega)
      · rw [eb] at h
        rw [e]
        simp only [Option.bind_some, reduceIte, ← nI_succ, show nI c + 0 = nI c by simp]
        exact ih (i + 1) c (by omega) (by omega) (by rw [hs, if_neg h, hc]; rfl)
theorem te_mR {M : gs_T} {R E : Nat} (h2 : M.1 2 = nI R) (hR : R ≤ 20) (h3 : M.1 3 = nI E) (hE : E ≤ 20) (n : Nat) (hn : 61 < n) {a b : Nat} (hab : a ≤ b) (hb : b < 60) :
    (mM_mayRepeat n M (nI a) (nI b) = some 1 ∧ ((∀ r, r < R → ¬ ((M.2 1 r).toInt = a ∧ (M.2 2 r).toInt = b) ∧ rc_lw a b (M.2 1 r).toInt (M.2 2 r).toInt) ∧ (∀ e, e < E → rc_lw a b (M.2 5 e).toInt (M.2 6 e).toInt) ∧ (∀ j : Nat, a ≤ j → j < b + 1 → rc_cnt (M.2 1) (M.2 2) j R < 3) ∧ R < 20)) ∨
    (mM_mayRepeat n M (nI a) (nI b) = some 0 ∧ ¬ ((∀ r, r < R → ¬ ((M.2 1 r).toInt = a ∧ (M.2 2 r).toInt = b) ∧ rc_lw a b (M.2 1 r).toInt (M.2 2 r).toInt) ∧ (∀ e, e < E → rc_lw a b (M.2 5 e).toInt (M.2 6 e).toInt) ∧ (∀ j : Nat, a ≤ j → j < b + 1 → rc_cnt (M.2 1) (M.2 2) j R < 3) ∧ R < 20)) := by
  have ea := nI_toInt (n := a) (by omega)
  have eb := nI_toInt (n := b) (by omega)
  -- the innermost
  have q3 := te_from (fun k i => mM_mayRepeat_110 n M (nI b) k i) a (b + 1) (fun j => rc_cnt (M.2 1) (M.2 2) j R < 3) (if (20 : Int32) ≤ M.1 2 then some 0 else some 1) (some 0) n (by omega) (by omega)
    (fun k => by simp only [mM_mayRepeat_110, if_pos (nI_lt (show b < b + 1 by omega) (by omega))])
    (fun k i hi hp => by
      simp only [mM_mayRepeat_110, if_neg (nI_nlt (show i ≤ b by omega) (by omega))]
      have e := te_cnt M n (nI b) (b := i) (by omega) h2 hR (fun y => if y ≤ (3 : Int32) then mM_mayRepeat_110 n M (nI b) k (nI i + 1) else some 0) n 0 1 (by omega) (by omega) rfl
      rw [← li_n0, ← li_n1] at e
      rw [e, if_pos (show nI _ ≤ 3 from nI_le (b := 3) (by omega) (by omega)), ← nI_succ])
    (fun k i hi hp => by
      simp only [mM_mayRepeat_110, if_neg (nI_nlt (show i ≤ b by omega) (by omega))]
      have e := te_cnt M n (nI b) (b := i) (by omega) h2 hR (fun y => if y ≤ (3 : Int32) then mM_mayRepeat_110 n M (nI b) k (nI i + 1) else some 0) n 0 1 (by omega) (by omega) rfl
      rw [← li_n0, ← li_n1] at e
      have hle : ∀ q, rc_cnt (M.2 1) (M.2 2) i q ≤ q := by
        intro q
        induction q with
        | zero => exact Nat.le_refl 0
        | succ q ih =>
          show rc_cnt (M.2 1) (M.2 2) i q + (if _ then 1 else 0) ≤ q + 1
          split <;> omega
      have := hle R
      rw [e, if_neg (show ¬ nI _ ≤ 3 from nI_ge (b := 1 + rc_cnt (M.2 1) (M.2 2) i R) (a := 3) (by omega) (by omega))])
  have q2 := te_loop (fun k i => mM_mayRepeat_72 n M (nI a) (nI b) (fun _ => mM_mayRepeat_110 n M (nI b) n (nI a)) k i) E (fun e => rc_lw a b (M.2 5 e).toInt (M.2 6 e).toInt) (mM_mayRepeat_110 n M (nI b) n (nI a)) (some 0) n (by omega)
    (fun k => by simp only [mM_mayRepeat_72, h3, if_pos (Int32.le_refl _)])
    (fun k i hi hp => by
      simp only [mM_mayRepeat_72, h3, if_neg (nI_ge hi (by omega)), ck_nI _ (show i < 20 by omega) (by decide), ga_nI _ _ (show i < 2 ^ 31 by omega)]
      rcases te_mwell M (nI a) (nI b) (M.2 5 i) (M.2 6 i) with ⟨e, h⟩ | ⟨e, h⟩
      · rw [e]; simp only [Option.bind_some, if_neg (show ¬ (1 : Int32) = 0 by decide), ← nI_succ]
      · rw [ea, eb] at h; exact absurd hp h)
    (fun k i hi hp => by
      simp only [mM_mayRepeat_72, h3, if_neg (nI_ge hi (by omega)), ck_nI _ (show i < 20 by omega) (by decide), ga_nI _ _ (show i < 2 ^ 31 by omega)]
      rcases te_mwell M (nI a) (nI b) (M.2 5 i) (M.2 6 i) with ⟨e, h⟩ | ⟨e, h⟩
      · rw [ea, eb] at h; exact absurd h hp
      · rw [e]; simp only [Option.bind_some, reduceIte])
  have q1 := te_loop (fun k i => mM_mayRepeat_2 n M (nI a) (nI b) (fun _ => mM_mayRepeat_72 n M (nI a) (nI b) (fun _ => mM_mayRepeat_110 n M (nI b) n (nI a)) n 0) k i) R (fun r => ¬ ((M.2 1 r).toInt = a ∧ (M.2 2 r).toInt = b) ∧ rc_lw a b (M.2 1 r).toInt (M.2 2 r).toInt) (mM_mayRepeat_72 n M (nI a) (nI b) (fun _ => mM_mayRepeat_110 n M (nI b) n (nI a)) n 0) (some 0) n (by omega)
    (fun k => by simp only [mM_mayRepeat_2, h2, if_pos (Int32.le_refl _)])
    (fun k i hi hp => by
      simp only [mM_mayRepeat_2, h2, if_neg (nI_ge hi (by omega)), ck_nI _ (show i < 20 by omega) (by decide), ga_nI _ _ (show i < 2 ^ 31 by omega)]
      rcases te_mwell M (nI a) (nI b) (M.2 1 i) (M.2 2 i) with ⟨e, h⟩ | ⟨e, h⟩
      · rw [e]; simp only [Option.bind_some, if_neg (show ¬ (1 : Int32) = 0 by decide), ← nI_succ]
        simp only [li_eq, ea, eb]
        by_cases h1 : (M.2 1 i).toInt = a
        · rw [if_pos h1, if_neg (fun h => hp.1 ⟨h1, h⟩)]
        · rw [if_neg h1]
      · rw [ea, eb] at h; exact absurd hp.2 h)
    (fun k i hi hp => by
      simp only [mM_mayRepeat_2, h2, if_neg (nI_ge hi (by omega)), ck_nI _ (show i < 20 by omega) (by decide), ga_nI _ _ (show i < 2 ^ 31 by omega)]
      rcases te_mwell M (nI a) (nI b) (M.2 1 i) (M.2 2 i) with ⟨e, h⟩ | ⟨e, h⟩
      · rw [ea, eb] at h
        have h3 : (M.2 1 i).toInt = a ∧ (M.2 2 i).toInt = b := by
          by_cases h4 : (M.2 1 i).toInt = a ∧ (M.2 2 i).toInt = b
          · exact h4
          · exact absurd ⟨h4, h⟩ hp
        simp only [li_eq, ea, eb]
        rw [if_pos h3.1, if_pos h3.2]
      · rw [e]; simp only [Option.bind_some, reduceIte]
        split <;> try rfl
        split <;> rfl)
  have ht : (if (20 : Int32) ≤ M.1 2 then some (0 : Int32) else some 1) = if R < 20 then some 1 else some 0 := by
    rw [h2]
    by_cases h : R < 20
    · rw [if_pos h, if_neg (show ¬ (20 : Int32) ≤ nI R from nI_ge (b := 20) h (by omega))]
    · rw [if_neg h, if_pos (show (20 : Int32) ≤ nI R from nI_le (a := 20) (by omega) (by omega))]
  unfold mM_mayRepeat
  by_cases c1 : ∀ r, r < R → ¬ ((M.2 1 r).toInt = a ∧ (M.2 2 r).toInt = b) ∧ rc_lw a b (M.2 1 r).toInt (M.2 2 r).toInt
  · by_cases c2 : ∀ e, e < E → rc_lw a b (M.2 5 e).toInt (M.2 6 e).toInt
    · by_cases c3 : ∀ j : Nat, a ≤ j → j < b + 1 → rc_cnt (M.2 1) (M.2 2) j R < 3
      · by_cases c4 : R < 20
        · exact Or.inl ⟨(q1.1 c1).trans ((q2.1 c2).trans ((q3.1 c3).trans (by rw [ht, if_pos c4]))), c1, c2, c3, c4⟩
        · exact Or.inr ⟨(q1.1 c1).trans ((q2.1 c2).trans ((q3.1 c3).trans (by rw [ht, if_neg c4]))), fun h => c4 h.2.2.2⟩
      · exact Or.inr ⟨(q1.1 c1).trans ((q2.1 c2).trans (q3.2 c3)), fun h => c3 h.2.2.1⟩
    · exact Or.inr ⟨(q1.1 c1).trans (q2.2 c2), fun h => c2 h.2.1⟩
  · exact Or.inr ⟨q1.2 c1, fun h => c1 h.1⟩
