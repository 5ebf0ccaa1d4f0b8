/-! ===== own: fold: the row, and what is alike in it ===== -/
def fa_lk (row : Nat → Int32) (N i j v : Nat) : Prop := j + v ≤ N ∧ (∀ k, k < v → row (i + k) = row (j + k)) ∧ (j + v < N → row (i + v) ≠ row (j + v))
theorem fa_iff {row : Nat → Int32} {N i j v : Nat} (h : fa_lk row N i j v) {L : Nat} (hL : j + L ≤ N) : L ≤ v ↔ ∀ k, k < L → row (i + k) = row (j + k) := by
  obtain ⟨h1, h2, h3⟩ := h
  constructor
  · intro h4 k hk
    exact h2 k (by omega)
  · intro h4
    by_cases h5 : L ≤ v
    · exact h5
    · exact absurd (h4 v (by omega)) (h3 (by omega))
theorem fa_cell (G : gs_T) {a b : Nat} (ha : a < 60) (hb : b < 60) : cT_cell G (nI a) (nI b) = some (nI (41 * a + b)) := by
  unfold cT_cell
  congr 1
  have ea := nI_toInt (n := a) (by omega)
  have eb := nI_toInt (n := b) (by omega)
  have e41 : (41 : Int32).toInt = 41 := by decide
  have e1 : (nI a * 41).toInt = (a : Int) * 41 := by rw [li_mul] <;> rw [ea, e41] <;> omega
  refine li_nI (by omega) ?_
  rw [li_add] <;> rw [e1, eb] <;> omega
/-- all that the class's other parts need of the state stays -/
def fa_fr (G G' : gs_T) (k : Nat) : Prop := G'.1 = G.1 ∧ ∀ q, q ≠ k → G'.2 q = G.2 q
theorem fa_inner (n : Nat) {N i : Nat} (hN : N ≤ 40) (hi : i < N) (G : gs_T) (K : gs_T → Option gs_T)
    (hG : ∀ a b, i < a → a < b → b < N → ∃ v, G.2 24 (41 * a + b) = nI v ∧ fa_lk (G.2 23) N a b v) :
    ∀ (s k j : Nat) (G' : gs_T), j = i + s → j < N → s < k → fa_fr G G' 24 → (∀ a b, i < a → a < b → b < N → ∃ v, G'.2 24 (41 * a + b) = nI v ∧ fa_lk (G.2 23) N a b v) → (∀ b, j < b → b < N → ∃ v, G'.2 24 (41 * i + b) = nI v ∧ fa_lk (G.2 23) N i b v) →
      ∃ G'' : gs_T, cT_compareContents_12 n (nI N) (nI i) K k (nI j) G' = K G'' ∧ fa_fr G G'' 24 ∧ (∀ a b, i ≤ a → a < b → b < N → ∃ v, G''.2 24 (41 * a + b) = nI v ∧ fa_lk (G.2 23) N a b v) := by
  intro s
  induction s with
  | zero =>
    intro k j G' hj hjN hk hf h1 h2
    obtain ⟨k, rfl⟩ : ∃ q, k = q + 1 := ⟨k - 1, by omega⟩
    have hji : j = i := by omega
    subst hji
    refine ⟨G', by simp only [cT_compareContents_12, if_pos (Int32.le_refl _)], hf, fun a b ha hab hb => ?_⟩
    by_cases hai : a = j
    · subst hai; exact h2 b hab hb
    · exact h1 a b (by omega) hab hb
  | succ s ih =>
    intro k j G' hj hjN hk hf h1 h2
    obtain ⟨k, rfl⟩ : ∃ q, k = q + 1 := ⟨k - 1, by omega⟩
    obtain ⟨j', rfl⟩ : ∃ q, j = q + 1 := ⟨j - 1, by omega⟩
    have hnle : ¬ nI (j' + 1) ≤ nI i := nI_ge (by omega) (by omega)
    have hc1 := fa_cell G' (show i < 60 by omega) (show j' + 1 < 60 by omega)
    have hcl : (nI (41 * i + (j' + 1))).toNatClampNeg = 41 * i + (j' + 1) := nI_clamp (by omega)
    have r1 : gs_a G' 23 (nI i) = G.2 23 i := by rw [ga_nI _ _ (by omega), hf.2 23 (by decide)]
    have r2 : gs_a G' 23 (nI (j' + 1)) = G.2 23 (j' + 1) := by rw [ga_nI _ _ (by omega), hf.2 23 (by decide)]
    -- the value that is written
    have hval : ∃ v, fa_lk (G.2 23) N i (j' + 1) v ∧ cT_compareContents_12 n (nI N) (nI i) K (k + 1) (nI (j' + 1)) G' = cT_compareContents_12 n (nI N) (nI i) K k (nI j') (gs_sa G' 24 (nI (41 * i + (j' + 1))) (nI v)) := by
      by_cases hlast : N ≤ j' + 1 + 1
      · have hle : nI N ≤ nI (j' + 1) + 1 := by rw [← nI_succ]; exact nI_le hlast (by omega)
        by_cases heq : G.2 23 i = G.2 23 (j' + 1)
        · refine ⟨1, ⟨by omega, fun q hq => ?_, fun h => by omega⟩, ?_⟩
          · have : q = 0 := by omega
            subst this; exact heq
          · simp only [cT_compareContents_12, if_neg hnle, if_pos hle, hc1, Option.bind_some, ck_nI _ (show i < 40 by omega) (show 40 < 2 ^ 31 by decide), ck_nI _ (show j' + 1 < 40 by omega) (show 40 < 2 ^ 31 by decide), r1, r2, if_pos heq, ck_nI _ (show 41 * i + (j' + 1) < 1681 by omega) (show 1681 < 2 ^ 31 by decide), nI_dec]
            rfl
        · refine ⟨0, ⟨by omega, fun q hq => by omega, fun h => heq⟩, ?_⟩
          simp only [cT_compareContents_12, if_neg hnle, if_pos hle, hc1, Option.bind_some, ck_nI _ (show i < 40 by omega) (show 40 < 2 ^ 31 by decide), ck_nI _ (show j' + 1 < 40 by omega) (show 40 < 2 ^ 31 by decide), r1, r2, if_neg heq, ck_nI _ (show 41 * i + (j' + 1) < 1681 by omega) (show 1681 < 2 ^ 31 by decide), nI_dec]
          rfl
      · have hle : ¬ nI N ≤ nI (j' + 1 + 1) := nI_ge (by omega) (by omega)
        obtain ⟨w, w1, w2⟩ := h1 (i + 1) (j' + 1 + 1) (by omega) (by omega) (by omega)
        have hc2 := fa_cell G' (show i + 1 < 60 by omega) (show j' + 1 + 1 < 60 by omega)
        have r3 : gs_a G' 24 (nI (41 * (i + 1) + (j' + 1 + 1))) = nI w := by rw [ga_nI _ _ (by omega), w1]
        by_cases heq : G.2 23 i = G.2 23 (j' + 1)
        · refine ⟨w + 1, ⟨by have := w2.1; omega, fun q hq => ?_, fun h => ?_⟩, ?_⟩
          · by_cases hq0 : q = 0
            · subst hq0; exact heq
            · have h5 := w2.2.1 (q - 1) (by omega)
              rw [show i + 1 + (q - 1) = i + q by omega, show j' + 1 + 1 + (q - 1) = j' + 1 + q by omega] at h5
              exact h5
          · have h5 := w2.2.2 (by omega)
            rw [show i + 1 + w = i + (w + 1) by omega, show j' + 1 + 1 + w = j' + 1 + (w + 1) by omega] at h5
            exact h5
          · simp only [cT_compareContents_12, if_neg hnle, ← nI_succ, if_neg hle, hc1, hc2, Option.bind_some, ck_nI _ (show 41 * (i + 1) + (j' + 1 + 1) < 1681 by omega) (show 1681 < 2 ^ 31 by decide), ck_nI _ (show i < 40 by omega) (show 40 < 2 ^ 31 by decide), ck_nI _ (show j' + 1 < 40 by omega) (show 40 < 2 ^ 31 by decide), r1, r2, r3, if_pos heq, ck_nI _ (show 41 * i + (j' + 1) < 1681 by omega) (show 1681 < 2 ^ 31 by decide), nI_dec]
        · refine ⟨0, ⟨by omega, fun q hq => by omega, fun h => heq⟩, ?_⟩
          simp only [cT_compareContents_12, if_neg hnle, ← nI_succ, if_neg hle, hc1, hc2, Option.bind_some, ck_nI _ (show 41 * (i + 1) + (j' + 1 + 1) < 1681 by omega) (show 1681 < 2 ^ 31 by decide), ck_nI _ (show i < 40 by omega) (show 40 < 2 ^ 31 by decide), ck_nI _ (show j' + 1 < 40 by omega) (show 40 < 2 ^ 31 by decide), r1, r2, if_neg heq, ck_nI _ (show 41 * i + (j' + 1) < 1681 by omega) (show 1681 < 2 ^ 31 by decide), nI_dec]
          rfl
    obtain ⟨v, v1, v2⟩ := hval
    rw [v2]
    refine ih k j' _ (by omega) (by omega) (by omega) ⟨hf.1, fun q hq => by simp only [sa_2, if_neg hq]; exact hf.2 q hq⟩ (fun a b ha hab hb => ?_) (fun b hjb hb => ?_)
    · simp only [sa_2, reduceIte, hcl]
      rw [ud_n _ _ (by omega)]
      exact h1 a b ha hab hb
    · simp only [sa_2, reduceIte, hcl]
      by_cases hbe : b = j' + 1
      · subst hbe
        rw [ud_s]
        exact ⟨v, rfl, v1⟩
      · rw [ud_n _ _ (by omega)]
        exact h2 b (by omega) hb
theorem fa_outer (n : Nat) (hn : 61 < n) {N : Nat} (hN : N ≤ 40) (G : gs_T) : ∀ (m k : Nat) (G' : gs_T), m ≤ N → m < k → fa_fr G G' 24 → (∀ a b, m ≤ a → a < b → b < N → ∃ v, G'.2 24 (41 * a + b) = nI v ∧ fa_lk (G.2 23) N a b v) →
    ∃ G'' : gs_T, cT_compareContents_4 n (nI N) k (nI m - 1) G' = some G'' ∧ fa_fr G G'' 24 ∧ (∀ a b, a < b → b < N → ∃ v, G''.2 24 (41 * a + b) = nI v ∧ fa_lk (G.2 23) N a b v) := by
  intro m
  induction m with
  | zero =>
    intro k G' h1 h2 hf h3
    obtain ⟨k, rfl⟩ : ∃ q, k = q + 1 := ⟨k - 1, by omega⟩
    refine ⟨G', ?_, hf, fun a b hab hb => h3 a b (Nat.zero_le a) hab hb⟩
    rw [ue_m1]
    simp only [cT_compareContents_4, if_pos (show (-1 : Int32) < 0 by decide)]
  | succ m ih =>
    intro k G' h1 h2 hf h3
    obtain ⟨k, rfl⟩ : ∃ q, k = q + 1 := ⟨k - 1, by omega⟩
    have hf23 : G'.2 23 = G.2 23 := hf.2 23 (by decide)
    obtain ⟨G2, q1, q2, q3⟩ := fa_inner n hN (show m < N by omega) G' (fun G0 => cT_compareContents_4 n (nI N) k (nI m + (-1)) G0) (fun a b ha hab hb => by rw [hf23]; exact h3 a b (by omega) hab hb) (N - 1 - m) n (N - 1) G' (by omega) (by omega) (by omega) ⟨rfl, fun _ _ => rfl⟩ (fun a b ha hab hb => by rw [hf23]; exact h3 a b (by omega) hab hb) (fun b hb1 hb2 => by omega)
    have hf2 : fa_fr G G2 24 := ⟨q2.1.trans hf.1, fun q hq => (q2.2 q hq).trans (hf.2 q hq)⟩
    rw [hf23] at q3
    obtain ⟨G3, u1, u2, u3⟩ := ih k G2 (by omega) (by omega) hf2 (fun a b ha hab hb => q3 a b ha hab hb)
    refine ⟨G3, ?_, u2, u3⟩
    have hN1 : nI N - 1 = nI (N - 1) := by
      obtain ⟨N', rfl⟩ : ∃ q, N = q + 1 := ⟨N - 1, by omega⟩
      exact nI_pred N'
    rw [nI_pred, cT_compareContents_4, if_neg (nI_pos (by omega)), hN1, q1, ue_sub1]
    exact u1
theorem fa_compare (n : Nat) (hn : 61 < n) {N : Nat} (hN : N ≤ 40) (G : gs_T) : ∃ G'' : gs_T, cT_compareContents n G (nI N) = some G'' ∧ fa_fr G G'' 24 ∧ (∀ a b, a < b → b < N → ∃ v, G''.2 24 (41 * a + b) = nI v ∧ fa_lk (G.2 23) N a b v) :=
  fa_outer n hn hN G N n G (Nat.le_refl N) (by omega) ⟨rfl, fun _ _ => rfl⟩ (fun a b ha hab hb => by omega)
/-- the model's test: the loop over k from a step on -/
theorem fa_again_l (n : Nat) {M : gs_T} {N a size step : Nat} (hN : N ≤ 40) (h1 : a + size ≤ N) (h2 : 1 ≤ step) (h3 : step ≤ size) : ∀ (s k i : Nat) (y : Int32), i + s = size → step ≤ i → s < k → (y = 0 ∨ y = 1) →
    ((y = 1 ∧ ∀ q, i ≤ q → q < size → M.2 20 (a + q) = M.2 20 (a + q - step)) → mM_isAgain_16 n M (nI a) (nI size) (nI step) k y (nI i) = some 1) ∧ (¬ (y = 1 ∧ ∀ q, i ≤ q → q < size → M.2 20 (a + q) = M.2 20 (a + q - step)) → mM_isAgain_16 n M (nI a) (nI size) (nI step) k y (nI i) = some 0) := by
  intro s
  induction s with
  | zero =>
    intro k i y hi hs hk hy
    obtain ⟨k, rfl⟩ : ∃ q, k = q + 1 := ⟨k - 1, by omega⟩
    have hie : i = size := by omega
    subst hie
    have e : mM_isAgain_16 n M (nI a) (nI i) (nI step) (k + 1) y (nI i) = some y := by
      simp only [mM_isAgain_16, if_pos (Int32.le_refl _), gs_bz, if_pos hy]
    rw [e]
    rcases hy with rfl | rfl
    · exact ⟨fun h => absurd h.1 (by decide), fun _ => rfl⟩
    · exact ⟨fun _ => rfl, fun h => absurd ⟨rfl, fun q h4 h5 => by omega⟩ h⟩
  | succ s ih =>
    intro k i y hi hs hk hy
    obtain ⟨k, rfl⟩ : ∃ q, k = q + 1 := ⟨k - 1, by omega⟩
    have hge := nI_ge (show i < size by omega) (show size < 2 ^ 31 by omega)
    rcases hy with rfl | rfl
    · have e : mM_isAgain_16 n M (nI a) (nI size) (nI step) (k + 1) 0 (nI i) = some 0 := by
        simp only [mM_isAgain_16, if_neg hge, reduceIte, gs_bz, true_or, if_true]
      rw [e]
      exact ⟨fun h => absurd h.1 (by decide), fun _ => rfl⟩
    · have hsub : nI (a + i) - nI step = nI (a + i - step) := by
        have e1 := nI_toInt (n := a + i) (by omega)
        have e2 := nI_toInt (n := step) (by omega)
        refine li_nI (by omega) ?_
        rw [li_sub] <;> rw [e1, e2] <;> omega
      have e : mM_isAgain_16 n M (nI a) (nI size) (nI step) (k + 1) 1 (nI i) = if M.2 20 (a + i) = M.2 20 (a + i - step) then mM_isAgain_16 n M (nI a) (nI size) (nI step) k 1 (nI (i + 1)) else mM_isAgain_16 n M (nI a) (nI size) (nI step) k 0 (nI (i + 1)) := by
        simp only [mM_isAgain_16, if_neg hge, if_neg (show ¬ (1 : Int32) = 0 by decide), nI_add, hsub, ck_nI _ (show a + i < 40 by omega) (show 40 < 2 ^ 31 by decide), ck_nI _ (show a + i - step < 40 by omega) (show 40 < 2 ^ 31 by decide), ga_nI _ _ (show a + i < 2 ^ 31 by omega), ga_nI _ _ (show a + i - step < 2 ^ 31 by omega), ← nI_succ]
      rw [e]
      by_cases heq : M.2 20 (a + i) = M.2 20 (a + i - step)
      · rw [if_pos heq]
        have h4 := ih k (i + 1) 1 (by omega) (by omega) (by omega) (Or.inr rfl)
        refine ⟨fun h => h4.1 ⟨rfl, fun q h5 h6 => h.2 q (by omega) h6⟩, fun h => h4.2 (fun h5 => h ⟨rfl, fun q h6 h7 => ?_⟩)⟩
        by_cases hq : q = i
        · subst hq; exact heq
        · exact h5.2 q (by omega) h7
      · rw [if_neg heq]
        have h4 := ih k (i + 1) 0 (by omega) (by omega) (by omega) (Or.inl rfl)
        exact ⟨fun h => absurd (h.2 i (Nat.le_refl i) (by omega)) heq, fun _ => h4.2 (fun h5 => absurd h5.1 (by decide))⟩
theorem fa_again (n : Nat) (hn : 61 < n) {M : gs_T} {N a size step : Nat} (hN : N ≤ 40) (h1 : a + size ≤ N) (h2 : 1 ≤ step) (h3 : step ≤ size) :
    (mM_isAgain n M (nI a) (nI size) (nI step) = some 1 ∧ (nI size - nI size / nI step * nI step = 0 ∧ ∀ k, k < size - step → M.2 20 (a + k) = M.2 20 (a + step + k))) ∨ (mM_isAgain n M (nI a) (nI size) (nI step) = some 0 ∧ ¬ (nI size - nI size / nI step * nI step = 0 ∧ ∀ k, k < size - step → M.2 20 (a + k) = M.2 20 (a + step + k))) := by
  have hne : ¬ nI step = 0 := nI_ne0 (by omega) (by omega)
  have hl := fun y hy => fa_again_l n (M := M) hN h1 h2 h3 (size - step) n step y (by omega) (Nat.le_refl _) (by omega) hy
  have hconv : (∀ q, step ≤ q → q < size → M.2 20 (a + q) = M.2 20 (a + q - step)) ↔ ∀ k, k < size - step → M.2 20 (a + k) = M.2 20 (a + step + k) := by
    constructor
    · intro h k hk
      have := h (step + k) (by omega) (by omega)
      rw [show a + (step + k) = a + step + k by omega, show a + step + k - step = a + k by omega] at this
      exact this.symm
    · intro h q h4 h5
      have := h (q - step) (by omega)
      rw [show a + (q - step) = a + q - step by omega, show a + step + (q - step) = a + q by omega] at this
      exact this.symm
  unfold mM_isAgain mM_isAgain_j11 gs_nz
  rw [if_neg hne]
  by_cases hm : nI size - nI size / nI step * nI step = 0
  · rw [if_pos hm]
    by_cases hall : ∀ k, k < size - step → M.2 20 (a + k) = M.2 20 (a + step + k)
    · exact Or.inl ⟨(hl 1 (Or.inr rfl)).1 ⟨rfl, hconv.mpr hall⟩, hm, hall⟩
    · exact Or.inr ⟨(hl 1 (Or.inr rfl)).2 (fun h => hall (hconv.mp h.2)), fun h => hall h.2⟩
  · rw [if_neg hm]
    exact Or.inr ⟨(hl 0 (Or.inl rfl)).2 (fun h => absurd h.1 (by decide)), fun h => hm h.1⟩
