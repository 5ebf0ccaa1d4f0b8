/-! ===== own: fold: the table of all parts ===== -/
def fc_c (G G' : gs_T) : Prop := G'.1 = G.1 ∧ ∀ q, q ≠ 25 → q ≠ 26 → G'.2 q = G.2 q
def fc_m (M M' : gs_T) : Prop := M'.1 = M.1 ∧ ∀ q, q ≠ 21 → q ≠ 22 → q ≠ 23 → M'.2 q = M.2 q
def fc_T (G M : gs_T) (N L s : Nat) : Prop := ∀ a z, 1 ≤ z → a + z ≤ N → (z < L ∨ (z = L ∧ a < s)) → fb_D G M a z
theorem fc_keep {G G' M M' : gs_T} {c a z : Nat} (h : fb_D G M a z) (hc : fb_c G G' c) (hm : fb_m M M' c) (hne : 41 * a + z ≠ c) : fb_D G' M' a z := by
  have e1 := hc.2.2 _ hne
  have e2 := hm.2.2 _ hne
  unfold fb_D fb_BL fb_PT at *
  rw [e1.1, e1.2, e2.1, e2.2.1, e2.2.2]
  exact h
theorem fc_inner (n : Nat) (hn : 61 < n) {G M : gs_T} {N L : Nat} (hN : N ≤ 40) (hL : 1 ≤ L) (hrow : ∀ k, k < N → G.2 23 k = M.2 20 k) (hal : ∀ a b, a < b → b < N → ∃ v, G.2 24 (41 * a + b) = nI v ∧ fa_lk (G.2 23) N a b v) (K Km : gs_T → Option (Int32 × gs_T)) :
    ∀ (s k km a : Nat) (G' M' : gs_T), a + s + L = N + 1 → s < k → s < km → fc_c G G' → fc_m M M' → fc_T G' M' N L a →
      ∃ G'' M'' : gs_T, cT_writeRow_14 n (nI N) (nI L) K k (nI a) G' = K G'' ∧ mM_fold_107 n (nI N) (nI L) Km km (nI a) M' = Km M'' ∧ fc_c G G'' ∧ fc_m M M'' ∧ fc_T G'' M'' N (L + 1) 0 := by
  intro s
  induction s with
  | zero =>
    intro k km a G' M' hs hk hkm hc hm hT
    obtain ⟨k, rfl⟩ : ∃ q, k = q + 1 := ⟨k - 1, by omega⟩
    obtain ⟨km, rfl⟩ : ∃ q, km = q + 1 := ⟨km - 1, by omega⟩
    have hlt : nI N < nI a + nI L := by rw [nI_add]; exact nI_lt (by omega) (by omega)
    refine ⟨G', M', by rw [cT_writeRow_14, if_pos hlt], by rw [mM_fold_107, if_pos hlt], hc, hm, fun b z h1 h2 h3 => hT b z h1 h2 ?_⟩
    omega
  | succ s ih =>
    intro k km a G' M' hs hk hkm hc hm hT
    obtain ⟨k, rfl⟩ : ∃ q, k = q + 1 := ⟨k - 1, by omega⟩
    obtain ⟨km, rfl⟩ : ∃ q, km = q + 1 := ⟨km - 1, by omega⟩
    have hlt : ¬ nI N < nI a + nI L := by rw [nI_add]; exact nI_nlt (by omega) (by omega)
    have h23 : G'.2 23 = G.2 23 := hc.2 23 (by decide) (by decide)
    have h24 : G'.2 24 = G.2 24 := hc.2 24 (by decide) (by decide)
    have h20 : M'.2 20 = M.2 20 := hm.2 20 (by decide) (by decide) (by decide)
    have hF : fb_F G' M' N L := fun b z h1 h2 h3 => (hT b z h1 h3 (Or.inl h2)).1
    obtain ⟨G2, M2, u1, u2, u3, u4, u5⟩ := fb_choose n hn (G := G') (M := M') (a := a) (size := L) hN (by omega) hL (by rw [h23, h20]; exact hrow) (by rw [h23, h24]; exact hal) hF
    obtain ⟨G3, M3, v1, v2, v3, v4, v5⟩ := ih k km (a + 1) G2 M2 (by omega) (by omega) (by omega) ⟨u3.1.trans hc.1, fun q q1 q2 => (u3.2.1 q q1 q2).trans (hc.2 q q1 q2)⟩ ⟨u4.1.trans hm.1, fun q q1 q2 q3 => (u4.2.1 q q1 q2 q3).trans (hm.2 q q1 q2 q3)⟩ (fun b z h1 h2 h3 => by
      by_cases hbz : b = a ∧ z = L
      · rw [hbz.1, hbz.2]; exact u5
      · exact fc_keep (hT b z h1 h2 (by omega)) u3 u4 (by omega))
    refine ⟨G3, M3, ?_, ?_, v3, v4, v5⟩
    · rw [cT_writeRow_14, if_neg hlt, u1, Option.bind_some, ← nI_succ]
      exact v1
    · rw [mM_fold_107, if_neg hlt, u2, Option.bind_some, ← nI_succ]
      exact v2
theorem fc_outer (n : Nat) (hn : 61 < n) {G M : gs_T} {N : Nat} (hN : N ≤ 40) (hrow : ∀ k, k < N → G.2 23 k = M.2 20 k) (hal : ∀ a b, a < b → b < N → ∃ v, G.2 24 (41 * a + b) = nI v ∧ fa_lk (G.2 23) N a b v) :
    ∀ (s k km L : Nat) (G' M' : gs_T), L + s = N + 1 → 1 ≤ L → s < k → s < km → fc_c G G' → fc_m M M' → fc_T G' M' N L 0 →
      ∃ G'' M'' : gs_T, cT_writeRow_7 n (nI N) k (nI L) G' = ((cT_writeItems n G'' (nI N)).bind fun q1 => some ((q1.1 12), q1)) ∧ mM_fold_98 n (nI N) km (nI L) M' = ((mM_write n (gs_sv (gs_sv M'' 11 (0 : Int32)) 12 (0 : Int32)) (nI N)).bind fun q1 => some ((q1.1 12), q1)) ∧ fc_c G G'' ∧ fc_m M M'' ∧ fc_T G'' M'' N (N + 1) 0 := by
  intro s
  induction s with
  | zero =>
    intro k km L G' M' hs hL hk hkm hc hm hT
    obtain ⟨k, rfl⟩ : ∃ q, k = q + 1 := ⟨k - 1, by omega⟩
    obtain ⟨km, rfl⟩ : ∃ q, km = q + 1 := ⟨km - 1, by omega⟩
    have hlt : nI N < nI L := nI_lt (by omega) (by omega)
    have hLe : L = N + 1 := by omega
    subst hLe
    exact ⟨G', M', by rw [cT_writeRow_7, if_pos hlt], by rw [mM_fold_98, if_pos hlt], hc, hm, hT⟩
  | succ s ih =>
    intro k km L G' M' hs hL hk hkm hc hm hT
    obtain ⟨k, rfl⟩ : ∃ q, k = q + 1 := ⟨k - 1, by omega⟩
    obtain ⟨km, rfl⟩ : ∃ q, km = q + 1 := ⟨km - 1, by omega⟩
    have hlt : ¬ nI N < nI L := nI_nlt (by omega) (by omega)
    have h23 : G'.2 23 = G.2 23 := hc.2 23 (by decide) (by decide)
    have h24 : G'.2 24 = G.2 24 := hc.2 24 (by decide) (by decide)
    have h20 : M'.2 20 = M.2 20 := hm.2 20 (by decide) (by decide) (by decide)
    obtain ⟨G2, M2, u1, u2, u3, u4, u5⟩ := fc_inner n hn (G := G') (M := M') (L := L) hN hL (by rw [h23, h20]; exact hrow) (by rw [h23, h24]; exact hal) (fun G1 => cT_writeRow_7 n (nI N) k (nI (L + 1)) G1) (fun G1 => mM_fold_98 n (nI N) km (nI (L + 1)) G1) (N + 1 - L) n n 0 G' M' (by omega) (by omega) (by omega) ⟨rfl, fun _ _ _ => rfl⟩ ⟨rfl, fun _ _ _ _ => rfl⟩ hT
    rw [← li_n0] at u1 u2
    obtain ⟨G3, M3, v1, v2, v3, v4, v5⟩ := ih k km (L + 1) G2 M2 (by omega) (by omega) (by omega) (by omega) ⟨u3.1.trans hc.1, fun q q1 q2 => (u3.2 q q1 q2).trans (hc.2 q q1 q2)⟩ ⟨u4.1.trans hm.1, fun q q1 q2 q3 => (u4.2 q q1 q2 q3).trans (hm.2 q q1 q2 q3)⟩ u5
    refine ⟨G3, M3, ?_, ?_, v3, v4, v5⟩
    · rw [cT_writeRow_7, if_neg hlt, ← nI_succ, u1]
      exact v1
    · rw [mM_fold_98, if_neg hlt, ← nI_succ, u2]
      exact v2
