/-! ===== own: fold: a part's best writing, on both sides ===== -/
theorem fb_41 {a : Nat} (ha : a < 100) : (41 : Int32) * nI a = nI (41 * a) := by
  have ea := nI_toInt (n := a) (by omega)
  have e41 : (41 : Int32).toInt = 41 := by decide
  refine li_nI (by omega) ?_
  rw [li_mul] <;> rw [ea, e41] <;> omega
theorem fb_sub {s i : Nat} (h : i ≤ s) (hs : s < 10000) : nI s - nI i = nI (s - i) := by
  have e1 := nI_toInt (n := s) (by omega)
  have e2 := nI_toInt (n := i) (by omega)
  refine li_nI (by omega) ?_
  rw [li_sub] <;> rw [e1, e2] <;> omega
theorem fb_2 {i : Nat} (hi : i < 10000) : (2 : Int32) * nI i = nI (2 * i) := by
  have e1 := nI_toInt (n := i) (by omega)
  refine li_nI (by omega) ?_
  rw [li_mul] <;> rw [e1, li_2] <;> omega
/-- the frame of a cell -/
def fb_c (G G' : gs_T) (c : Nat) : Prop := G'.1 = G.1 ∧ (∀ q, q ≠ 25 → q ≠ 26 → G'.2 q = G.2 q) ∧ (∀ i, i ≠ c → G'.2 25 i = G.2 25 i ∧ G'.2 26 i = G.2 26 i)
def fb_m (M M' : gs_T) (c : Nat) : Prop := M'.1 = M.1 ∧ (∀ q, q ≠ 21 → q ≠ 22 → q ≠ 23 → M'.2 q = M.2 q) ∧ (∀ i, i ≠ c → M'.2 21 i = M.2 21 i ∧ M'.2 22 i = M.2 22 i ∧ M'.2 23 i = M.2 23 i)
/-- what is known of a smaller part -/
def fb_F (G M : gs_T) (N size : Nat) : Prop := ∀ a s, 1 ≤ s → s < size → a + s ≤ N → ∃ v, 1 ≤ v ∧ v ≤ s ∧ G.2 25 (41 * a + s) = nI v ∧ M.2 21 (41 * a + s) = nI v
def fb_BL (G M : gs_T) (c size : Nat) : Prop := ∃ b, 1 ≤ b ∧ 2 * b ≤ size ∧ G.2 26 c = nI b ∧ M.2 22 c = nI b
def fb_PT (G M : gs_T) (c size : Nat) : Prop := ∃ f, 1 ≤ f ∧ f < size ∧ G.2 26 c = -nI f ∧ M.2 22 c = 0 ∧ M.2 23 c = nI f
def fb_S (G M : gs_T) (c size : Nat) : Prop := (G.2 25 c = nI (size + 1) ∧ M.2 21 c = nI 1000 ∧ M.2 22 c = 0) ∨ (∃ v, 1 ≤ v ∧ v ≤ size ∧ G.2 25 c = nI v ∧ M.2 21 c = nI v ∧ fb_BL G M c size)
theorem fb_blocks (n : Nat) (hn : 61 < n) {G M : gs_T} {N a size : Nat} (hN : N ≤ 40) (h1 : a + size ≤ N) (h2 : 2 ≤ size) (hrow : ∀ k, k < N → G.2 23 k = M.2 20 k) (hal : ∀ a b, a < b → b < N → ∃ v, G.2 24 (41 * a + b) = nI v ∧ fa_lk (G.2 23) N a b v) (hF : fb_F G M N size) (K : gs_T → Option gs_T) :
    ∀ (s k km i : Nat) (G' M' : gs_T), i + s = size → 1 ≤ i → s < k → s < km → fb_c G G' (41 * a + size) → fb_m M M' (41 * a + size) → fb_S G' M' (41 * a + size) size →
      ∃ G'' M'' : gs_T, cT_chooseBlock_9 n (nI a) (nI size) (nI (41 * a + size)) k (nI i) G' = some G'' ∧ mM_findWay_42 n (nI a) (nI size) (nI (41 * a + size)) K km (nI i) M' = K M'' ∧ fb_c G G'' (41 * a + size) ∧ fb_m M M'' (41 * a + size) ∧ fb_S G'' M'' (41 * a + size) size := by
  have hc31 : 41 * a + size < 2 ^ 31 := by omega
  have hcl : (nI (41 * a + size)).toNatClampNeg = 41 * a + size := nI_clamp hc31
  intro s
  induction s with
  | zero =>
    intro k km i G' M' hi h3 hk hkm hc hm hS
    obtain ⟨k, rfl⟩ : ∃ q, k = q + 1 := ⟨k - 1, by omega⟩
    obtain ⟨km, rfl⟩ : ∃ q, km = q + 1 := ⟨km - 1, by omega⟩
    have hlt : nI size < (2 : Int32) * nI i := by rw [fb_2 (by omega)]; exact nI_lt (by omega) (by omega)
    exact ⟨G', M', by simp only [cT_chooseBlock_9, if_pos hlt], by simp only [mM_findWay_42, if_pos hlt], hc, hm, hS⟩
  | succ s ih =>
    intro k km i G' M' hi h3 hk hkm hc hm hS
    obtain ⟨k, rfl⟩ : ∃ q, k = q + 1 := ⟨k - 1, by omega⟩
    obtain ⟨km, rfl⟩ : ∃ q, km = q + 1 := ⟨km - 1, by omega⟩
    by_cases hlt : size < 2 * i
    · have hlt' : nI size < (2 : Int32) * nI i := by rw [fb_2 (by omega)]; exact nI_lt hlt (by omega)
      exact ⟨G', M', by simp only [cT_chooseBlock_9, if_pos hlt'], by simp only [mM_findWay_42, if_pos hlt'], hc, hm, hS⟩
    · have hlt' : ¬ nI size < (2 : Int32) * nI i := by rw [fb_2 (by omega)]; exact nI_nlt (by omega) (by omega)
      have hne0 : ¬ nI i = 0 := nI_ne0 (by omega) (by omega)
      obtain ⟨w, w1, w2⟩ := hal a (a + i) (by omega) (by omega)
      obtain ⟨v, v1, v2, v3, v4⟩ := hF a i h3 (by omega) (by omega)
      have hci : 41 * a + i ≠ 41 * a + size := by omega
      have g24 : gs_a G' 24 (nI (41 * a + (a + i))) = nI w := by rw [ga_nI _ _ (by omega), hc.2.1 24 (by decide) (by decide), w1]
      have g25 : gs_a G' 25 (nI (41 * a + i)) = nI v := by rw [ga_nI _ _ (by omega), (hc.2.2 _ hci).1, v3]
      have g21 : gs_a M' 21 (nI (41 * a + i)) = nI v := by rw [ga_nI _ _ (by omega), (hm.2.2 _ hci).1, v4]
      have hcell1 := fa_cell G' (show a < 60 by omega) (show a + i < 60 by omega)
      have hcell2 := fa_cell G' (show a < 60 by omega) (show i < 60 by omega)
      have hix : (41 : Int32) * nI a + nI i = nI (41 * a + i) := by rw [fb_41 (by omega), nI_add]
      have k1681 : ∀ (q : Nat) (t : Option gs_T), q < 1640 → gs_ck (nI q) 1681 t = t := fun q t hq => ck_nI t (by omega) (by decide)
      have k1640 : ∀ (q : Nat) (t : Option gs_T), q < 1640 → gs_ck (nI q) 1640 t = t := fun q t hq => ck_nI t hq (by decide)
      have b1 : 41 * a + size < 1640 := by omega
      have b2 : 41 * a + i < 1640 := by omega
      have b3 : 41 * a + (a + i) < 1640 := by omega
      -- the two steps
      have eC : cT_chooseBlock_9 n (nI a) (nI size) (nI (41 * a + size)) (k + 1) (nI i) G' = if nI size - nI size / nI i * nI i = 0 then (if nI w < nI (size - i) then cT_chooseBlock_9 n (nI a) (nI size) (nI (41 * a + size)) k (nI (i + 1)) G' else if G'.2 25 (41 * a + size) ≤ nI v then cT_chooseBlock_9 n (nI a) (nI size) (nI (41 * a + size)) k (nI (i + 1)) G' else cT_chooseBlock_9 n (nI a) (nI size) (nI (41 * a + size)) k (nI (i + 1)) (gs_sa (gs_sa G' 25 (nI (41 * a + size)) (nI v)) 26 (nI (41 * a + size)) (nI i))) else cT_chooseBlock_9 n (nI a) (nI size) (nI (41 * a + size)) k (nI (i + 1)) G' := by
        simp only [cT_chooseBlock_9, if_neg hlt', gs_nz, if_neg hne0, nI_add, hcell1, hcell2, Option.bind_some, k1681 _ _ b1, k1681 _ _ b2, k1681 _ _ b3, g24, g25, ga_nI _ _ hc31, fb_sub (show i ≤ size by omega) (by omega), ← nI_succ]
      have eM : mM_findWay_42 n (nI a) (nI size) (nI (41 * a + size)) K (km + 1) (nI i) M' = (mM_isAgain n M' (nI a) (nI size) (nI i)).bind fun q1 => if q1 = 0 then mM_findWay_42 n (nI a) (nI size) (nI (41 * a + size)) K km (nI (i + 1)) M' else if M'.2 21 (41 * a + size) ≤ nI v then mM_findWay_42 n (nI a) (nI size) (nI (41 * a + size)) K km (nI (i + 1)) M' else mM_findWay_42 n (nI a) (nI size) (nI (41 * a + size)) K km (nI (i + 1)) (gs_sa (gs_sa M' 21 (nI (41 * a + size)) (nI v)) 22 (nI (41 * a + size)) (nI i)) := by
        simp only [mM_findWay_42, if_neg hlt', hix, k1640 _ _ b1, k1640 _ _ b2, g21, ga_nI _ _ hc31, ← nI_succ]
      have hag := fa_again n hn (M := M') (N := N) (a := a) (size := size) (step := i) hN h1 h3 (by omega)
      rw [hm.2.1 20 (by decide) (by decide) (by decide)] at hag
      have hiff : ¬ nI w < nI (size - i) ↔ ∀ q, q < size - i → M.2 20 (a + q) = M.2 20 (a + i + q) := by
        have h5 : ¬ nI w < nI (size - i) ↔ size - i ≤ w := by
          have hw := w2.1
          rw [nI_ltI (by omega) (by omega)]
          omega
        rw [h5, fa_iff w2 (by omega)]
        constructor
        · intro h q hq
          rw [← hrow _ (by omega), ← hrow _ (by omega)]
          exact h q hq
        · intro h q hq
          rw [hrow _ (by omega), hrow _ (by omega)]
          exact h q hq
      have hgo := ih k km (i + 1) G' M' (by omega) (by omega) (by omega) (by omega) hc hm hS
      rcases hag with ⟨m1, m2, m3⟩ | ⟨m1, m2⟩
      · -- it is again and again
        rw [eC, eM, if_pos m2, if_neg (hiff.mpr m3), m1, Option.bind_some, if_neg (show ¬ (1 : Int32) = 0 by decide)]
        have hset : ∀ (x y : Int32), G'.2 25 (41 * a + size) = x → M'.2 21 (41 * a + size) = y → ((x ≤ nI v) ↔ (y ≤ nI v)) → ∃ G'' M'' : gs_T, (if G'.2 25 (41 * a + size) ≤ nI v then cT_chooseBlock_9 n (nI a) (nI size) (nI (41 * a + size)) k (nI (i + 1)) G' else cT_chooseBlock_9 n (nI a) (nI size) (nI (41 * a + size)) k (nI (i + 1)) (gs_sa (gs_sa G' 25 (nI (41 * a + size)) (nI v)) 26 (nI (41 * a + size)) (nI i))) = some G'' ∧ (if M'.2 21 (41 * a + size) ≤ nI v then mM_findWay_42 n (nI a) (nI size) (nI (41 * a + size)) K km (nI (i + 1)) M' else mM_findWay_42 n (nI a) (nI size) (nI (41 * a + size)) K km (nI (i + 1)) (gs_sa (gs_sa M' 21 (nI (41 * a + size)) (nI v)) 22 (nI (41 * a + size)) (nI i))) = K M'' ∧ fb_c G G'' (41 * a + size) ∧ fb_m M M'' (41 * a + size) ∧ fb_S G'' M'' (41 * a + size) size := by
          intro x y hx hy hxy
          by_cases hle : x ≤ nI v
          · rw [hx, hy, if_pos hle, if_pos (hxy.mp hle)]
            exact hgo
          · rw [hx, hy, if_neg hle, if_neg (fun h => hle (hxy.mpr h))]
            refine ih k km (i + 1) _ _ (by omega) (by omega) (by omega) (by omega) ⟨hc.1, fun q q1 q2 => ?_, fun q hq => ?_⟩ ⟨hm.1, fun q q1 q2 q3 => ?_, fun q hq => ?_⟩ (Or.inr ⟨v, v1, by omega, ?_, ?_, i, h3, by omega, ?_, ?_⟩)
            · simp only [sa_2, if_neg q1, if_neg q2]
              exact hc.2.1 q q1 q2
            · simp only [sa_2, reduceIte, Nat.reduceEqDiff, hcl]
              rw [ud_n _ _ hq, ud_n _ _ hq]
              exact hc.2.2 q hq
            · simp only [sa_2, if_neg q1, if_neg q2]
              exact hm.2.1 q q1 q2 q3
            · simp only [sa_2, reduceIte, Nat.reduceEqDiff, hcl]
              rw [ud_n _ _ hq, ud_n _ _ hq]
              exact hm.2.2 q hq
            · simp only [sa_2, reduceIte, Nat.reduceEqDiff, hcl, ud_s]
            · simp only [sa_2, reduceIte, Nat.reduceEqDiff, hcl, ud_s]
            · simp only [sa_2, reduceIte, Nat.reduceEqDiff, hcl, ud_s]
            · simp only [sa_2, reduceIte, Nat.reduceEqDiff, hcl, ud_s]
        rcases id hS with ⟨t1, t2, t3⟩ | ⟨u, t1, t2, t3, t4, t5⟩
        · refine hset _ _ t1 t2 ?_
          rw [nI_leI (by omega) (by omega), nI_leI (by omega) (by omega)]
          omega
        · exact hset _ _ t3 t4 Iff.rfl
      · rw [eM, m1, Option.bind_some, if_pos rfl, eC]
        by_cases hmod : nI size - nI size / nI i * nI i = 0
        · rw [if_pos hmod]
          have : nI w < nI (size - i) := by
            by_cases h5 : nI w < nI (size - i)
            · exact h5
            · exact absurd ⟨hmod, hiff.mp h5⟩ m2
          rw [if_pos this]
          exact hgo
        · rw [if_neg hmod]
          exact hgo
/-- from a best of at most 2 on, the model changes nothing more -/
theorem fb_still (n : Nat) {G M : gs_T} {N a size v : Nat} (hN : N ≤ 40) (h1 : a + size ≤ N) (hF : fb_F G M N size) : ∀ (s km i : Nat) (M' : gs_T), i + s = size → 1 ≤ i → s < km → fb_m M M' (41 * a + size) → M'.2 21 (41 * a + size) = nI v → v ≤ 2 → mM_findWay_117 n (nI a) (nI size) (nI (41 * a + size)) km (nI i) M' = some M' := by
  have hc31 : 41 * a + size < 2 ^ 31 := by omega
  intro s
  induction s with
  | zero =>
    intro km i M' hi h3 hkm hm hv h2
    obtain ⟨km, rfl⟩ : ∃ q, km = q + 1 := ⟨km - 1, by omega⟩
    simp only [mM_findWay_117, if_pos (nI_le (show size ≤ i by omega) (by omega))]
  | succ s ih =>
    intro km i M' hi h3 hkm hm hv h2
    obtain ⟨km, rfl⟩ : ∃ q, km = q + 1 := ⟨km - 1, by omega⟩
    obtain ⟨x, x1, x2, x3, x4⟩ := hF a i h3 (by omega) (by omega)
    obtain ⟨y, y1, y2, y3, y4⟩ := hF (a + i) (size - i) (by omega) (by omega) (by omega)
    have hix : (41 : Int32) * nI a + nI i = nI (41 * a + i) := by rw [fb_41 (by omega), nI_add]
    have hiy : (41 : Int32) * (nI a + nI i) + nI size - nI i = nI (41 * (a + i) + (size - i)) := by
      rw [nI_add, fb_41 (by omega), nI_add, fb_sub (by omega) (by omega), show 41 * (a + i) + size - i = 41 * (a + i) + (size - i) by omega]
    have g1 : gs_a M' 21 (nI (41 * a + i)) = nI x := by rw [ga_nI _ _ (by omega), (hm.2.2 _ (by omega)).1, x4]
    have g2 : gs_a M' 21 (nI (41 * (a + i) + (size - i))) = nI y := by rw [ga_nI _ _ (by omega), (hm.2.2 _ (by omega)).1, y4]
    have k1640 : ∀ (q : Nat) (t : Option gs_T), q < 1640 → gs_ck (nI q) 1640 t = t := fun q t hq => ck_nI t hq (by decide)
    have hle : nI v ≤ nI x + nI y := by rw [nI_add]; exact nI_le (by omega) (by omega)
    simp only [mM_findWay_117, if_neg (nI_ge (show i < size by omega) (show size < 2 ^ 31 by omega)), hix, hiy, k1640 _ _ (show 41 * a + i < 1640 by omega), k1640 _ _ (show 41 * (a + i) + (size - i) < 1640 by omega), k1640 _ _ (show 41 * a + size < 1640 by omega), g1, g2, ga_nI _ _ hc31, hv, if_pos hle, ← nI_succ]
    exact ih km (i + 1) M' (by omega) (by omega) (by omega) hm hv h2
theorem fb_parts (n : Nat) {G M : gs_T} {N a size : Nat} (hN : N ≤ 40) (h1 : a + size ≤ N) (h2 : 2 ≤ size) (hF : fb_F G M N size) :
    ∀ (s k km i : Nat) (x : Int32) (G' M' : gs_T), i + s = size → 1 ≤ i → s < k → s < km → fb_c G G' (41 * a + size) → fb_m M M' (41 * a + size) →
      ((i = 1 ∧ x = nI (size + 1) ∧ M'.2 21 (41 * a + size) = nI 1000) ∨ (∃ v, 1 ≤ v ∧ v ≤ size ∧ x = nI v ∧ M'.2 21 (41 * a + size) = nI v ∧ (fb_BL G' M' (41 * a + size) size ∨ fb_PT G' M' (41 * a + size) size))) →
      ∃ G'' M'' : gs_T, cT_chooseParts_17 n (nI a) (nI size) (nI (41 * a + size)) k x (nI i) G' = some G'' ∧ mM_findWay_117 n (nI a) (nI size) (nI (41 * a + size)) km (nI i) M' = some M'' ∧ fb_c G G'' (41 * a + size) ∧ fb_m M M'' (41 * a + size) ∧ (∃ v, 1 ≤ v ∧ v ≤ size ∧ G''.2 25 (41 * a + size) = nI v ∧ M''.2 21 (41 * a + size) = nI v) ∧ (fb_BL G'' M'' (41 * a + size) size ∨ fb_PT G'' M'' (41 * a + size) size) := by
  have hc31 : 41 * a + size < 2 ^ 31 := by omega
  have hcl : (nI (41 * a + size)).toNatClampNeg = 41 * a + size := nI_clamp hc31
  have hcw : ∀ (G' : gs_T) (x : Int32), fb_c G G' (41 * a + size) → fb_c G (gs_sa G' 25 (nI (41 * a + size)) x) (41 * a + size) := by
    intro G' x hc
    refine ⟨hc.1, fun q q1 q2 => ?_, fun q hq => ?_⟩
    · simp only [sa_2, if_neg q1]
      exact hc.2.1 q q1 q2
    · simp only [sa_2, reduceIte, Nat.reduceEqDiff, hcl]
      rw [ud_n _ _ hq]
      exact hc.2.2 q hq
  have hkeep : ∀ (G' M' : gs_T) (x : Int32), (fb_BL G' M' (41 * a + size) size ∨ fb_PT G' M' (41 * a + size) size) → (fb_BL (gs_sa G' 25 (nI (41 * a + size)) x) M' (41 * a + size) size ∨ fb_PT (gs_sa G' 25 (nI (41 * a + size)) x) M' (41 * a + size) size) := fun G' M' x h => h
  have k1681 : ∀ (q : Nat) (t : Option gs_T), q < 1640 → gs_ck (nI q) 1681 t = t := fun q t hq => ck_nI t (by omega) (by decide)
  have k1640 : ∀ (q : Nat) (t : Option gs_T), q < 1640 → gs_ck (nI q) 1640 t = t := fun q t hq => ck_nI t hq (by decide)
  intro s
  induction s with
  | zero =>
    intro k km i x G' M' hi h3 hk hkm hc hm hS
    obtain ⟨k, rfl⟩ : ∃ q, k = q + 1 := ⟨k - 1, by omega⟩
    obtain ⟨km, rfl⟩ : ∃ q, km = q + 1 := ⟨km - 1, by omega⟩
    have hle := nI_le (show size ≤ i by omega) (show i < 2 ^ 31 by omega)
    rcases hS with ⟨t1, t2, t3⟩ | ⟨v, t1, t2, t3, t4, t5⟩
    · omega
    · refine ⟨gs_sa G' 25 (nI (41 * a + size)) x, M', ?_, by simp only [mM_findWay_117, if_pos hle], hcw G' x hc, hm, ⟨v, t1, t2, ?_, t4⟩, hkeep G' M' x t5⟩
      · simp only [cT_chooseParts_17, if_pos hle, k1681 _ _ (show 41 * a + size < 1640 by omega)]
      · simp only [sa_2, reduceIte, hcl, ud_s]
        exact t3
  | succ s ih =>
    intro k km i x G' M' hi h3 hk hkm hc hm hS
    have hge := nI_ge (show i < size by omega) (show size < 2 ^ 31 by omega)
    obtain ⟨k, rfl⟩ : ∃ q, k = q + 1 := ⟨k - 1, by omega⟩
    by_cases hx2 : x ≤ 2
    · rcases hS with ⟨t1, t2, t3⟩ | ⟨v, t1, t2, t3, t4, t5⟩
      · exfalso
        rw [t2] at hx2
        have := (nI_leI (a := size + 1) (b := 2) (by omega) (by omega)).mp hx2
        omega
      · have hv2 : v ≤ 2 := by
          rw [t3] at hx2
          exact (nI_leI (a := v) (b := 2) (by omega) (by omega)).mp hx2
        refine ⟨gs_sa G' 25 (nI (41 * a + size)) x, M', ?_, fb_still n hN h1 hF (s + 1) km i M' hi h3 hkm hm t4 hv2, hcw G' x hc, hm, ⟨v, t1, t2, ?_, t4⟩, hkeep G' M' x t5⟩
        · simp only [cT_chooseParts_17, if_neg hge, if_pos hx2, k1681 _ _ (show 41 * a + size < 1640 by omega)]
        · simp only [sa_2, reduceIte, hcl, ud_s]
          exact t3
    · obtain ⟨km, rfl⟩ : ∃ q, km = q + 1 := ⟨km - 1, by omega⟩
      obtain ⟨p, p1, p2, p3, p4⟩ := hF a i h3 (by omega) (by omega)
      obtain ⟨y, y1, y2, y3, y4⟩ := hF (a + i) (size - i) (by omega) (by omega) (by omega)
      have hix : (41 : Int32) * nI a + nI i = nI (41 * a + i) := by rw [fb_41 (by omega), nI_add]
      have hiy : (41 : Int32) * (nI a + nI i) + nI size - nI i = nI (41 * (a + i) + (size - i)) := by
        rw [nI_add, fb_41 (by omega), nI_add, fb_sub (by omega) (by omega), show 41 * (a + i) + size - i = 41 * (a + i) + (size - i) by omega]
      have g1 : gs_a M' 21 (nI (41 * a + i)) = nI p := by rw [ga_nI _ _ (by omega), (hm.2.2 _ (by omega)).1, p4]
      have g2 : gs_a M' 21 (nI (41 * (a + i) + (size - i))) = nI y := by rw [ga_nI _ _ (by omega), (hm.2.2 _ (by omega)).1, y4]
      have c1 : gs_a G' 25 (nI (41 * a + i)) = nI p := by rw [ga_nI _ _ (by omega), (hc.2.2 _ (by omega)).1, p3]
      have c2 : gs_a G' 25 (nI (41 * (a + i) + (size - i))) = nI y := by rw [ga_nI _ _ (by omega), (hc.2.2 _ (by omega)).1, y3]
      have hcell1 := fa_cell G' (show a < 60 by omega) (show i < 60 by omega)
      have hcell2 := fa_cell G' (show a + i < 60 by omega) (show size - i < 60 by omega)
      have eC : cT_chooseParts_17 n (nI a) (nI size) (nI (41 * a + size)) (k + 1) x (nI i) G' = if x ≤ nI (p + y) then cT_chooseParts_17 n (nI a) (nI size) (nI (41 * a + size)) k x (nI (i + 1)) G' else cT_chooseParts_17 n (nI a) (nI size) (nI (41 * a + size)) k (nI (p + y)) (nI (i + 1)) (gs_sa G' 26 (nI (41 * a + size)) (-nI i)) := by
        simp only [cT_chooseParts_17, if_neg hge, if_neg hx2, hcell1, Option.bind_some, k1681 _ _ (show 41 * a + i < 1640 by omega), nI_add, fb_sub (show i ≤ size by omega) (by omega), hcell2, k1681 _ _ (show 41 * (a + i) + (size - i) < 1640 by omega), c1, c2, k1681 _ _ (show 41 * a + size < 1640 by omega), ← nI_succ]
      have eM : mM_findWay_117 n (nI a) (nI size) (nI (41 * a + size)) (km + 1) (nI i) M' = if M'.2 21 (41 * a + size) ≤ nI (p + y) then mM_findWay_117 n (nI a) (nI size) (nI (41 * a + size)) km (nI (i + 1)) M' else mM_findWay_117 n (nI a) (nI size) (nI (41 * a + size)) km (nI (i + 1)) (gs_sa (gs_sa (gs_sa M' 21 (nI (41 * a + size)) (nI (p + y))) 22 (nI (41 * a + size)) 0) 23 (nI (41 * a + size)) (nI i)) := by
        rw [mM_findWay_117, if_neg hge, hix, hiy, k1640 _ _ (show 41 * a + i < 1640 by omega), k1640 _ _ (show 41 * (a + i) + (size - i) < 1640 by omega), k1640 _ _ (show 41 * a + size < 1640 by omega), g1, g2, nI_add, ga_nI _ _ hc31, k1640 _ _ (show 41 * a + size < 1640 by omega), k1640 _ _ (show 41 * a + size < 1640 by omega), k1640 _ _ (show 41 * a + size < 1640 by omega), ← nI_succ]
      have hput : ∃ G'' M'' : gs_T, cT_chooseParts_17 n (nI a) (nI size) (nI (41 * a + size)) k (nI (p + y)) (nI (i + 1)) (gs_sa G' 26 (nI (41 * a + size)) (-nI i)) = some G'' ∧ mM_findWay_117 n (nI a) (nI size) (nI (41 * a + size)) km (nI (i + 1)) (gs_sa (gs_sa (gs_sa M' 21 (nI (41 * a + size)) (nI (p + y))) 22 (nI (41 * a + size)) 0) 23 (nI (41 * a + size)) (nI i)) = some M'' ∧ fb_c G G'' (41 * a + size) ∧ fb_m M M'' (41 * a + size) ∧ (∃ v, 1 ≤ v ∧ v ≤ size ∧ G''.2 25 (41 * a + size) = nI v ∧ M''.2 21 (41 * a + size) = nI v) ∧ (fb_BL G'' M'' (41 * a + size) size ∨ fb_PT G'' M'' (41 * a + size) size) := by
        refine ih k km (i + 1) (nI (p + y)) _ _ (by omega) (by omega) (by omega) (by omega) ⟨hc.1, fun q q1 q2 => ?_, fun q hq => ?_⟩ ⟨hm.1, fun q q1 q2 q3 => ?_, fun q hq => ?_⟩ (Or.inr ⟨p + y, by omega, by omega, rfl, ?_, Or.inr ⟨i, h3, by omega, ?_, ?_, ?_⟩⟩)
        · simp only [sa_2, if_neg q2]
          exact hc.2.1 q q1 q2
        · simp only [sa_2, reduceIte, Nat.reduceEqDiff, hcl]
          rw [ud_n _ _ hq]
          exact hc.2.2 q hq
        · simp only [sa_2, if_neg q1, if_neg q2, if_neg q3]
          exact hm.2.1 q q1 q2 q3
        · simp only [sa_2, reduceIte, Nat.reduceEqDiff, hcl]
          rw [ud_n _ _ hq, ud_n _ _ hq, ud_n _ _ hq]
          exact hm.2.2 q hq
        · simp only [sa_2, reduceIte, Nat.reduceEqDiff, hcl, ud_s]
        · simp only [sa_2, reduceIte, Nat.reduceEqDiff, hcl, ud_s]
        · simp only [sa_2, reduceIte, Nat.reduceEqDiff, hcl, ud_s]
        · simp only [sa_2, reduceIte, Nat.reduceEqDiff, hcl, ud_s]
      rw [eC, eM]
      rcases hS with ⟨t1, t2, t3⟩ | ⟨v, t1, t2, t3, t4, t5⟩
      · rw [t2, t3, if_neg (nI_ge (show p + y < size + 1 by omega) (by omega)), if_neg (nI_ge (show p + y < 1000 by omega) (by omega))]
        exact hput
      · rw [t4, t3]
        by_cases hle : nI v ≤ nI (p + y)
        · rw [if_pos hle, if_pos hle]
          exact ih k km (i + 1) (nI v) G' M' (by omega) (by omega) (by omega) (by omega) hc hm (Or.inr ⟨v, t1, t2, rfl, t4, t5⟩)
        · rw [if_neg hle, if_neg hle]
          exact hput
def fb_D (G M : gs_T) (a size : Nat) : Prop := (∃ v, 1 ≤ v ∧ v ≤ size ∧ G.2 25 (41 * a + size) = nI v ∧ M.2 21 (41 * a + size) = nI v) ∧ ((size = 1 ∧ G.2 26 (41 * a + size) = 0) ∨ (2 ≤ size ∧ (fb_BL G M (41 * a + size) size ∨ fb_PT G M (41 * a + size) size)))
theorem fb_choose (n : Nat) (hn : 61 < n) {G M : gs_T} {N a size : Nat} (hN : N ≤ 40) (h1 : a + size ≤ N) (h2 : 1 ≤ size) (hrow : ∀ k, k < N → G.2 23 k = M.2 20 k) (hal : ∀ a b, a < b → b < N → ∃ v, G.2 24 (41 * a + b) = nI v ∧ fa_lk (G.2 23) N a b v) (hF : fb_F G M N size) :
    ∃ G' M' : gs_T, cT_choose n G (nI a) (nI size) = some G' ∧ mM_findWay n M (nI a) (nI size) = some M' ∧ fb_c G G' (41 * a + size) ∧ fb_m M M' (41 * a + size) ∧ fb_D G' M' a size := by
  have hc31 : 41 * a + size < 2 ^ 31 := by omega
  have hcl : (nI (41 * a + size)).toNatClampNeg = 41 * a + size := nI_clamp hc31
  have hcell := fa_cell G (show a < 60 by omega) (show size < 60 by omega)
  have k1681 : ∀ (q : Nat) (t : Option gs_T), q < 1640 → gs_ck (nI q) 1681 t = t := fun q t hq => ck_nI t (by omega) (by decide)
  have k1640 : ∀ (q : Nat) (t : Option gs_T), q < 1640 → gs_ck (nI q) 1640 t = t := fun q t hq => ck_nI t hq (by decide)
  have hix : (41 : Int32) * nI a + nI size = nI (41 * a + size) := by rw [fb_41 (by omega), nI_add]
  have hm0 : ∀ x : Int32, fb_m M (gs_sa (gs_sa (gs_sa M 21 (nI (41 * a + size)) x) 22 (nI (41 * a + size)) 0) 23 (nI (41 * a + size)) 0) (41 * a + size) := by
    intro x
    refine ⟨rfl, fun q q1 q2 q3 => ?_, fun q hq => ?_⟩
    · simp only [sa_2, if_neg q1, if_neg q2, if_neg q3]
    · simp only [sa_2, reduceIte, Nat.reduceEqDiff, hcl]
      rw [ud_n _ _ hq, ud_n _ _ hq, ud_n _ _ hq]
      exact ⟨rfl, rfl, rfl⟩
  by_cases hs1 : size = 1
  · subst hs1
    refine ⟨gs_sa (gs_sa G 25 (nI (41 * a + 1)) 1) 26 (nI (41 * a + 1)) 0, gs_sa (gs_sa (gs_sa M 21 (nI (41 * a + 1)) 1) 22 (nI (41 * a + 1)) 0) 23 (nI (41 * a + 1)) 0, ?_, ?_, ⟨rfl, fun q q1 q2 => ?_, fun q hq => ?_⟩, hm0 1, ⟨1, by omega, by omega, ?_, ?_⟩, Or.inl ⟨rfl, ?_⟩⟩
    · unfold cT_choose
      rw [hcell, Option.bind_some, if_pos (show nI 1 = 1 by decide), k1681 _ _ (by omega), k1681 _ _ (by omega)]
    · obtain ⟨n', rfl⟩ : ∃ q, n = q + 1 := ⟨n - 1, by omega⟩
      unfold mM_findWay mM_findWay_j24
      rw [if_pos (show nI 1 = 1 by decide), hix, k1640 _ _ (by omega), k1640 _ _ (by omega), k1640 _ _ (by omega), mM_findWay_42, if_pos (show nI 1 < (2 : Int32) * 1 by decide), mM_findWay_117, if_pos (show nI 1 ≤ 1 by decide)]
    · simp only [sa_2, if_neg q1, if_neg q2]
    · simp only [sa_2, reduceIte, Nat.reduceEqDiff, hcl]
      rw [ud_n _ _ hq, ud_n _ _ hq]
      exact ⟨rfl, rfl⟩
    · simp only [sa_2, reduceIte, Nat.reduceEqDiff, hcl, ud_s]
      rfl
    · simp only [sa_2, reduceIte, Nat.reduceEqDiff, hcl, ud_s]
      rfl
    · simp only [sa_2, reduceIte, Nat.reduceEqDiff, hcl, ud_s]
  · have hne : ¬ nI size = 1 := fun h => hs1 ((nI_eq (a := size) (b := 1) (by omega) (by omega)).mp h)
    have hcg : fb_c G (gs_sa G 25 (nI (41 * a + size)) (nI (size + 1))) (41 * a + size) := by
      refine ⟨rfl, fun q q1 q2 => ?_, fun q hq => ?_⟩
      · simp only [sa_2, if_neg q1]
      · simp only [sa_2, reduceIte, Nat.reduceEqDiff, hcl]
        rw [ud_n _ _ hq]
        exact ⟨rfl, trivial⟩
    obtain ⟨G2, M2, b1, b2, b3, b4, b5⟩ := fb_blocks n hn hN h1 (show 2 ≤ size by omega) hrow hal hF (fun G0 => mM_findWay_117 n (nI a) (nI size) (nI (41 * a + size)) n 1 G0) (size - 1) n n 1 (gs_sa G 25 (nI (41 * a + size)) (nI (size + 1))) (gs_sa (gs_sa (gs_sa M 21 (nI (41 * a + size)) (nI 1000)) 22 (nI (41 * a + size)) 0) 23 (nI (41 * a + size)) 0) (by omega) (by omega) (by omega) (by omega) hcg (hm0 _) (Or.inl ⟨by simp only [sa_2, reduceIte, Nat.reduceEqDiff, hcl, ud_s], by simp only [sa_2, reduceIte, Nat.reduceEqDiff, hcl, ud_s], by simp only [sa_2, reduceIte, Nat.reduceEqDiff, hcl, ud_s]⟩)
    obtain ⟨G3, M3, u1, u2, u3, u4, u5, u6⟩ := fb_parts n hN h1 (show 2 ≤ size by omega) hF (size - 1) n n 1 (G2.2 25 (41 * a + size)) G2 M2 (by omega) (by omega) (by omega) (by omega) b3 b4 (by
      rcases b5 with ⟨t1, t2, t3⟩ | ⟨v, t1, t2, t3, t4, t5⟩
      · exact Or.inl ⟨rfl, t1, t2⟩
      · exact Or.inr ⟨v, t1, t2, t3, t4, Or.inl t5⟩)
    rw [← li_n1] at b1 b2 u1 u2
    refine ⟨G3, M3, ?_, ?_, u3, u4, u5, Or.inr ⟨by omega, u6⟩⟩
    · unfold cT_choose
      rw [hcell, Option.bind_some, if_neg hne, k1681 _ _ (by omega), ← nI_succ]
      unfold cT_chooseBlock
      rw [fa_cell (gs_sa G 25 (nI (41 * a + size)) (nI (size + 1))) (show a < 60 by omega) (show size < 60 by omega), Option.bind_some, b1, Option.bind_some]
      unfold cT_chooseParts
      rw [fa_cell G2 (show a < 60 by omega) (show size < 60 by omega), Option.bind_some, k1681 _ _ (by omega), ga_nI _ _ hc31, u1]
      rfl
    · unfold mM_findWay mM_findWay_j24
      rw [if_neg hne, hix, k1640 _ _ (by omega), k1640 _ _ (by omega), k1640 _ _ (by omega)]
      exact b2.trans u2
