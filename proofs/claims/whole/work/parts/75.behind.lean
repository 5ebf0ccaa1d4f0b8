/-! ===== own: unfold: behind a bar that was played ===== -/
theorem uz_leaveM (n : Nat) (hn : 61 < n) (M : gs_T) : ∃ M' : gs_T, mM_leaveAll n M = some M' ∧ M'.1 = M.1 ∧ (∀ q, q ≠ 18 → M'.2 q = M.2 q) ∧ ∀ r, r < 20 → M'.2 18 r = 0 := by
  have h := lp_for (fun k i G => mM_leaveAll_2 n k i G) 20
    (fun i G' => G'.1 = M.1 ∧ (∀ q, q ≠ 18 → G'.2 q = M.2 q) ∧ ∀ r, r < i → G'.2 18 r = 0)
    (fun G' => some G')
    (fun k G' hI => by simp only [mM_leaveAll_2, if_pos (show (20 : Int32) ≤ nI 20 by decide)])
    (fun k i G' hi hI => by
      obtain ⟨i1, i2, i3⟩ := hI
      refine ⟨gs_sa G' 18 (nI i) 0, ⟨i1, fun q hq => by simp only [sa_2, if_neg hq]; exact i2 q hq, fun r hr => ?_⟩, ?_⟩
      · simp only [sa_2, reduceIte, nI_clamp (show i < 2 ^ 31 by omega), ud_e]
        split
        · rfl
        · exact i3 r (by omega)
      · simp only [mM_leaveAll_2, if_neg (show ¬ (20 : Int32) ≤ nI i from nI_ge (b := 20) hi (by omega)), ck_nI _ hi (show 20 < 2 ^ 31 by decide), ← nI_succ])
    n 0 M (by omega) (by omega) ⟨rfl, fun _ _ => rfl, fun r hr => by omega⟩
  obtain ⟨M', ⟨i1, i2, i3⟩, h6⟩ := h
  rw [← li_n0] at h6
  exact ⟨M', h6, i1, i2, i3⟩
def uz_tl (G : gs_T) : Int32 := if G.1 2 = -1 then 0 else G.2 10 (G.1 2).toNatClampNeg
theorem uz_till {G : gs_T} (h2 : G.1 2 = -1 ∨ ∃ j, j < 60 ∧ G.1 2 = nI j) {x : Int32} (hx : x ≠ 0) : (cW_isLatestJumpTill G x = some 1 ∧ uz_tl G = x) ∨ (cW_isLatestJumpTill G x = some 0 ∧ ¬ uz_tl G = x) := by
  unfold cW_isLatestJumpTill uz_tl
  rcases h2 with h2 | ⟨j, hj, h2⟩
  · rw [if_pos h2, if_pos h2]
    exact Or.inr ⟨rfl, fun h => hx h.symm⟩
  · have hne : ¬ G.1 2 = -1 := by rw [h2, li_eq, li_m1, nI_toInt (by omega)]; omega
    rw [if_neg hne, if_neg hne, h2, ck_nI _ hj (by decide), ga_nI _ _ (by omega), nI_clamp (by omega)]
    by_cases he : G.2 10 j = x
    · rw [if_pos he]; exact Or.inl ⟨rfl, he⟩
    · rw [if_neg he]; exact Or.inr ⟨rfl, he⟩
/-- all are left, and a sign's bar, or the first, is come to -/
theorem uz_nx {G M : gs_T} {B R E T : Nat} (hs : uf_st G M B R E) (hdy : uf_dy G M B) (hrun : uf_run G M) (hp : ∀ r, r < 20 → G.2 21 r = 0) {nb : Int32} (h9 : M.1 9 = nb) (h1 : -1 ≤ nb.toInt) (h2 : nb.toInt < B) (hT : uf_ep G * 7501 + 7501 ≤ T) : uf_nx G M B R E nb T := by
  refine ⟨hs, hdy, h9, ?_⟩
  have hB := hs.1.1.2.1
  have hR := hs.1.1.2.2.2.1
  by_cases h : nb = -1
  · exact Or.inl ⟨h, Or.inl hrun⟩
  · have h3 : nb.toInt ≠ -1 := fun h4 => h (by rw [li_eq, li_m1]; exact h4)
    refine Or.inr ⟨nb.toInt.toNat, by omega, li_nI (by omega) (by omega), hrun, fun r hr => ?_, ?_⟩
    · have h5 := hs.1.2.1 r hr
      rw [hp r (by omega)]
      exact ⟨by decide, by rw [li_0]; omega, fun h6 => absurd rfl h6⟩
    · unfold uf_T
      have := uk_rest_le (G.2 1) (G.2 12) (G.2 13) (uf_key G R nb.toInt.toNat)
      omega
set_option maxRecDepth 100000 in
theorem uz_ar1 {a c x r T : Nat} (h : a < c) (hT : (2 * c + x) * 7501 + r ≤ T) : (2 * a + 1) * 7501 + 7501 ≤ T := by omega
set_option maxRecDepth 100000 in
theorem uz_ar2 {c r T : Nat} (hT : (2 * c + 1) * 7501 + r ≤ T) : 2 * c * 7501 + 7501 ≤ T := by omega
theorem uz_b176 (n : Nat) (M : gs_T) (x s : Int32) : mM_play_j176 n M x 0 s = mM_theEnd n M x := by
  unfold mM_play_j176 mM_play_j207 mM_play_j257
  rw [if_pos rfl, if_pos rfl, if_pos rfl]
  cases mM_theEnd n M x <;> rfl
theorem uz_behind (n : Nat) (hn : 61 < n) {G M : gs_T} {B R E b T : Nat} (hs : uf_st G M B R E) (hdy : uf_dy G M B) (hrun : uf_run G M) (hb : b < B) (hop : uf_op G R b) (hT : uf_ep G * 7501 + uk_rest (G.2 1) (G.2 12) (G.2 13) (uk_key (G.2 1) (G.2 12) (G.2 13) (G.2 21) b) ≤ T) (y : Int32)
    (hy : (y = 1 ∧ ∀ r, r < R → (M.2 1 r).toInt ≤ b → (b : Int) ≤ (M.2 2 r).toInt → M.2 18 r = M.2 3 r) ∨ (y = 0 ∧ ¬ ∀ r, r < R → (M.2 1 r).toInt ≤ b → (b : Int) ≤ (M.2 2 r).toInt → M.2 18 r = M.2 3 r)) :
    ∃ (G' M' : gs_T) (nb : Int32), cW_behind n G (nI b) = some (nb, G') ∧ mM_play_j176 n M (nI b) y (uz_tl G) = some M' ∧ uf_nx G' M' B R E nb T := by
  obtain ⟨⟨⟨s1, s2, s3, s4, s5, s6⟩, t1, t2, t3, t4, t5, t6, t7, t8⟩, hJ, hD, hF⟩ := id hs
  obtain ⟨D1, D2, D3, D4, D5, D6, D7, D8, D9, D10, D11, D12, D13, D14⟩ := hD
  obtain ⟨y1, y2, y3, y4, y5, y6, y7, y8, y9, y10, y11, y12, y13⟩ := id hdy
  have hb60 : b < 60 := by omega
  obtain ⟨z1, z2, z3, z4, z5⟩ := uk_ch (t6 b hb60)
  -- the end of the bar
  obtain ⟨Ge, Me, nbe, ge, me, hne⟩ := uz_end n hn (b := b) (z := b) (T := T) (G.2 21) hs hdy hrun (Nat.le_refl b) hb (fun r hr => by
      have h1 := hop r hr
      have h2 := t1 r hr
      by_cases ha : (G.2 1 r).toInt ≤ b ∧ (b : Int) ≤ (G.2 2 r).toInt
      · have h3 := h1.1 ha
        exact ⟨by omega, h3.2, fun _ => ha⟩
      · rw [h1.2 ha]
        exact ⟨by decide, by rw [li_0]; omega, fun h => absurd rfl h⟩) hop (fun r _ => Or.inr rfl) (fun r _ _ _ => rfl) (fun r s _ _ _ _ _ => rfl) hT
  have hlast := up_last n hn (G := G) (R := R) (b := b) s4 hb60 z1 z2 (fun lv hl => ⟨(z3 lv hl).1, (z3 lv hl).2.1⟩)
  have hiff : (∀ lv, lv < uk_dp (G.2 13) b → (G.2 3 (rc_ch (G.2 12) b lv)).toInt ≤ (G.2 21 (rc_ch (G.2 12) b lv)).toInt) ↔ (∀ r, r < R → (M.2 1 r).toInt ≤ b → (b : Int) ≤ (M.2 2 r).toInt → M.2 18 r = M.2 3 r) := by
    rw [← D5, ← D6, ← D7]
    constructor
    · intro h r hr h1 h2
      obtain ⟨lv, hlv, e⟩ := z5 r hr h1 h2
      have h3 := h lv hlv
      rw [e] at h3
      have h4 := (hop r hr).1 ⟨h1, h2⟩
      rw [← y10 r (by omega), li_eq]
      omega
    · intro h lv hlv
      have h1 := z3 lv hlv
      have h2 := h _ h1.1 h1.2.2.1 h1.2.2.2
      rw [← y10 _ (by omega)] at h2
      rw [h2]
      exact Int.le_refl _
  have hcend : cW_isInLastPasses n G (nI b) = some 0 → cW_behind n G (nI b) = some (nbe, Ge) := by
    intro h
    unfold cW_behind
    rw [h, Option.bind_some, if_pos rfl, ge]
    rfl
  rcases hlast with ⟨l1, l2⟩ | ⟨l1, l2⟩
  · -- in the last passes
    have hy1 : y = 1 := by
      rcases hy with ⟨h, _⟩ | ⟨_, h⟩
      · exact h
      · exact absurd (hiff.mp l2) h
    subst hy1
    have hk3 : ∀ (k : Nat) {α : Type} (t : Option α), k < 4 → gs_ck (nI k) 4 t = t := fun k _ t hk => ck_nI t hk (by decide)
    have c3 : ∀ {α : Type} (t : Option α), gs_ck (3 : Int32) 4 t = t := fun t => hk3 3 t (by decide)
    have c2 : ∀ {α : Type} (t : Option α), gs_ck (2 : Int32) 4 t = t := fun t => hk3 2 t (by decide)
    have c1 : ∀ {α : Type} (t : Option α), gs_ck (1 : Int32) 4 t = t := fun t => hk3 1 t (by decide)
    have c0 : ∀ {α : Type} (t : Option α), gs_ck (0 : Int32) 4 t = t := fun t => hk3 0 t (by decide)
    have a3 : ∀ (G : gs_T) (q : Nat), gs_a G q (3 : Int32) = G.2 q 3 := fun G q => ga_nI G q (i := 3) (by decide)
    have a2 : ∀ (G : gs_T) (q : Nat), gs_a G q (2 : Int32) = G.2 q 2 := fun G q => ga_nI G q (i := 2) (by decide)
    have a1 : ∀ (G : gs_T) (q : Nat), gs_a G q (1 : Int32) = G.2 q 1 := fun G q => ga_nI G q (i := 1) (by decide)
    have a0 : ∀ (G : gs_T) (q : Nat), gs_a G q (0 : Int32) = G.2 q 0 := fun G q => ga_nI G q (i := 0) (by decide)
    have ecB : cW_behind n G (nI b) = if G.2 8 3 = nI b then (cW_isLatestJumpTill G 1).bind (fun q2 => if q2 = 0 then cW_behind_j37 n G (nI b) else some (-1, G)) else cW_behind_j37 n G (nI b) := by
      unfold cW_behind
      rw [l1, Option.bind_some, if_neg (by decide), c3, a3]
    have emB : mM_play_j176 n M (nI b) 1 (uz_tl G) = if G.2 8 3 = nI b then (if uz_tl G = 1 then some (gs_sv M 9 (-1)) else mM_play_j207 n M (nI b) 1 (uz_tl G)) else mM_play_j207 n M (nI b) 1 (uz_tl G) := by
      unfold mM_play_j176
      rw [if_neg (by decide), c3, a3, ← D12]
    -- the coda, the jump, the end
    have hrest : ∃ (G' M' : gs_T) (nb : Int32), cW_behind_j37 n G (nI b) = some (nb, G') ∧ mM_play_j207 n M (nI b) 1 (uz_tl G) = some M' ∧ uf_nx G' M' B R E nb T := by
      have hjump : ∃ (G' M' : gs_T) (nb : Int32), cW_behind_j84 n G (nI b) = some (nb, G') ∧ mM_play_j257 n M (nI b) 1 = some M' ∧ uf_nx G' M' B R E nb T := by
        have ej : cW_behind_j84 n G (nI b) = if G.2 9 b = -1 then some (nbe, Ge) else if G.2 22 b = 0 then (cW_act G (nI b)).bind (fun q4 => some (q4.1, q4.2)) else some (nbe, Ge) := by
          unfold cW_behind_j84 cS_hasJump
          rw [ck_nI _ hb60 (by decide), ga_nI _ _ (by omega), ck_nI _ hb60 (by decide), ga_nI _ _ (by omega), ge]
          by_cases h : G.2 9 b = -1
          · rw [if_pos h, if_pos h, Option.bind_some, if_pos rfl]; rfl
          · rw [if_neg h, if_neg h, Option.bind_some, if_neg (by decide)]; rfl
        have em : mM_play_j257 n M (nI b) 1 = if M.2 9 b = 0 then some Me else if G.2 22 b = 0 then (mM_leaveAll n (gs_sv (gs_sv (gs_sv (gs_sa M 19 (nI b) 1) 6 (M.1 6 + 1)) 7 (nI b)) 8 0)).bind (fun q4 => if q4.2 10 b = 1 then some (gs_sv q4 9 (q4.2 8 0)) else some (gs_sv q4 9 0)) else some Me := by
          unfold mM_play_j257
          simp only [if_neg (show ¬ (1 : Int32) = 0 by decide), ck_nI _ hb60 (show 60 < 2 ^ 31 by decide), ga_nI _ _ (show b < 2 ^ 31 by omega), me, Option.bind_some, ← y11 b hb60, pu_n1, c0, a0]
        rcases hJ.2 b hb60 with ⟨j1, j2⟩ | ⟨j1, j2, j3, j4, j5⟩
        · exact ⟨Ge, Me, nbe, by rw [ej, if_pos j2], by rw [em, if_pos j1], hne⟩
        · have hnj : ¬ G.2 9 b = -1 := by rw [li_eq, li_m1]; omega
          by_cases hact : G.2 22 b = 0
          · have hclb : (nI b).toNatClampNeg = b := nI_clamp (by omega)
            obtain ⟨M2, w1, w2, w3, w4⟩ := uz_leaveM n hn (gs_sv (gs_sv (gs_sv (gs_sa M 19 (nI b) 1) 6 (M.1 6 + 1)) 7 (nI b)) 8 0)
            simp only [sv_1, sv_2, sa_1, sa_2] at w2 w3
            have hG2 : ∀ nb : Int32, -1 ≤ nb.toInt → nb.toInt < B → uf_nx (gs_sf (gs_sv (gs_sv (gs_sv (gs_sa G 22 (nI b) 1) 2 (nI b)) 3 0) 1 (G.1 1 + 1)) 21 0) (gs_sv M2 9 nb) B R E nb T := by
              intro nb hnb1 hnb2
              have w2' : ∀ q, M2.1 q = if q = 8 then 0 else if q = 7 then nI b else if q = 6 then M.1 6 + 1 else M.1 q := fun q => by rw [w2]; rfl
              refine uz_nx (uf_st_congr hs (fun k hk => ?_) (fun k hk => ?_) (fun k hk => ?_) (fun k hk => ?_)) ?_ ?_ (fun r _ => rfl) (by rw [sv_1, if_pos rfl]) hnb1 hnb2 ?_
              · simp only [sf_1, sv_1, sa_1, if_neg (show k ≠ 1 by omega), if_neg (show k ≠ 2 by omega), if_neg (show k ≠ 3 by omega)]
              · simp only [sf_2, sv_2, sa_2, if_neg (show k ≠ 21 by omega), if_neg (show k ≠ 22 by omega)]
              · rw [sv_1, if_neg (by omega), w2', if_neg (by omega), if_neg (by omega), if_neg (by omega)]
              · rw [sv_2, w3 k (by omega), if_neg (by omega)]
              · unfold uf_dy
                simp only [sf_1, sf_2, sv_1, sv_2, sa_1, sa_2, reduceIte, Nat.reduceEqDiff, hclb, w2', w3 13 (by decide), w3 14 (by decide), w3 15 (by decide), w3 16 (by decide), w3 17 (by decide), w3 19 (by decide)]
                refine ⟨y1, by rw [y2], trivial, trivial, y5, y6, y7, y8, y9, fun r hr => (w4 r hr).symm, fun c hc => ?_, Or.inr ⟨b, hb60, rfl⟩, y13⟩
                rw [ud_e, ud_e]
                split
                · rfl
                · exact y11 c hc
              · unfold uf_run at *
                simp only [sf_1, sv_1, sa_1, reduceIte, Nat.reduceEqDiff, w2']
                exact hrun
              · have hcnt : uk_cnt (fun c => decide ((upd (G.2 22) b 1) c = 0)) 60 < uk_cnt (fun c => decide (G.2 22 c = 0)) 60 := by
                  refine uk_cnt_lt (c := b) (fun k hk => ?_) ?_ ?_ 60 hb60
                  · have h9 := of_decide_eq_true hk
                    rw [ud_e] at h9
                    split at h9
                    · exact absurd h9 (by decide)
                    · exact decide_eq_true h9
                  · rw [ud_s]; decide
                  · exact decide_eq_true hact
                have e1 : uf_ep (gs_sf (gs_sv (gs_sv (gs_sv (gs_sa G 22 (nI b) 1) 2 (nI b)) 3 0) 1 (G.1 1 + 1)) 21 0) = 2 * uk_cnt (fun c => decide ((upd (G.2 22) b 1) c = 0)) 60 + 1 := by
                  unfold uf_ep
                  simp only [sf_1, sf_2, sv_1, sv_2, sa_1, sa_2, reduceIte, Nat.reduceEqDiff, hclb]
                rw [e1]
                unfold uf_ep at hT
                exact uz_ar1 hcnt hT
            have eact : cW_act G (nI b) = if G.2 9 b = 1 then some (G.2 8 0, gs_sf (gs_sv (gs_sv (gs_sv (gs_sa G 22 (nI b) 1) 2 (nI b)) 3 0) 1 (G.1 1 + 1)) 21 0) else some (0, gs_sf (gs_sv (gs_sv (gs_sv (gs_sa G 22 (nI b) 1) 2 (nI b)) 3 0) 1 (G.1 1 + 1)) 21 0) := by
              unfold cW_act cW_leaveAll
              simp only [ck_nI _ hb60 (show 60 < 2 ^ 31 by decide), pu_n1, Option.bind_some, ga_nI _ _ (show b < 2 ^ 31 by omega), c0, a0, sf_2, sv_2, sa_2, reduceIte, Nat.reduceEqDiff]
            have h10 : M2.2 10 b = G.2 9 b := by rw [w3 10 (by decide), if_neg (by decide), j2]
            have h8 : M2.2 8 0 = G.2 8 0 := by rw [w3 8 (by decide), if_neg (by decide), D12]
            by_cases hto : G.2 9 b = 1
            · have hsg := t8 0 (by decide)
              refine ⟨_, _, G.2 8 0, ?_, ?_, hG2 (G.2 8 0) hsg.1 hsg.2⟩
              · rw [ej, if_neg hnj, if_pos hact, eact, if_pos hto]; rfl
              · rw [em, if_neg j1, if_pos hact, w1, Option.bind_some, h10, if_pos hto, h8]
            · refine ⟨_, _, 0, ?_, ?_, hG2 0 (by decide) (by rw [li_0]; omega)⟩
              · rw [ej, if_neg hnj, if_pos hact, eact, if_neg hto]; rfl
              · rw [em, if_neg j1, if_pos hact, w1, Option.bind_some, h10, if_neg hto]
          · exact ⟨Ge, Me, nbe, by rw [ej, if_neg hnj, if_neg hact], by rw [em, if_neg j1, if_neg hact], hne⟩
      have ec37 : cW_behind_j37 n G (nI b) = if G.2 8 2 = nI b then (cW_isLatestJumpTill G 2).bind (fun q1 => if q1 = 0 then cW_behind_j84 n G (nI b) else if G.1 3 = 0 then some (G.2 8 1, gs_sv (gs_sf G 21 0) 3 1) else cW_behind_j84 n G (nI b)) else cW_behind_j84 n G (nI b) := by
        unfold cW_behind_j37 cW_leaveAll
        simp only [c2, a2, c1, a1, Option.bind_some, sf_2, reduceIte, Nat.reduceEqDiff]
      have em207 : mM_play_j207 n M (nI b) 1 (uz_tl G) = if G.2 8 2 = nI b then (if uz_tl G = 2 then (if G.1 3 = 0 then (mM_leaveAll n (gs_sv M 8 1)).bind (fun q1 => some (gs_sv q1 9 (q1.2 8 1))) else mM_play_j257 n M (nI b) 1) else mM_play_j257 n M (nI b) 1) else mM_play_j257 n M (nI b) 1 := by
        unfold mM_play_j207
        rw [if_neg (by decide), c2, a2, ← D12, ← y4]
        simp only [c1, a1]
      obtain ⟨Gj, Mj, nbj, gj, mj, hnj⟩ := hjump
      by_cases h82 : G.2 8 2 = nI b
      · rw [ec37, em207, if_pos h82, if_pos h82]
        rcases uz_till y12 (x := 2) (by decide) with ⟨e2, e3⟩ | ⟨e2, e3⟩
        · rw [e2, Option.bind_some, if_neg (by decide), if_pos e3]
          by_cases hco : G.1 3 = 0
          · rw [if_pos hco, if_pos hco]
            obtain ⟨M2, w1, w2, w3, w4⟩ := uz_leaveM n hn (gs_sv M 8 1)
            have w2' : ∀ q, M2.1 q = if q = 8 then 1 else M.1 q := fun q => by rw [w2]; rfl
            have hsg := t8 1 (by decide)
            have h8 : M2.2 8 1 = G.2 8 1 := by rw [w3 8 (by decide), sv_2, D12]
            refine ⟨_, _, G.2 8 1, rfl, by rw [w1, Option.bind_some, h8], ?_⟩
            refine uz_nx (uf_st_congr hs (fun k hk => ?_) (fun k hk => ?_) (fun k hk => ?_) (fun k hk => ?_)) ?_ ?_ (fun r _ => rfl) (by rw [sv_1, if_pos rfl]) hsg.1 hsg.2 ?_
            · simp only [sf_1, sv_1, if_neg (show k ≠ 3 by omega)]
            · simp only [sf_2, sv_2, if_neg (show k ≠ 21 by omega)]
            · rw [sv_1, if_neg (by omega), w2', if_neg (by omega)]
            · rw [sv_2, w3 k (by omega), sv_2]
            · unfold uf_dy
              simp only [sf_1, sf_2, sv_1, sv_2, reduceIte, Nat.reduceEqDiff, w2', w3 13 (by decide), w3 14 (by decide), w3 15 (by decide), w3 16 (by decide), w3 17 (by decide), w3 19 (by decide)]
              exact ⟨y1, y2, y3, trivial, y5, y6, y7, y8, y9, fun r hr => (w4 r hr).symm, y11, y12, y13⟩
            · unfold uf_run at *
              simp only [sf_1, sv_1, reduceIte, Nat.reduceEqDiff, w2']
              exact hrun
            · have e1 : uf_ep (gs_sv (gs_sf G 21 0) 3 1) = 2 * uk_cnt (fun c => decide (G.2 22 c = 0)) 60 := by
                unfold uf_ep
                simp only [sf_1, sf_2, sv_1, sv_2, reduceIte, Nat.reduceEqDiff, if_neg (show ¬ (1 : Int32) = 0 by decide), Nat.add_zero]
              rw [e1]
              unfold uf_ep at hT
              rw [if_pos hco] at hT
              exact uz_ar2 hT
          · rw [if_neg hco, if_neg hco]
            exact ⟨Gj, Mj, nbj, gj, mj, hnj⟩
        · rw [e2, Option.bind_some, if_pos rfl, if_neg e3]
          exact ⟨Gj, Mj, nbj, gj, mj, hnj⟩
      · rw [ec37, em207, if_neg h82, if_neg h82]
        exact ⟨Gj, Mj, nbj, gj, mj, hnj⟩
    obtain ⟨Gr, Mr, nbr, gr, mr, hnr⟩ := hrest
    rw [ecB, emB]
    by_cases h83 : G.2 8 3 = nI b
    · rw [if_pos h83, if_pos h83]
      rcases uz_till y12 (x := 1) (by decide) with ⟨e2, e3⟩ | ⟨e2, e3⟩
      · rw [e2, Option.bind_some, if_neg (by decide), if_pos e3]
        refine ⟨G, gs_sv M 9 (-1), -1, rfl, rfl, uf_st_congr hs (fun _ _ => rfl) (fun _ _ => rfl) (fun k hk => by rw [sv_1, if_neg (by omega)]) (fun _ _ => rfl), hdy, rfl, Or.inl ⟨rfl, Or.inl hrun⟩⟩
      · rw [e2, Option.bind_some, if_pos rfl, if_neg e3]
        exact ⟨Gr, Mr, nbr, gr, mr, hnr⟩
    · rw [if_neg h83, if_neg h83]
      exact ⟨Gr, Mr, nbr, gr, mr, hnr⟩
  · have hy0 : y = 0 := by
      rcases hy with ⟨_, h⟩ | ⟨h, _⟩
      · exact absurd (hiff.mpr h) l2
      · exact h
    subst hy0
    exact ⟨Ge, Me, nbe, hcend l1, by rw [uz_b176]; exact me, hne⟩
