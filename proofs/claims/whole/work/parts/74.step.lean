/-! ===== own: unfold: a step ===== -/
def uf_st (G M : gs_T) (B R E : Nat) : Prop := rl_S G B R E ∧ rl_J G M B ∧ rl_D G M ∧ rl_F G M
def uf_dy (G M : gs_T) (B : Nat) : Prop :=
  G.1 0 = M.1 5 ∧ G.1 1 = M.1 6 ∧ G.1 2 = M.1 7 ∧ G.1 3 = M.1 8 ∧ (∀ i, i < 60 → G.2 20 i = M.2 17 i) ∧ G.2 15 = M.2 13 ∧ G.2 16 = M.2 14 ∧ G.2 17 = M.2 15 ∧ G.2 18 = M.2 16 ∧ (∀ r, r < 20 → G.2 21 r = M.2 18 r) ∧ (∀ b, b < 60 → G.2 22 b = M.2 19 b) ∧
  (G.1 2 = -1 ∨ ∃ j, j < 60 ∧ G.1 2 = nI j) ∧ ∃ C, C ≤ 1000 ∧ G.1 0 = nI C ∧ (∀ i, i < C → 0 ≤ (G.2 15 i).toInt ∧ (G.2 15 i).toInt < B) ∧ (∀ b, b < 60 → G.2 19 b = nI (rp_cnt (G.2 15) (nI b) C))
def uf_run (G M : gs_T) : Prop := G.1 4 = 0 ∧ G.1 5 = -1 ∧ M.1 4 = -1 ∧ M.1 10 = 0
def uf_ps (G : gs_T) (R b : Nat) : Prop := ∀ r, r < R → 0 ≤ (G.2 21 r).toInt ∧ (G.2 21 r).toInt ≤ (G.2 3 r).toInt ∧ (G.2 21 r ≠ 0 → (G.2 1 r).toInt ≤ b ∧ (b : Int) ≤ (G.2 2 r).toInt)
def uf_x (G : gs_T) : Int32 := if G.1 2 = -1 then 0 else if G.2 11 (G.1 2).toNatClampNeg = 0 then 1 else 0
def uf_key (G : gs_T) (R b : Nat) : Nat := uk_key (G.2 1) (G.2 12) (G.2 13) (uo_op (G.2 1) (G.2 2) (G.2 3) (G.2 21) R b (uf_x G)) b
def uf_ep (G : gs_T) : Nat := 2 * uk_cnt (fun b => decide (G.2 22 b = 0)) 60 + (if G.1 3 = 0 then 1 else 0)
def uf_T (G : gs_T) (R b : Nat) : Nat := uf_ep G * 7501 + uk_rest (G.2 1) (G.2 12) (G.2 13) (uf_key G R b)
/-- a bar is come to, and all repeats around it, and no others, are open -/
def uf_op (G : gs_T) (R b : Nat) : Prop := ∀ r, r < R → ((G.2 1 r).toInt ≤ b ∧ (b : Int) ≤ (G.2 2 r).toInt → 1 ≤ (G.2 21 r).toInt ∧ (G.2 21 r).toInt ≤ (G.2 3 r).toInt) ∧ (¬ ((G.2 1 r).toInt ≤ b ∧ (b : Int) ≤ (G.2 2 r).toInt) → G.2 21 r = 0)
def uf_fin (G M : gs_T) : Prop := uf_run G M ∨ (G.1 4 = 4 ∧ G.1 5 = M.1 4 ∧ M.1 10 = 1)
/-- what a step comes to; T is what was left before it -/
def uf_nx (G M : gs_T) (B R E : Nat) (nb : Int32) (T : Nat) : Prop :=
  uf_st G M B R E ∧ uf_dy G M B ∧ M.1 9 = nb ∧ ((nb = -1 ∧ uf_fin G M) ∨ ∃ c, c < B ∧ nb = nI c ∧ uf_run G M ∧ uf_ps G R c ∧ uf_T G R c < T)
theorem uf_st_congr {G G' M M' : gs_T} {B R E : Nat} (h : uf_st G M B R E) (g1 : ∀ k, 6 ≤ k → G'.1 k = G.1 k) (g2 : ∀ k, k < 15 ∨ 22 < k → G'.2 k = G.2 k) (m1 : ∀ k, (1 ≤ k ∧ k ≤ 3) ∨ 11 ≤ k → M'.1 k = M.1 k) (m2 : ∀ k, k < 13 ∨ 19 < k → M'.2 k = M.2 k) : uf_st G' M' B R E := by
  unfold uf_st rl_S rl_J rl_D rl_F at *
  rw [g1 6 (by omega), g1 7 (by omega), g1 8 (by omega), g1 9 (by omega), g1 11 (by omega), g1 12 (by omega), g2 0 (by omega), g2 1 (by omega), g2 2 (by omega), g2 3 (by omega), g2 4 (by omega), g2 5 (by omega), g2 6 (by omega), g2 7 (by omega), g2 8 (by omega), g2 9 (by omega), g2 10 (by omega), g2 11 (by omega), g2 12 (by omega), g2 13 (by omega), g2 14 (by omega), g2 29 (by omega), g2 30 (by omega)]
  rw [m1 1 (by omega), m1 2 (by omega), m1 3 (by omega), m1 11 (by omega), m1 12 (by omega), m2 0 (by omega), m2 1 (by omega), m2 2 (by omega), m2 3 (by omega), m2 4 (by omega), m2 5 (by omega), m2 6 (by omega), m2 7 (by omega), m2 8 (by omega), m2 9 (by omega), m2 10 (by omega), m2 11 (by omega), m2 12 (by omega), m2 24 (by omega), m2 25 (by omega)]
  exact h
theorem uo_bd {f t m p : Nat → Int32} {R b : Nat} {x : Int32} (hm : ∀ r, r < R → 2 ≤ (m r).toInt ∧ (m r).toInt ≤ 4) (hp : ∀ r, r < R → 0 ≤ (p r).toInt ∧ (p r).toInt ≤ (m r).toInt) : ∀ r, r < R → 0 ≤ (uo_op f t m p R b x r).toInt ∧ (uo_op f t m p R b x r).toInt ≤ 4 := by
  intro r hr
  have h1 := hm r hr
  have h2 := hp r hr
  unfold uo_op
  split
  · split
    · decide
    · omega
  · omega
theorem uo_same {f t m p : Nat → Int32} {R b : Nat} {x : Int32} {r : Nat} (h : p r ≠ 0) : uo_op f t m p R b x r = p r := by
  unfold uo_op
  rw [if_neg (fun h2 => h h2.2.2.2)]
/-- the end of a bar z, as a step from the bar b -/
theorem uz_end (n : Nat) (hn : 61 < n) {G M : gs_T} {B R E b z T : Nat} (p1 : Nat → Int32) (hs : uf_st G M B R E) (hdy : uf_dy G M B) (hrun : uf_run G M) (hbz : b ≤ z) (hz : z < B) (hps : uf_ps G R z)
    (hp1 : ∀ r, r < R → ((G.2 1 r).toInt ≤ b ∧ (b : Int) ≤ (G.2 2 r).toInt → 1 ≤ (p1 r).toInt ∧ (p1 r).toInt ≤ (G.2 3 r).toInt) ∧ (¬ ((G.2 1 r).toInt ≤ b ∧ (b : Int) ≤ (G.2 2 r).toInt) → p1 r = 0))
    (hsub : ∀ r, r < R → G.2 21 r = 0 ∨ G.2 21 r = p1 r) (K1 : ∀ r, r < R → (G.2 1 r).toInt ≤ b → (z : Int) < (G.2 2 r).toInt → G.2 21 r = p1 r)
    (K2 : ∀ r s, r < R → s < R → G.2 21 r ≠ 0 → (G.2 1 s).toInt ≤ (G.2 1 r).toInt → (G.2 2 r).toInt ≤ (G.2 2 s).toInt → G.2 21 s = p1 s)
    (hT : uf_ep G * 7501 + uk_rest (G.2 1) (G.2 12) (G.2 13) (uk_key (G.2 1) (G.2 12) (G.2 13) p1 b) ≤ T) :
    ∃ (G' M' : gs_T) (nb : Int32), cW_endOf n G (nI z) = some (nb, G') ∧ mM_theEnd n M (nI z) = some M' ∧ uf_nx G' M' B R E nb T := by
  obtain ⟨⟨⟨s1, s2, s3, s4, s5, s6⟩, t1, t2, t3, t4, t5, t6, t7, t8⟩, hJ, hD, hF⟩ := id hs
  obtain ⟨D1, D2, D3, D4, D5, D6, D7, D8, D9, D10, D11, D12, D13, D14⟩ := hD
  obtain ⟨z1, z2, z3, z4, z5⟩ := uk_ch (t6 z (by omega))
  have hm : ∀ r, r < R → 2 ≤ (G.2 3 r).toInt ∧ (G.2 3 r).toInt ≤ 4 := fun r hr => by have := t1 r hr; omega
  obtain ⟨G', M', nb, q1, q2, r1, r2, r3, r4, r5, r6, r7⟩ := ue_end n hn s2 hz s4 s1 (D1.symm.trans s1) (D2.symm.trans s3) D5.symm D6.symm D7.symm t1 z1 z2 z3 z4 z5 hps hdy.2.2.2.2.2.2.2.2.2.1
  have hs' : uf_st G' M' B R E := uf_st_congr hs (fun k _ => by rw [r1]) (fun k hk => r2 k (by omega)) (fun k hk => r3 k (by omega)) (fun k hk => r4 k (by omega))
  have hdy' : uf_dy G' M' B := by
    obtain ⟨y1, y2, y3, y4, y5, y6, y7, y8, y9, y10, y11, y12, y13⟩ := hdy
    unfold uf_dy
    rw [r1, r2 15 (by decide), r2 16 (by decide), r2 17 (by decide), r2 18 (by decide), r2 19 (by decide), r2 20 (by decide), r2 22 (by decide), r3 5 (by decide), r3 6 (by decide), r3 7 (by decide), r3 8 (by decide), r4 13 (by decide), r4 14 (by decide), r4 15 (by decide), r4 16 (by decide), r4 17 (by decide), r4 19 (by decide)]
    exact ⟨y1, y2, y3, y4, y5, y6, y7, y8, y9, r6, y11, y12, y13⟩
  have hrun' : uf_run G' M' := by
    unfold uf_run
    rw [r1, r3 4 (by decide), r3 10 (by decide)]
    exact hrun
  refine ⟨G', M', nb, q1, q2, hs', hdy', r5, ?_⟩
  have hx : uf_x G' = uf_x G := by unfold uf_x; rw [r1, r2 11 (by decide)]
  have hep : uf_ep G' = uf_ep G := by unfold uf_ep; rw [r1, r2 22 (by decide)]
  have e1 := r2 1 (by decide)
  have e2 := r2 2 (by decide)
  have e3 := r2 3 (by decide)
  have e12 := r2 12 (by decide)
  have e13 := r2 13 (by decide)
  have hp14 : ∀ r, r < R → 0 ≤ (p1 r).toInt ∧ (p1 r).toInt ≤ 4 := by
    intro r hr
    have h1 := hp1 r hr
    have h2 := hm r hr
    by_cases ha : (G.2 1 r).toInt ≤ b ∧ (b : Int) ≤ (G.2 2 r).toInt
    · have := h1.1 ha; omega
    · rw [h1.2 ha, li_0]; omega
  have hfin : ∀ c, c < 60 → uf_ps G' R c → uk_key (G.2 1) (G.2 12) (G.2 13) p1 b < uk_key (G.2 1) (G.2 12) (G.2 13) (uo_op (G.2 1) (G.2 2) (G.2 3) (G'.2 21) R c (uf_x G)) c → uf_T G' R c < T := by
    intro c hc hpc hk
    unfold uf_T uf_key
    rw [hep, hx, e1, e2, e3, e12, e13]
    have hpc2 : ∀ r, r < R → 0 ≤ (G'.2 21 r).toInt ∧ (G'.2 21 r).toInt ≤ (G.2 3 r).toInt := fun r hr => by
      have := hpc r hr
      rw [e3] at this
      exact ⟨this.1, this.2.1⟩
    have := uk_falls hc (t6 c hc) (uo_bd (f := G.2 1) (t := G.2 2) (b := c) (x := uf_x G) hm hpc2) hk
    omega
  rcases r7 with ⟨rA, rB⟩ | ⟨i, ri, rt, rp, rl, rn, ra, rz, rk⟩
  · by_cases hBz : B ≤ z + 1
    · rw [if_pos hBz] at rA
      exact Or.inl ⟨rA, Or.inl hrun'⟩
    · rw [if_neg hBz] at rA
      have hpc : uf_ps G' R (z + 1) := by
        intro r hr
        rw [e1, e2, e3, rB r hr]
        have h1 := hps r hr
        have h2 := t1 r hr
        split
        · exact ⟨by decide, by rw [li_0]; omega, fun h => absurd rfl h⟩
        · rename_i h3
          refine ⟨h1.1, h1.2.1, fun h4 => ?_⟩
          have := h1.2.2 h4
          omega
      refine Or.inr ⟨z + 1, by omega, rA, hrun', hpc, hfin (z + 1) (by omega) hpc ?_⟩
      refine uk_A (by omega) (by omega) (fun r hr => (t1 r hr).1) (t6 b (by omega)) (t6 (z + 1) (by omega)) hp14 (uo_bd hm (fun r hr => by
        have := hpc r hr
        rw [e3] at this
        exact ⟨this.1, this.2.1⟩)) (fun r hr h1 h2 => ?_)
      have h3 : G'.2 21 r = p1 r := by
        rw [rB r hr, if_neg (by omega)]
        exact K1 r hr h1 (by omega)
      have h4 := (hp1 r hr).1 ⟨h1, by omega⟩
      rw [uo_same (by rw [h3]; intro h5; rw [h5, li_0] at h4; omega), h3]
  · -- back to the begin of a repeat
    have hrR := (z3 i ri).1
    have hfr := t1 _ hrR
    have hp2 : G.2 21 (rc_ch (G.2 12) z i) = p1 (rc_ch (G.2 12) z i) := (hsub _ hrR).resolve_left rp
    have hb1 : (G.2 1 (rc_ch (G.2 12) z i)).toInt ≤ b ∧ (b : Int) ≤ (G.2 2 (rc_ch (G.2 12) z i)).toInt := by
      by_cases h : (G.2 1 (rc_ch (G.2 12) z i)).toInt ≤ b ∧ (b : Int) ≤ (G.2 2 (rc_ch (G.2 12) z i)).toInt
      · exact h
      · exact absurd (hp2.trans ((hp1 _ hrR).2 h)) rp
    obtain ⟨c, hc⟩ : ∃ c : Nat, (G.2 1 (rc_ch (G.2 12) z i)).toInt = c := ⟨(G.2 1 (rc_ch (G.2 12) z i)).toInt.toNat, by omega⟩
    have hcB : c < B := by omega
    have hpc : uf_ps G' R c := by
      intro r hr
      rw [e1, e2, e3]
      have h2 := t1 r hr
      have h1 := hps r hr
      by_cases hre : r = rc_ch (G.2 12) z i
      · subst hre
        exact ⟨by omega, by omega, fun _ => by omega⟩
      · by_cases hcl : (G.2 2 r).toInt = z ∧ (G.2 1 (rc_ch (G.2 12) z i)).toInt < (G.2 1 r).toInt
        · rw [rz r hr hre hcl]
          exact ⟨by decide, by rw [li_0]; omega, fun h => absurd rfl h⟩
        · rw [rk r hr hre hcl]
          refine ⟨h1.1, h1.2.1, fun h4 => ?_⟩
          have h5 := h1.2.2 h4
          have h6 := t2 r _ hr hrR hre
          have h7 := h6.1
          unfold rc_lw at h7
          omega
    have hb60 : b < 60 := by omega
    obtain ⟨b1, b2, b3, b4, b5⟩ := uk_ch (t6 b hb60)
    obtain ⟨i2, hi2, ei2⟩ := b5 _ hrR hb1.1 hb1.2
    have hne0 : ∀ y : Int32, 1 ≤ y.toInt → y ≠ 0 := fun y h5 h6 => by rw [h6, li_0] at h5; omega
    refine Or.inr ⟨c, hcB, by rw [rn]; exact li_nI (by omega) hc, hrun', hpc, hfin c (by omega) hpc ?_⟩
    refine uk_B (i := i2) hb60 (by omega) (t6 b hb60) (t6 c (by omega)) hp14 (uo_bd hm (fun r hr => by
      have := hpc r hr
      rw [e3] at this
      exact ⟨this.1, this.2.1⟩)) hi2 (by rw [ei2]; exact hc) (fun u hu => ?_) ?_
    · have h5 := b3 u (by omega)
      have h6 := b4 u i2 hu hi2
      rw [ei2] at h6
      have hne : rc_ch (G.2 12) b u ≠ rc_ch (G.2 12) z i := fun h7 => by
        rw [h7] at h6
        exact h6.2.2 ⟨rfl, rfl⟩
      have h7 : G'.2 21 (rc_ch (G.2 12) b u) = p1 (rc_ch (G.2 12) b u) := by
        rw [rk _ h5.1 hne (by omega)]
        exact K2 _ _ hrR h5.1 rp h6.1 h6.2.1
      have h8 := (hp1 _ h5.1).1 ⟨h5.2.2.1, h5.2.2.2⟩
      rw [uo_same (by rw [h7]; exact hne0 _ h8.1), h7]
    · rw [ei2, uo_same (hne0 _ (by have := (hps _ hrR).1; omega)), ra, hp2]
      omega
