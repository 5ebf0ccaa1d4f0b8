/-! ===== own: unfold: the loop and the call ===== -/
theorem ug_loop (n : Nat) (hn : 61 < n) {B R E : Nat} (K : gs_T → Option (Int32 × gs_T)) : ∀ (t st kc km b : Nat) (G M : gs_T), uf_T G R b < t → st + t ≤ 1000000 → t < kc → t < km → uf_st G M B R E → uf_dy G M B → uf_run G M → b < B → uf_ps G R b → M.1 9 = nI b →
    ∃ G' M' : gs_T, cW_playFromFirstBar_18 n kc (nI b) (nI st) G = some G' ∧ mM_unfold_71 n K km M = K M' ∧ uf_st G' M' B R E ∧ uf_dy G' M' B ∧ uf_fin G' M' := by
  intro t
  induction t with
  | zero => intro st kc km b G M h; omega
  | succ t ih =>
    intro st kc km b G M hT hst hkc hkm hs hdy hrun hb hps h9
    have hB := hs.1.1.2.1
    have hneg : ∀ c : Nat, c < 60 → ¬ nI c = -1 := fun c hc => by rw [li_eq, li_m1, nI_toInt (by omega)]; omega
    obtain ⟨G', M', nb, q1, q2, q3, q4, q5, q6⟩ := uc_come n hn hs hdy hrun hb hps
    obtain ⟨kc, rfl⟩ : ∃ q, kc = q + 1 + 1 := ⟨kc - 2, by omega⟩
    obtain ⟨km, rfl⟩ : ∃ q, km = q + 1 + 1 := ⟨km - 2, by omega⟩
    have hlt : ¬ (1000000 : Int32) ≤ nI st := nI_ge (b := 1000000) (show st < 1000000 by omega) (by omega)
    have eC : cW_playFromFirstBar_18 n (kc + 1 + 1) (nI b) (nI st) G = cW_playFromFirstBar_18 n (kc + 1) nb (nI (st + 1)) G' := by
      rw [cW_playFromFirstBar_18, if_neg hlt, if_neg (hneg b (by omega)), q1, Option.bind_some, ← nI_succ]
    have eM : mM_unfold_71 n K (km + 1 + 1) M = mM_unfold_71 n K (km + 1) M' := by
      rw [mM_unfold_71, h9, if_neg (hneg b (by omega)), q2, Option.bind_some]
    rcases q6 with ⟨r1, r2⟩ | ⟨c, c1, c2, c3, c4, c5⟩
    · refine ⟨G', M', ?_, ?_, q3, q4, r2⟩
      · rw [eC, cW_playFromFirstBar_18, r1]
        by_cases h : (1000000 : Int32) ≤ nI (st + 1)
        · rw [if_pos h]
        · rw [if_neg h, if_pos rfl]
      · rw [eM, mM_unfold_71, q5, r1, if_pos rfl]
    · obtain ⟨G2, M2, u1, u2, u3⟩ := ih (st + 1) (kc + 1) (km + 1) c G' M' (by omega) (by omega) (by omega) (by omega) q3 q4 c3 c1 c4 (by rw [q5, c2])
      exact ⟨G2, M2, by rw [eC, c2]; exact u1, by rw [eM]; exact u2, u3⟩
theorem ug_forgetC (n : Nat) (hn : 61 < n) (G : gs_T) : ∃ G' : gs_T, cW_forget n G = some G' ∧ (G'.1 0 = 0 ∧ G'.1 1 = 0 ∧ G'.1 2 = -1 ∧ G'.1 3 = 0) ∧ (∀ k, 4 ≤ k → G'.1 k = G.1 k) ∧ G'.2 19 = (fun _ => 0) ∧ G'.2 20 = (fun _ => 0) ∧ G'.2 21 = (fun _ => 0) ∧ (∀ b, b < 60 → G'.2 22 b = 0) ∧ (∀ k, k < 19 ∨ 22 < k → G'.2 k = G.2 k) := by
  have h := lp_for (fun k i G => cW_forget_38 n k i G) 60
    (fun i G' => (G'.1 0 = 0 ∧ G'.1 1 = 0 ∧ G'.1 2 = -1 ∧ G'.1 3 = 0) ∧ (∀ k, 4 ≤ k → G'.1 k = G.1 k) ∧ G'.2 19 = (fun _ => 0) ∧ G'.2 20 = (fun _ => 0) ∧ (∀ b, b < i → G'.2 22 b = 0) ∧ (∀ k, k < 19 ∨ 22 < k → G'.2 k = G.2 k))
    (fun G' => some (gs_sf G' 21 0))
    (fun k G' hI => by simp only [cW_forget_38, if_pos (show (60 : Int32) ≤ nI 60 by decide), cW_leaveAll, Option.bind_some])
    (fun k i G' hi hI => by
      obtain ⟨i1, i2, i3, i4, i5, i6⟩ := hI
      refine ⟨gs_sa G' 22 (nI i) 0, ⟨i1, i2, i3, i4, fun b hb => ?_, fun k hk => ?_⟩, ?_⟩
      · simp only [sa_2, reduceIte, nI_clamp (show i < 2 ^ 31 by omega), ud_e]
        split
        · rfl
        · exact i5 b (by omega)
      · simp only [sa_2, if_neg (show k ≠ 22 by omega)]
        exact i6 k hk
      · simp only [cW_forget_38, if_neg (show ¬ (60 : Int32) ≤ nI i from nI_ge (b := 60) hi (by omega)), ck_nI _ hi (show 60 < 2 ^ 31 by decide), pu_n0, ← nI_succ])
    n 0 (gs_sf (gs_sf (gs_sv (gs_sv (gs_sv (gs_sv G 0 (0 : Int32)) 1 (0 : Int32)) 2 (-1 : Int32)) 3 (0 : Int32)) 19 (0 : Int32)) 20 (0 : Int32)) (by omega) (by omega)
    ⟨⟨rfl, rfl, rfl, rfl⟩, fun k hk => by simp only [sf_1, sv_1, if_neg (show k ≠ 0 by omega), if_neg (show k ≠ 1 by omega), if_neg (show k ≠ 2 by omega), if_neg (show k ≠ 3 by omega)], rfl, rfl, fun b hb => by omega, fun k hk => by simp only [sf_2, sv_2, if_neg (show k ≠ 19 by omega), if_neg (show k ≠ 20 by omega)]⟩
  obtain ⟨G', ⟨i1, i2, i3, i4, i5, i6⟩, h6⟩ := h
  rw [← li_n0] at h6
  refine ⟨gs_sf G' 21 0, h6, i1, i2, i3, i4, rfl, i5, fun k hk => ?_⟩
  simp only [sf_2, if_neg (show k ≠ 21 by omega)]
  exact i6 k hk
theorem ug_forgetM (n : Nat) (hn : 61 < n) (M : gs_T) : ∃ M' : gs_T, mM_forget n M = some M' ∧ (M'.1 4 = -1 ∧ M'.1 5 = 0 ∧ M'.1 6 = 0 ∧ M'.1 7 = -1 ∧ M'.1 8 = 0 ∧ M'.1 10 = 0) ∧ (∀ k, k < 4 ∨ k = 9 ∨ 10 < k → M'.1 k = M.1 k) ∧ (∀ b, b < 60 → M'.2 17 b = 0 ∧ M'.2 19 b = 0) ∧ (∀ r, r < 20 → M'.2 18 r = 0) ∧ (∀ k, k < 17 ∨ 19 < k → M'.2 k = M.2 k) := by
  have h := lp_for (fun k i G => mM_forget_32 n k i G) 60
    (fun i G' => (G'.1 4 = -1 ∧ G'.1 5 = 0 ∧ G'.1 6 = 0 ∧ G'.1 7 = -1 ∧ G'.1 8 = 0 ∧ G'.1 10 = 0) ∧ (∀ k, k < 4 ∨ k = 9 ∨ 10 < k → G'.1 k = M.1 k) ∧ (∀ b, b < i → G'.2 17 b = 0 ∧ G'.2 19 b = 0) ∧ (∀ k, k < 17 ∨ 19 < k → G'.2 k = M.2 k))
    (fun G' => (mM_leaveAll n G').bind fun q1 => some q1)
    (fun k G' hI => by simp only [mM_forget_32, if_pos (show (60 : Int32) ≤ nI 60 by decide)])
    (fun k i G' hi hI => by
      obtain ⟨i1, i2, i3, i6⟩ := hI
      refine ⟨gs_sa (gs_sa G' 17 (nI i) 0) 19 (nI i) 0, ⟨i1, i2, fun b hb => ?_, fun k hk => ?_⟩, ?_⟩
      · simp only [sa_2, reduceIte, Nat.reduceEqDiff, nI_clamp (show i < 2 ^ 31 by omega), ud_e]
        split
        · exact ⟨rfl, rfl⟩
        · exact i3 b (by omega)
      · simp only [sa_2, if_neg (show k ≠ 17 by omega), if_neg (show k ≠ 19 by omega)]
        exact i6 k hk
      · simp only [mM_forget_32, if_neg (show ¬ (60 : Int32) ≤ nI i from nI_ge (b := 60) hi (by omega)), ck_nI _ hi (show 60 < 2 ^ 31 by decide), pu_n0, ← nI_succ])
    n 0 (gs_sv (gs_sv (gs_sv (gs_sv (gs_sv (gs_sv M 4 (-1 : Int32)) 5 (0 : Int32)) 6 (0 : Int32)) 7 (-1 : Int32)) 8 (0 : Int32)) 10 (0 : Int32)) (by omega) (by omega)
    ⟨⟨rfl, rfl, rfl, rfl, rfl, rfl⟩, fun k hk => by simp only [sv_1, if_neg (show k ≠ 4 by omega), if_neg (show k ≠ 5 by omega), if_neg (show k ≠ 6 by omega), if_neg (show k ≠ 7 by omega), if_neg (show k ≠ 8 by omega), if_neg (show k ≠ 10 by omega)], fun b hb => by omega, fun k hk => rfl⟩
  obtain ⟨G', ⟨i1, i2, i3, i6⟩, h6⟩ := h
  rw [← li_n0] at h6
  obtain ⟨M', w1, w2, w3, w4⟩ := uz_leaveM n hn G'
  refine ⟨M', ?_, by rw [w2]; exact i1, fun k hk => by rw [w2]; exact i2 k hk, fun b hb => by rw [w3 17 (by decide), w3 19 (by decide)]; exact i3 b hb, w4, fun k hk => by rw [w3 k (by omega)]; exact i6 k hk⟩
  show mM_forget_32 n n 0 _ = _
  rw [h6, w1]
  rfl
/-- behind the forgetting -/
theorem ug_fresh {G M G' M' : gs_T} {B R E : Nat} (hs : uf_st G M B R E) (hP : G.2 15 = M.2 13 ∧ G.2 16 = M.2 14 ∧ G.2 17 = M.2 15 ∧ G.2 18 = M.2 16)
    (c1 : G'.1 0 = 0 ∧ G'.1 1 = 0 ∧ G'.1 2 = -1 ∧ G'.1 3 = 0) (c2 : ∀ k, 6 ≤ k → G'.1 k = G.1 k) (c3 : G'.2 19 = (fun _ => 0)) (c4 : G'.2 20 = (fun _ => 0)) (c5 : G'.2 21 = (fun _ => 0)) (c6 : ∀ b, b < 60 → G'.2 22 b = 0) (c7 : ∀ k, k < 19 ∨ 22 < k → G'.2 k = G.2 k)
    (m1 : M'.1 5 = 0 ∧ M'.1 6 = 0 ∧ M'.1 7 = -1 ∧ M'.1 8 = 0) (m2 : ∀ k, (1 ≤ k ∧ k ≤ 3) ∨ 11 ≤ k → M'.1 k = M.1 k) (m3 : ∀ b, b < 60 → M'.2 17 b = 0 ∧ M'.2 19 b = 0) (m4 : ∀ r, r < 20 → M'.2 18 r = 0) (m5 : ∀ k, k < 17 ∨ 19 < k → M'.2 k = M.2 k) : uf_st G' M' B R E ∧ uf_dy G' M' B := by
  refine ⟨uf_st_congr hs c2 (fun k hk => c7 k (by omega)) m2 (fun k hk => m5 k (by omega)), ?_⟩
  unfold uf_dy
  rw [c1.1, c1.2.1, c1.2.2.1, c1.2.2.2, m1.1, m1.2.1, m1.2.2.1, m1.2.2.2, c3, c4, c5, c7 15 (by omega), c7 16 (by omega), c7 17 (by omega), c7 18 (by omega), m5 13 (by omega), m5 14 (by omega), m5 15 (by omega), m5 16 (by omega)]
  exact ⟨rfl, rfl, rfl, rfl, fun i hi => (m3 i hi).1.symm, hP.1, hP.2.1, hP.2.2.1, hP.2.2.2, fun r hr => (m4 r hr).symm, fun b hb => (c6 b hb).trans (m3 b hb).2.symm, Or.inl rfl, 0, by omega, rfl, fun i hi => by omega, fun b hb => rfl⟩
theorem ug_miss {G M : gs_T} (D12 : G.2 8 = M.2 8) (D13 : G.2 10 = M.2 11) {b : Nat} (hb : b < 60) (hj : G.2 9 b = M.2 10 b) : ∃ v : Int32, cS_faultOfJump G (nI b) = some v ∧ mM_missing M (nI b) = some v ∧ (v = 0 ∨ v = 1 ∨ v = 2 ∨ v = 3) := by
  have hb31 : b < 2 ^ 31 := by omega
  have hk3 : ∀ (k : Nat) {α : Type} (t : Option α), k < 4 → gs_ck (nI k) 4 t = t := fun k _ t hk => ck_nI t hk (by decide)
  have c3 : ∀ {α : Type} (t : Option α), gs_ck (3 : Int32) 4 t = t := fun t => hk3 3 t (by decide)
  have c2 : ∀ {α : Type} (t : Option α), gs_ck (2 : Int32) 4 t = t := fun t => hk3 2 t (by decide)
  have c1 : ∀ {α : Type} (t : Option α), gs_ck (1 : Int32) 4 t = t := fun t => hk3 1 t (by decide)
  have c0 : ∀ {α : Type} (t : Option α), gs_ck (0 : Int32) 4 t = t := fun t => hk3 0 t (by decide)
  have a8 : ∀ x : Int32, gs_a G 8 x = gs_a M 8 x := fun x => by unfold gs_a; rw [D12]
  have a10 : ∀ x : Int32, gs_a G 10 x = gs_a M 11 x := fun x => by unfold gs_a; rw [D13]
  have a9 : gs_a G 9 (nI b) = gs_a M 10 (nI b) := by rw [ga_nI _ _ hb31, ga_nI _ _ hb31]; exact hj
  have e40 : ∃ v : Int32, cS_faultOfJump_j40 G (nI b) = some v ∧ mM_missing_j44 M (nI b) = some v ∧ (v = 0 ∨ v = 1 ∨ v = 2 ∨ v = 3) := by
    unfold cS_faultOfJump_j40 mM_missing_j44 cS_lacksSign
    simp only [ck_nI _ hb (show 60 < 2 ^ 31 by decide), c1, c2, a8, a10]
    by_cases h : gs_a M 11 (nI b) = 2
    · rw [if_pos h, if_pos h]
      by_cases h2 : gs_a M 8 (2 : Int32) = -1
      · rw [if_pos h2, if_pos h2]
        exact ⟨3, rfl, rfl, by decide⟩
      · rw [if_neg h2, if_neg h2]
        by_cases h3 : gs_a M 8 (1 : Int32) = -1
        · rw [if_pos h3, if_pos h3]
          exact ⟨3, rfl, rfl, by decide⟩
        · rw [if_neg h3, if_neg h3]
          exact ⟨0, rfl, rfl, by decide⟩
    · rw [if_neg h, if_neg h]
      exact ⟨0, rfl, rfl, by decide⟩
  have e20 : ∃ v : Int32, cS_faultOfJump_j20 G (nI b) = some v ∧ mM_missing_j22 M (nI b) = some v ∧ (v = 0 ∨ v = 1 ∨ v = 2 ∨ v = 3) := by
    unfold cS_faultOfJump_j20 mM_missing_j22 cS_lacksSign
    simp only [ck_nI _ hb (show 60 < 2 ^ 31 by decide), c3, a8, a10]
    by_cases h : gs_a M 11 (nI b) = 1
    · rw [if_pos h, if_pos h]
      by_cases h2 : gs_a M 8 (3 : Int32) = -1
      · rw [if_pos h2, if_pos h2]
        exact ⟨2, rfl, rfl, by decide⟩
      · rw [if_neg h2, if_neg h2]
        exact e40
    · rw [if_neg h, if_neg h]
      exact e40
  unfold cS_faultOfJump mM_missing cS_lacksSign
  simp only [ck_nI _ hb (show 60 < 2 ^ 31 by decide), c0, a8, a9]
  by_cases h : gs_a M 10 (nI b) = 1
  · rw [if_pos h, if_pos h]
    by_cases h2 : gs_a M 8 (0 : Int32) = -1
    · rw [if_pos h2, if_pos h2]
      exact ⟨1, rfl, rfl, by decide⟩
    · rw [if_neg h2, if_neg h2]
      exact e20
  · rw [if_neg h, if_neg h]
    exact e20
/-- the jumps' faults, on both sides: none, or the first -/
theorem ug_find (n : Nat) {G M : gs_T} {B R E : Nat} (hs : uf_st G M B R E) (K : Unit → Option (Int32 × gs_T)) : ∀ (k km i : Nat) (G' : gs_T), i ≤ B → B - i + 1 < k → B - i < km → G'.2 = G.2 → (∀ q, q ≠ 4 → q ≠ 5 → G'.1 q = G.1 q) → G'.1 4 = 0 → G'.1 5 = -1 →
    (∃ G'' : gs_T, cW_findFaultOfJumps_2 n k (nI i) G' = some G'' ∧ mM_unfold_11 n M K km (nI i) = K () ∧ G''.2 = G.2 ∧ (∀ q, q ≠ 4 → q ≠ 5 → G''.1 q = G.1 q) ∧ G''.1 4 = 0 ∧ G''.1 5 = -1) ∨
    (∃ (G'' : gs_T) (v : Int32) (b : Nat), b < B ∧ cW_findFaultOfJumps_2 n k (nI i) G' = some G'' ∧ mM_unfold_11 n M K km (nI i) = some ((-1 : Int32) - v, gs_sv M 4 (nI b)) ∧ G''.2 = G.2 ∧ (∀ q, q ≠ 4 → q ≠ 5 → G''.1 q = G.1 q) ∧ G''.1 4 = v ∧ ¬ v = 0 ∧ G''.1 5 = nI b) := by
  obtain ⟨⟨⟨s1, s2, s3, s4, s5, s6⟩, t1, t2, t3, t4, t5, t6, t7, t8⟩, hJ, hD, hF⟩ := id hs
  obtain ⟨D1, D2, D3, D4, D5, D6, D7, D8, D9, D10, D11, D12, D13, D14⟩ := hD
  have hM1 : M.1 1 = nI B := D1.symm.trans s1
  intro k
  induction k with
  | zero => intro km i G' h1 h2; omega
  | succ k ih =>
    intro km i G' h1 h2 h3 e1 e2 e3 e4
    obtain ⟨km, rfl⟩ : ∃ q, km = q + 1 := ⟨km - 1, by omega⟩
    have h6 : G'.1 6 = nI B := (e2 6 (by decide) (by decide)).trans s1
    by_cases hi : i = B
    · subst hi
      refine Or.inl ⟨G', ?_, ?_, e1, e2, e3, e4⟩
      · simp only [cW_findFaultOfJumps_2, h6, if_pos (Int32.le_refl _)]
      · simp only [mM_unfold_11, hM1, if_pos (Int32.le_refl _)]
    · have hi60 : i < 60 := by omega
      have hi31 : i < 2 ^ 31 := by omega
      have hge := nI_ge (show i < B by omega) (show B < 2 ^ 31 by omega)
      have hjc : cS_hasJump G' (nI i) = if G.2 9 i = -1 then some 0 else some 1 := by
        unfold cS_hasJump
        rw [ck_nI _ hi60 (by decide), ga_nI _ _ hi31, e1]
      rcases hJ.2 i hi60 with ⟨j1, j2⟩ | ⟨j1, j2, j3, j4, j5⟩
      · have eC : cW_findFaultOfJumps_2 n (k + 1) (nI i) G' = cW_findFaultOfJumps_2 n k (nI (i + 1)) G' := by
          simp only [cW_findFaultOfJumps_2, h6, if_neg hge, if_pos e3, hjc, if_pos j2, Option.bind_some, reduceIte, ← nI_succ]
        have eM : mM_unfold_11 n M K (km + 1) (nI i) = mM_unfold_11 n M K km (nI (i + 1)) := by
          simp only [mM_unfold_11, hM1, if_neg hge, ck_nI _ hi60 (show 60 < 2 ^ 31 by decide), ga_nI _ _ hi31, if_pos j1, ← nI_succ]
        rw [eC, eM]
        exact ih km (i + 1) G' (by omega) (by omega) (by omega) e1 e2 e3 e4
      · have hnj : ¬ G.2 9 i = -1 := by rw [li_eq, li_m1]; omega
        obtain ⟨v, v1, v2, v3⟩ := ug_miss (G := G') (M := M) (by rw [e1]; exact D12) (by rw [e1]; exact D13) hi60 (by rw [e1]; exact j2)
        obtain ⟨v', w1, w2, -⟩ := ug_miss (G := G') (M := gs_sv M 4 (nI i)) (by rw [e1]; exact D12) (by rw [e1]; exact D13) hi60 (by rw [e1]; exact j2)
        have hvv : v' = v := Option.some.inj (w1.symm.trans v1)
        subst hvv
        have eC : cW_findFaultOfJumps_2 n (k + 1) (nI i) G' = if v' = 0 then cW_findFaultOfJumps_2 n k (nI (i + 1)) (gs_sv (gs_sv G' 4 v') 5 (-1)) else cW_findFaultOfJumps_2 n k (nI (i + 1)) (gs_sv (gs_sv G' 4 v') 5 (nI i)) := by
          simp only [cW_findFaultOfJumps_2, h6, if_neg hge, if_pos e3, hjc, if_neg hnj, Option.bind_some, if_neg (show ¬ (1 : Int32) = 0 by decide), v1, cW_setFault, ← nI_succ]
        have eM : mM_unfold_11 n M K (km + 1) (nI i) = if v' ≤ 0 then mM_unfold_11 n M K km (nI (i + 1)) else some ((-1 : Int32) - v', gs_sv M 4 (nI i)) := by
          simp only [mM_unfold_11, hM1, if_neg hge, ck_nI _ hi60 (show 60 < 2 ^ 31 by decide), ga_nI _ _ hi31, if_neg j1, v2, w2, Option.bind_some, ← nI_succ]
        by_cases hv : v' = 0
        · rw [eC, eM, if_pos hv, if_pos (by rw [hv]; decide)]
          refine ih km (i + 1) _ (by omega) (by omega) (by omega) e1 (fun q h4 h5 => ?_) hv rfl
          rw [sv_1, if_neg h5, sv_1, if_neg h4]
          exact e2 q h4 h5
        · have hvp : ¬ v' ≤ 0 := by
            rcases v3 with rfl | rfl | rfl | rfl
            · exact absurd rfl hv
            · decide
            · decide
            · decide
          refine Or.inr ⟨gs_sv (gs_sv G' 4 v') 5 (nI i), v', i, by omega, ?_, by rw [eM, if_neg hvp], e1, fun q h4 h5 => ?_, rfl, hv, rfl⟩
          · rw [eC, if_neg hv]
            obtain ⟨k, rfl⟩ : ∃ q, k = q + 1 := ⟨k - 1, by omega⟩
            have h62 : (gs_sv (gs_sv G' 4 v') 5 (nI i)).1 6 = nI B := h6
            have h42 : (gs_sv (gs_sv G' 4 v') 5 (nI i)).1 4 = v' := rfl
            rw [cW_findFaultOfJumps_2, h62, h42, if_neg hv]
            split <;> rfl
          · rw [sv_1, if_neg h5, sv_1, if_neg h4]
            exact e2 q h4 h5
theorem ug_done {G M : gs_T} {B R E : Nat} (hs : uf_st G M B R E) (hdy : uf_dy G M B) (h : G.1 5 = M.1 4) : rl_A G M B R E := by
  obtain ⟨h1, h2, h3, h4⟩ := hs
  obtain ⟨y1, y2, y3, y4, y5, y6, y7, y8, y9, y10, y11, y12, y13⟩ := hdy
  exact ⟨h1, h2, h3, ⟨h, y1, y2, y5, y6, y7, y8, y9, y13⟩, h4⟩
theorem ug_ep_le (G : gs_T) : uf_ep G ≤ 121 := by
  unfold uf_ep
  have := uk_cnt_le (fun b => decide (G.2 22 b = 0)) 60
  split <;> omega
set_option maxRecDepth 100000 in
theorem ug_ar {e r : Nat} (h1 : e ≤ 121) (h2 : r ≤ 7500) : e * 7501 + r < 915200 := by omega
theorem ug_T_lt (G : gs_T) (R b : Nat) : uf_T G R b < 915200 := ug_ar (ug_ep_le G) (uk_rest_le _ _ _ _)
theorem ug_call (n : Nat) (hn : 1000002 < n) {G M : gs_T} {B R E : Nat} (h : rl_A G M B R E) : ∃ rc mr : Int32 × gs_T, cR_unfold n G = some rc ∧ mM_unfold n M = some mr ∧ rc.1 = mr.1 ∧ rl_A rc.2 mr.2 B R E := by
  have hn61 : 61 < n := by omega
  obtain ⟨hS, hJ, hD, hW, hF⟩ := rl_thrown 0 h
  have hs0 : uf_st G (gs_sv M 0 0) B R E := ⟨hS, hJ, hD, hF⟩
  have hP : G.2 15 = M.2 13 ∧ G.2 16 = M.2 14 ∧ G.2 17 = M.2 15 ∧ G.2 18 = M.2 16 := ⟨hW.2.2.2.2.1, hW.2.2.2.2.2.1, hW.2.2.2.2.2.2.1, hW.2.2.2.2.2.2.2.1⟩
  have hB := hS.1.2.1
  have hR := hS.1.2.2.2.1
  obtain ⟨Gf, c0, c1, c2, c3, c4, c5, c6, c7⟩ := ug_forgetC n hn61 G
  obtain ⟨Mf, m0, m1, m2, m3, m4, m5⟩ := ug_forgetM n hn61 (gs_sv M 0 0)
  obtain ⟨hs2, hdy2⟩ := ug_fresh (G' := gs_sv (gs_sv Gf 4 0) 5 (-1)) (M' := Mf) hs0 hP c1 (fun k hk => by rw [sv_1, if_neg (by omega), sv_1, if_neg (by omega)]; exact c2 k (by omega)) c3 c4 c5 c6 c7 ⟨m1.2.1, m1.2.2.1, m1.2.2.2.1, m1.2.2.2.2.1⟩ (fun k hk => m2 k (by omega)) m3 m4 m5
  have eC : cR_unfold n G = (cW_findFaultOfJumps n (gs_sv (gs_sv Gf 4 0) 5 (-1))).bind fun q3 => if (q3.1 4) = 0 then (cW_playFromFirstBar n q3).bind (fun q4 => cW_go_j25 n q4) else cW_go_j25 n q3 := by
    unfold cR_unfold cW_go cW_setFault
    rw [c0]
    simp only [Option.bind_some]
    cases cW_findFaultOfJumps n (gs_sv (gs_sv Gf 4 0) 5 (-1)) with
    | none => rfl
    | some q3 =>
      simp only [Option.bind_some]
      cases (if (q3.1 4) = 0 then (cW_playFromFirstBar n q3).bind (fun q4 => cW_go_j25 n q4) else cW_go_j25 n q3) <;> rfl
  have eM : mM_unfold n M = mM_unfold_11 n Mf (fun _ => if (Mf.1 1) ≤ 0 then mM_unfold_j68 n Mf (-1) else mM_unfold_j68 n Mf 0) n 0 := by
    unfold mM_unfold
    rw [m0]
    rfl
  -- what comes behind the loop
  have hend : ∀ G4 M4 : gs_T, uf_st G4 M4 B R E → uf_dy G4 M4 B → uf_fin G4 M4 → ∃ rc mr : Int32 × gs_T, cW_go_j25 n G4 = some rc ∧ (if (M4.1 10) = 0 then some ((M4.1 5), M4) else (mM_forget n M4).bind fun q2 => some ((-5 : Int32), (gs_sv q2 4 (M4.1 4)))) = some mr ∧ rc.1 = mr.1 ∧ rl_A rc.2 mr.2 B R E := by
    intro G4 M4 hs4 hdy4 hf
    rcases hf with hr | ⟨f1, f2, f3⟩
    · refine ⟨(G4.1 0, G4), (M4.1 5, M4), ?_, by rw [if_pos hr.2.2.2], hdy4.1, ug_done hs4 hdy4 (hr.2.1.trans hr.2.2.1.symm)⟩
      unfold cW_go_j25
      rw [if_pos hr.1]
    · obtain ⟨G5, k0, k1, k2, k3, k4, k5, k6, k7⟩ := ug_forgetC n hn61 G4
      obtain ⟨M5, l0, l1, l2, l3, l4, l5⟩ := ug_forgetM n hn61 M4
      obtain ⟨hs5, hdy5⟩ := ug_fresh (G' := G5) (M' := gs_sv M5 4 (M4.1 4)) hs4 ⟨hdy4.2.2.2.2.2.1, hdy4.2.2.2.2.2.2.1, hdy4.2.2.2.2.2.2.2.1, hdy4.2.2.2.2.2.2.2.2.1⟩ k1 (fun k hk => k2 k (by omega)) k3 k4 k5 k6 k7 ⟨l1.2.1, l1.2.2.1, l1.2.2.2.1, l1.2.2.2.2.1⟩ (fun k hk => by rw [sv_1, if_neg (by omega)]; exact l2 k (by omega)) l3 l4 l5
      refine ⟨((-1 : Int32) - G5.1 4, G5), ((-5 : Int32), gs_sv M5 4 (M4.1 4)), ?_, ?_, ?_, ug_done hs5 hdy5 ?_⟩
      · unfold cW_go_j25
        rw [f1, if_neg (by decide), k0]
        rfl
      · rw [f3, if_neg (by decide), l0]
        rfl
      · show (-1 : Int32) - G5.1 4 = -5
        rw [k2 4 (by decide), f1]
        decide
      · rw [k2 5 (by decide), f2]
        rfl
  have hfind := ug_find n hs2 (fun _ => if (Mf.1 1) ≤ 0 then mM_unfold_j68 n Mf (-1) else mM_unfold_j68 n Mf 0) n n 0 (gs_sv (gs_sv Gf 4 0) 5 (-1)) (by omega) (by omega) (by omega) rfl (fun _ _ _ => rfl) rfl rfl
  rw [← li_n0] at hfind
  rcases hfind with ⟨G3, a1, a2, a3, a4, a5, a6⟩ | ⟨G3, v, b, hb, a1, a2, a3, a4, a5, a6, a7⟩
  · -- no fault of a jump
    have hs3 : uf_st G3 Mf B R E := uf_st_congr hs2 (fun k hk => a4 k (by omega) (by omega)) (fun k _ => by rw [a3]) (fun _ _ => rfl) (fun _ _ => rfl)
    have hdy3 : uf_dy G3 Mf B := by
      unfold uf_dy at *
      rw [a4 0 (by decide) (by decide), a4 1 (by decide) (by decide), a4 2 (by decide) (by decide), a4 3 (by decide) (by decide), a3]
      exact hdy2
    have hrun3 : uf_run G3 Mf := ⟨a5, a6, m1.1, m1.2.2.2.2.2⟩
    have h6 : G3.1 6 = nI B := hs3.1.1.1
    have hM1 : Mf.1 1 = nI B := hs3.2.2.1.1.symm.trans h6
    have e1 : cR_unfold n G = (cW_playFromFirstBar n G3).bind fun q4 => cW_go_j25 n q4 := by
      rw [eC]
      unfold cW_findFaultOfJumps
      rw [a1, Option.bind_some, if_pos a5]
    rw [e1, eM, a2]
    have hs39 : ∀ x : Int32, uf_st G3 (gs_sv Mf 9 x) B R E := fun x => uf_st_congr hs3 (fun _ _ => rfl) (fun _ _ => rfl) (fun k hk => by rw [sv_1, if_neg (by omega)]) (fun _ _ => rfl)
    by_cases hB0 : B = 0
    · subst hB0
      obtain ⟨rc, mr, r1, r2, r3, r4⟩ := hend G3 (gs_sv Mf 9 (-1)) (hs39 _) hdy3 (Or.inl hrun3)
      refine ⟨rc, mr, ?_, ?_, r3, r4⟩
      · unfold cW_playFromFirstBar cW_playFromFirstBar_j15
        obtain ⟨n', rfl⟩ : ∃ q, n = q + 1 := ⟨n - 1, by omega⟩
        rw [h6, if_pos (show nI 0 ≤ 0 by decide), cW_playFromFirstBar_18, if_neg (by decide), if_pos rfl, Option.bind_some]
        exact r1
      · unfold mM_unfold_j68
        obtain ⟨n', rfl⟩ : ∃ q, n = q + 1 := ⟨n - 1, by omega⟩
        rw [hM1, if_pos (show nI 0 ≤ 0 by decide), mM_unfold_71, sv_1, if_pos rfl, if_pos rfl]
        exact r2
    · have hTl := ug_T_lt G3 R 0
      have hnp : ¬ nI B ≤ 0 := nI_nle (by omega) (by omega)
      obtain ⟨G4, M4, u1, u2, u3, u4, u5⟩ := ug_loop n hn61 (B := B) (R := R) (E := E) (fun G0 => if (G0.1 10) = 0 then some ((G0.1 5), G0) else (mM_forget n G0).bind fun q2 => some ((-5 : Int32), (gs_sv q2 4 (G0.1 4)))) 915200 0 n n 0 G3 (gs_sv Mf 9 (nI 0)) hTl (by omega) (by omega) (by omega) (hs39 _) hdy3 hrun3 (by omega) (fun r hr => by
        have h1 := hs3.1.2.1 r hr
        have h2 : G3.2 21 r = 0 := by rw [a3]; show Gf.2 21 r = 0; rw [c5]
        rw [h2]
        exact ⟨by decide, by rw [li_0]; omega, fun h => absurd rfl h⟩) rfl
      rw [← li_n0] at u1 u2
      obtain ⟨rc, mr, r1, r2, r3, r4⟩ := hend G4 M4 u3 u4 u5
      refine ⟨rc, mr, ?_, ?_, r3, r4⟩
      · unfold cW_playFromFirstBar cW_playFromFirstBar_j15
        rw [h6, if_neg hnp, u1, Option.bind_some]
        exact r1
      · unfold mM_unfold_j68
        rw [hM1, if_neg hnp, u2]
        exact r2
  · -- a jump's fault
    obtain ⟨G5, k0, k1, k2, k3, k4, k5, k6, k7⟩ := ug_forgetC n hn61 G3
    have hs3 : uf_st G3 Mf B R E := uf_st_congr hs2 (fun k hk => a4 k (by omega) (by omega)) (fun k _ => by rw [a3]) (fun _ _ => rfl) (fun _ _ => rfl)
    have hP3 : G3.2 15 = Mf.2 13 ∧ G3.2 16 = Mf.2 14 ∧ G3.2 17 = Mf.2 15 ∧ G3.2 18 = Mf.2 16 := by
      rw [a3]
      exact ⟨hdy2.2.2.2.2.2.1, hdy2.2.2.2.2.2.2.1, hdy2.2.2.2.2.2.2.2.1, hdy2.2.2.2.2.2.2.2.2.1⟩
    obtain ⟨hs5, hdy5⟩ := ug_fresh (G' := G5) (M' := gs_sv Mf 4 (nI b)) hs3 hP3 k1 (fun k hk => k2 k (by omega)) k3 k4 k5 k6 k7 ⟨m1.2.1, m1.2.2.1, m1.2.2.2.1, m1.2.2.2.2.1⟩ (fun k hk => by rw [sv_1, if_neg (by omega)]) m3 m4 (fun k hk => rfl)
    refine ⟨((-1 : Int32) - G5.1 4, G5), ((-1 : Int32) - v, gs_sv Mf 4 (nI b)), ?_, ?_, ?_, ug_done hs5 hdy5 ?_⟩
    · rw [eC]
      unfold cW_findFaultOfJumps
      rw [a1, Option.bind_some, a5, if_neg a6]
      unfold cW_go_j25
      rw [a5, if_neg a6, k0]
      rfl
    · rw [eM, a2]
    · show (-1 : Int32) - G5.1 4 = (-1 : Int32) - v
      rw [k2 4 (by decide), a5]
    · rw [k2 5 (by decide), a7]
      rfl
theorem so_unfold_ok (G M : gs_T) (h : rl_R G M) : so_unfold rl_R G M := by
  obtain ⟨B, R, E, h⟩ := h
  obtain ⟨rc, mr, h1, h2, h3, h4⟩ := ug_call (1000002 + 1) (Nat.lt_succ_self _) h
  exact ⟨1000002 + 1, 1000002 + 1, rc, mr, h1, h2, h3, B, R, E, h4⟩
