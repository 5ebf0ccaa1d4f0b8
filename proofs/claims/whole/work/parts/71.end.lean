/-! ===== own: unfold: the end of a bar ===== -/
def ue_can (M : gs_T) (b l r : Nat) : Prop := 0 < (M.2 18 r).toInt ∧ (M.2 2 r).toInt = b ∧ (M.2 2 r).toInt - (M.2 1 r).toInt = l
theorem ue_skip (n : Nat) {M : gs_T} {R b l : Nat} (K : gs_T → Option gs_T) (hR : R ≤ 20) (h2 : M.1 2 = nI R) (hb : b < 60) (hl : l < 60) (hrep : ∀ r, r < R → 0 ≤ (M.2 1 r).toInt ∧ (M.2 1 r).toInt ≤ (M.2 2 r).toInt ∧ (M.2 2 r).toInt < 60) : ∀ (s k i : Nat), i + s ≤ R → (∀ r, i ≤ r → r < i + s → ¬ ue_can M b l r) → mM_theEnd_10 n (nI b) (nI l) K (k + s) (nI i) M = mM_theEnd_10 n (nI b) (nI l) K k (nI (i + s)) M := by
  intro s
  induction s with
  | zero => intro k i _ _; rfl
  | succ s ih =>
    intro k i h1 h3
    have hi20 : i < 20 := by omega
    have hi31 : i < 2 ^ 31 := by omega
    have hn := h3 i (Nat.le_refl i) (by omega)
    have hr := hrep i (by omega)
    have e : mM_theEnd_10 n (nI b) (nI l) K (k + s + 1) (nI i) M = mM_theEnd_10 n (nI b) (nI l) K (k + s) (nI (i + 1)) M := by
      have eb := nI_toInt (n := b) (by omega)
      have el := nI_toInt (n := l) (by omega)
      simp only [mM_theEnd_10, h2, if_neg (nI_ge (show i < R by omega) (by omega)), ck_nI _ hi20 (show 20 < 2 ^ 31 by decide), ga_nI _ _ hi31, ← nI_succ]
      by_cases c1 : M.2 18 i ≤ 0
      · rw [if_pos c1]
      · rw [if_neg c1]
        by_cases c2 : M.2 2 i = nI b
        · rw [if_pos c2]
          by_cases c3 : M.2 2 i - M.2 1 i = nI l
          · exfalso
            apply hn
            rw [li_le, li_0] at c1
            rw [li_eq, eb] at c2
            rw [li_eq, el, li_sub (by omega) (by omega)] at c3
            exact ⟨by omega, c2, c3⟩
          · rw [if_neg c3]
        · rw [if_neg c2]
    rw [show k + (s + 1) = k + s + 1 from rfl, e, ih k (i + 1) (by omega) (fun r h4 h5 => h3 r (by omega) (by omega)), show i + 1 + s = i + (s + 1) by omega]
theorem ue_none (n : Nat) (hn : 61 < n) {M : gs_T} {R b l : Nat} (K : gs_T → Option gs_T) (hR : R ≤ 20) (h2 : M.1 2 = nI R) (hb : b < 60) (hl : l < 60) (hrep : ∀ r, r < R → 0 ≤ (M.2 1 r).toInt ∧ (M.2 1 r).toInt ≤ (M.2 2 r).toInt ∧ (M.2 2 r).toInt < 60) (hno : ∀ r, r < R → ¬ ue_can M b l r) : mM_theEnd_10 n (nI b) (nI l) K n 0 M = K M := by
  obtain ⟨k, rfl⟩ : ∃ k, n = k + 1 + R := ⟨n - R - 1, by omega⟩
  have h := ue_skip (k + 1 + R) K hR h2 hb hl hrep R (k + 1) 0 (by omega) (fun r _ h4 => hno r (by omega))
  rw [← li_n0, Nat.zero_add] at h
  rw [h]
  simp only [mM_theEnd_10, h2, if_pos (Int32.le_refl _)]
theorem ue_at (n : Nat) {M : gs_T} {R b l r k : Nat} (K : gs_T → Option gs_T) (hR : R ≤ 20) (h2 : M.1 2 = nI R) (hb : b < 60) (hl : l < 60) (hrep : ∀ r, r < R → 0 ≤ (M.2 1 r).toInt ∧ (M.2 1 r).toInt ≤ (M.2 2 r).toInt ∧ (M.2 2 r).toInt < 60) (hr : r < R) (hc : ue_can M b l r) :
    mM_theEnd_10 n (nI b) (nI l) K (k + 1) (nI r) M = if M.2 3 r ≤ M.2 18 r then mM_theEnd_10 n (nI b) (nI l) K k (nI (r + 1)) (gs_sa M 18 (nI r) 0) else (mM_leaveWithin n (gs_sa M 18 (nI r) (M.2 18 r + 1)) (M.2 1 r) (M.2 2 r) (nI r)).bind fun q1 => some (gs_sv q1 9 (q1.2 1 r)) := by
  have hi20 : r < 20 := by omega
  have hi31 : r < 2 ^ 31 := by omega
  have hr1 := hrep r hr
  have eb := nI_toInt (n := b) (by omega)
  have el := nI_toInt (n := l) (by omega)
  obtain ⟨c1, c2, c3⟩ := hc
  have q1 : ¬ M.2 18 r ≤ 0 := by rw [li_le, li_0]; omega
  have q2 : M.2 2 r = nI b := by rw [li_eq, eb]; exact c2
  have q3 : M.2 2 r - M.2 1 r = nI l := by rw [li_eq, el, li_sub (by omega) (by omega)]; exact c3
  simp only [mM_theEnd_10, h2, if_neg (nI_ge hr (by omega)), ck_nI _ hi20 (show 20 < 2 ^ 31 by decide), ga_nI _ _ hi31, ← nI_succ, if_neg q1, if_pos q2, if_pos q3]
theorem ue_close (n : Nat) (hn : 61 < n) {M : gs_T} {R b l r : Nat} (K : gs_T → Option gs_T) (hR : R ≤ 20) (h2 : M.1 2 = nI R) (hb : b < 60) (hl : l < 60) (hrep : ∀ r, r < R → 0 ≤ (M.2 1 r).toInt ∧ (M.2 1 r).toInt ≤ (M.2 2 r).toInt ∧ (M.2 2 r).toInt < 60) (hr : r < R) (hc : ue_can M b l r) (huq : ∀ s, s < R → s ≠ r → ¬ ue_can M b l s) (hle : M.2 3 r ≤ M.2 18 r) : mM_theEnd_10 n (nI b) (nI l) K n 0 M = K (gs_sa M 18 (nI r) 0) := by
  obtain ⟨k, hk⟩ : ∃ k, n = k + 1 + (R - (r + 1)) + 1 + r := ⟨n - R - 1, by omega⟩
  have h := ue_skip n K hR h2 hb hl hrep r (k + 1 + (R - (r + 1)) + 1) 0 (by omega) (fun s h3 h4 => huq s (by omega) (by omega))
  rw [← li_n0, Nat.zero_add, ← hk] at h
  rw [h, ue_at n K hR h2 hb hl hrep hr hc, if_pos hle]
  have hcl : (nI r).toNatClampNeg = r := nI_clamp (by omega)
  have h3 := ue_skip n (M := gs_sa M 18 (nI r) 0) K hR h2 hb hl hrep (R - (r + 1)) (k + 1) (r + 1) (by omega) (fun s h4 h5 h6 => by
    refine huq s (by omega) (by omega) ?_
    unfold ue_can at h6 ⊢
    simp only [sa_2, reduceIte, Nat.reduceEqDiff, hcl] at h6
    rw [ud_n _ _ (by omega)] at h6
    exact h6)
  rw [h3, show r + 1 + (R - (r + 1)) = R by omega]
  simp only [mM_theEnd_10, sa_1, h2, if_pos (Int32.le_refl _)]
theorem ue_bump (n : Nat) (hn : 61 < n) {M : gs_T} {R b l r : Nat} (K : gs_T → Option gs_T) (hR : R ≤ 20) (h2 : M.1 2 = nI R) (hb : b < 60) (hl : l < 60) (hrep : ∀ r, r < R → 0 ≤ (M.2 1 r).toInt ∧ (M.2 1 r).toInt ≤ (M.2 2 r).toInt ∧ (M.2 2 r).toInt < 60) (hr : r < R) (hc : ue_can M b l r) (huq : ∀ s, s < R → s ≠ r → ¬ ue_can M b l s) (hle : ¬ M.2 3 r ≤ M.2 18 r) : mM_theEnd_10 n (nI b) (nI l) K n 0 M = (mM_leaveWithin n (gs_sa M 18 (nI r) (M.2 18 r + 1)) (M.2 1 r) (M.2 2 r) (nI r)).bind fun q1 => some (gs_sv q1 9 (q1.2 1 r)) := by
  obtain ⟨k, hk⟩ : ∃ k, n = k + 1 + r := ⟨n - r - 1, by omega⟩
  have h := ue_skip n K hR h2 hb hl hrep r (k + 1) 0 (by omega) (fun s h3 h4 => huq s (by omega) (by omega))
  rw [← li_n0, Nat.zero_add, ← hk] at h
  rw [h, ue_at n K hR h2 hb hl hrep hr hc, if_neg hle]
theorem ue_sub1 (j : Nat) : nI j + (-1) = nI j - 1 := (Int32.sub_eq_add_neg _ _).symm
theorem ue_m1 : nI 0 - 1 = -1 := by decide
theorem ue_step (n k : Nat) {G G' : gs_T} {b j r : Nat} (hb : b < 60) (hj : j < 3) (hr : r < 20) (e12 : G'.2 12 (3 * b + j) = nI r) :
    cW_endOf_12 n (nI b) (k + 1) (nI (j + 1) - 1) G' = if G'.2 2 r = nI b then (if G'.2 21 r = 0 then cW_endOf_12 n (nI b) k (nI j - 1) G' else if G'.2 3 r ≤ G'.2 21 r then cW_endOf_12 n (nI b) k (nI j - 1) (gs_sa G' 21 (nI r) 0) else some (G'.2 1 r, gs_sa G' 21 (nI r) (G'.2 21 r + 1))) else cW_endOf_12 n (nI b) k (nI j - 1) G' := by
  have hr31 : r < 2 ^ 31 := by omega
  have ha : cS_repeatAround G' (nI b) (nI j) = some (nI r) := by
    unfold cS_repeatAround
    rw [nI_mul3 (by omega), nI_add, ck_nI _ (by omega) (by decide), ga_nI _ _ (by omega), e12]
  have hlt : ¬ nI j < 0 := nI_pos (by omega)
  rw [nI_pred]
  simp only [cW_endOf_12, if_neg hlt, ha, Option.bind_some, ck_nI _ hr (show 20 < 2 ^ 31 by decide), ga_nI _ _ hr31, ue_sub1]
def ue_res (G G'' M M'' : gs_T) (B R b d : Nat) (nb : Int32) : Prop :=
  G''.1 = G.1 ∧ (∀ q, q ≠ 21 → G''.2 q = G.2 q) ∧ (∀ q, q ≠ 9 → M''.1 q = M.1 q) ∧ (∀ q, q ≠ 18 → M''.2 q = M.2 q) ∧ M''.1 9 = nb ∧ (∀ r, r < 20 → G''.2 21 r = M''.2 18 r) ∧
  ((nb = (if B ≤ b + 1 then -1 else nI (b + 1)) ∧ ∀ r, r < R → G''.2 21 r = if (G.2 2 r).toInt = b then 0 else G.2 21 r) ∨
   ∃ i, i < d ∧ (G.2 2 (rc_ch (G.2 12) b i)).toInt = b ∧ G.2 21 (rc_ch (G.2 12) b i) ≠ 0 ∧ (G.2 21 (rc_ch (G.2 12) b i)).toInt < (G.2 3 (rc_ch (G.2 12) b i)).toInt ∧ nb = G.2 1 (rc_ch (G.2 12) b i) ∧ (G''.2 21 (rc_ch (G.2 12) b i)).toInt = (G.2 21 (rc_ch (G.2 12) b i)).toInt + 1 ∧
     (∀ s, s < R → s ≠ rc_ch (G.2 12) b i → ((G.2 2 s).toInt = b ∧ (G.2 1 (rc_ch (G.2 12) b i)).toInt < (G.2 1 s).toInt) → G''.2 21 s = 0) ∧
     (∀ s, s < R → s ≠ rc_ch (G.2 12) b i → ¬ ((G.2 2 s).toInt = b ∧ (G.2 1 (rc_ch (G.2 12) b i)).toInt < (G.2 1 s).toInt) → G''.2 21 s = G.2 21 s))
theorem ue_both (n : Nat) (hn : 61 < n) {G M : gs_T} {B R b d : Nat} (hB : B ≤ 60) (hb : b < B) (hR : R ≤ 20) (h6 : G.1 6 = nI B) (m1 : M.1 1 = nI B) (m2 : M.1 2 = nI R) (e1 : M.2 1 = G.2 1) (e2 : M.2 2 = G.2 2) (e3 : M.2 3 = G.2 3) (hrep : rs_rep (G.2 1) (G.2 2) (G.2 3) B R)
    (hd : d ≤ 3) (d4 : ∀ lv, lv < d → rc_ch (G.2 12) b lv < R ∧ G.2 12 (3 * b + lv) = nI (rc_ch (G.2 12) b lv) ∧ (G.2 1 (rc_ch (G.2 12) b lv)).toInt ≤ b ∧ (b : Int) ≤ (G.2 2 (rc_ch (G.2 12) b lv)).toInt)
    (d5 : ∀ u v, u < v → v < d → (G.2 1 (rc_ch (G.2 12) b u)).toInt ≤ (G.2 1 (rc_ch (G.2 12) b v)).toInt ∧ (G.2 2 (rc_ch (G.2 12) b v)).toInt ≤ (G.2 2 (rc_ch (G.2 12) b u)).toInt ∧ ¬ ((G.2 1 (rc_ch (G.2 12) b u)).toInt = (G.2 1 (rc_ch (G.2 12) b v)).toInt ∧ (G.2 2 (rc_ch (G.2 12) b v)).toInt = (G.2 2 (rc_ch (G.2 12) b u)).toInt))
    (d6 : ∀ r, r < R → (G.2 1 r).toInt ≤ b → (b : Int) ≤ (G.2 2 r).toInt → ∃ lv, lv < d ∧ rc_ch (G.2 12) b lv = r)
    (hO : ∀ r, r < R → 0 ≤ (G.2 21 r).toInt ∧ (G.2 21 r).toInt ≤ (G.2 3 r).toInt ∧ (G.2 21 r ≠ 0 → (G.2 1 r).toInt ≤ b ∧ (b : Int) ≤ (G.2 2 r).toInt)) :
    ∀ (s l j kc km : Nat) (G' M' : gs_T), l + s = 60 → j ≤ d → j < kc → s < km → G'.1 = G.1 → (∀ q, q ≠ 21 → G'.2 q = G.2 q) → M'.1 = M.1 → (∀ q, q ≠ 18 → M'.2 q = M.2 q) → (∀ r, r < 20 → G'.2 21 r = M'.2 18 r) →
      (∀ lv, j ≤ lv → lv < d → (G.2 2 (rc_ch (G.2 12) b lv)).toInt = b → G'.2 21 (rc_ch (G.2 12) b lv) = 0) →
      (∀ r, r < 20 → (∀ lv, j ≤ lv → lv < d → (G.2 2 (rc_ch (G.2 12) b lv)).toInt = b → rc_ch (G.2 12) b lv ≠ r) → G'.2 21 r = G.2 21 r) →
      (∀ lv, j ≤ lv → lv < d → (G.2 2 (rc_ch (G.2 12) b lv)).toInt - (G.2 1 (rc_ch (G.2 12) b lv)).toInt < l) →
      (∀ lv, lv < j → (l : Int) ≤ (G.2 2 (rc_ch (G.2 12) b lv)).toInt - (G.2 1 (rc_ch (G.2 12) b lv)).toInt) →
      ∃ (G'' M'' : gs_T) (nb : Int32), cW_endOf_12 n (nI b) kc (nI j - 1) G' = some (nb, G'') ∧ mM_theEnd_2 n (nI b) km (nI l) M' = some M'' ∧ ue_res G G'' M M'' B R b d nb := by
  have eb := nI_toInt (n := b) (by omega)
  intro s
  induction s with
  | zero =>
    intro l j kc km G' M' hl hj hkc hkm g1 g2 n1 n2 hp hz hk hlt hge
    have hj0 : j = 0 := by
      by_cases h0 : j = 0
      · exact h0
      · have h := hge 0 (by omega)
        have h2 := hrep _ (d4 0 (by omega)).1
        omega
    subst hj0
    obtain ⟨kc, rfl⟩ : ∃ q, kc = q + 1 := ⟨kc - 1, by omega⟩
    obtain ⟨km, rfl⟩ : ∃ q, km = q + 1 := ⟨km - 1, by omega⟩
    have hl60 : l = 60 := by omega
    subst hl60
    have hle : (nI B ≤ nI (b + 1)) ↔ B ≤ b + 1 := nI_leI (by omega) (by omega)
    refine ⟨G', gs_sv M' 9 (if B ≤ b + 1 then -1 else nI (b + 1)), if B ≤ b + 1 then -1 else nI (b + 1), ?_, ?_, g1, g2, ?_, n2, rfl, hp, Or.inl ⟨rfl, ?_⟩⟩
    · rw [ue_m1]
      simp only [cW_endOf_12, if_pos (show (-1 : Int32) < 0 by decide), g1, h6, ← nI_succ]
      by_cases hc : B ≤ b + 1
      · rw [if_pos (hle.mpr hc), if_pos hc]
      · rw [if_neg (fun h => hc (hle.mp h)), if_neg hc]
    · simp only [mM_theEnd_2, if_pos (show (60 : Int32) ≤ nI 60 by decide), n1, m1, ← nI_succ]
      by_cases hc : B ≤ b + 1
      · rw [if_pos (hle.mpr hc), if_pos hc]
      · rw [if_neg (fun h => hc (hle.mp h)), if_neg hc]
    · intro q hq
      rw [sv_1, if_neg hq, n1]
    · intro r hr
      by_cases ht : (G.2 2 r).toInt = b
      · rw [if_pos ht]
        have h3 := hrep r hr
        obtain ⟨lv, hlv, e⟩ := d6 r hr (by omega) (by omega)
        have := hz lv (by omega) hlv (by rw [e]; exact ht)
        rw [e] at this
        exact this
      · rw [if_neg ht]
        exact hk r (by omega) (fun lv _ h4 h5 e => by rw [e] at h5; exact ht h5)
  | succ s ih =>
    intro l j kc km G' M' hl hj hkc hkm g1 g2 n1 n2 hp hz hk hlt hge
    obtain ⟨km, rfl⟩ : ∃ q, km = q + 1 := ⟨km - 1, by omega⟩
    have hl60 : l < 60 := by omega
    have f1 : M'.2 1 = G.2 1 := (n2 1 (by decide)).trans e1
    have f2 : M'.2 2 = G.2 2 := (n2 2 (by decide)).trans e2
    have f3 : M'.2 3 = G.2 3 := (n2 3 (by decide)).trans e3
    have hrepM : ∀ r, r < R → 0 ≤ (M'.2 1 r).toInt ∧ (M'.2 1 r).toInt ≤ (M'.2 2 r).toInt ∧ (M'.2 2 r).toInt < 60 := by
      intro r hr
      rw [f1, f2]
      have := hrep r hr
      omega
    have hM2 : M'.1 2 = nI R := by rw [n1]; exact m2
    have hnl : ¬ (60 : Int32) ≤ nI l := nI_ge (b := 60) hl60 (by omega)
    have hout : mM_theEnd_2 n (nI b) (km + 1) (nI l) M' = mM_theEnd_10 n (nI b) (nI l) (fun G0 => mM_theEnd_2 n (nI b) km (nI (l + 1)) G0) n 0 M' := by
      simp only [mM_theEnd_2, if_neg hnl, ← nI_succ]
    -- what is open is in the chain, below the levels that are done
    have hin : ∀ r, r < R → ue_can M' b l r → ∃ lv, lv < j ∧ rc_ch (G.2 12) b lv = r ∧ G.2 21 r ≠ 0 := by
      intro r hr hc
      unfold ue_can at hc
      rw [f1, f2, ← hp r (by omega)] at hc
      have h3 := hrep r hr
      obtain ⟨lv, hlv, e⟩ := d6 r hr (by omega) (by omega)
      have hlj : lv < j := by
        by_cases h4 : lv < j
        · exact h4
        · have := hlt lv (by omega) hlv
          rw [e] at this
          omega
      refine ⟨lv, hlj, e, fun h0 => ?_⟩
      have hkr := hk r (by omega) (fun lv2 h5 h6 h7 e2 => by
        have := hlt lv2 h5 h6
        rw [e2] at this
        omega)
      rw [hkr, h0, li_0] at hc
      omega
    by_cases hcase : ∃ j', j = j' + 1 ∧ (G.2 2 (rc_ch (G.2 12) b j')).toInt - (G.2 1 (rc_ch (G.2 12) b j')).toInt = l
    · obtain ⟨j', rfl, hlen⟩ := hcase
      have hc4 := d4 j' (by omega)
      have hr20 : rc_ch (G.2 12) b j' < 20 := by omega
      have hr31 : rc_ch (G.2 12) b j' < 2 ^ 31 := by omega
      have hcl : (nI (rc_ch (G.2 12) b j')).toNatClampNeg = rc_ch (G.2 12) b j' := nI_clamp hr31
      have hpr : G'.2 21 (rc_ch (G.2 12) b j') = G.2 21 (rc_ch (G.2 12) b j') := hk _ hr20 (fun lv h5 h6 h7 e9 => by
        have := hlt lv h5 h6
        rw [e9] at this
        omega)
      have huq : ∀ r, r < R → ue_can M' b l r → r = rc_ch (G.2 12) b j' := by
        intro r hr hc
        obtain ⟨lv, hlv, e, -⟩ := hin r hr hc
        by_cases h4 : lv = j'
        · rw [← e, h4]
        · have h5 := d5 lv j' (by omega) (by omega)
          unfold ue_can at hc
          rw [f1, f2, ← e] at hc
          omega
      obtain ⟨kc, rfl⟩ : ∃ q, kc = q + 1 := ⟨kc - 1, by omega⟩
      have hstep := ue_step n kc (G := G) (G' := G') (b := b) (j := j') (r := rc_ch (G.2 12) b j') (by omega) (by omega) hr20 (by rw [g2 12 (by decide)]; exact hc4.2.1)
      rw [g2 1 (by decide), g2 2 (by decide), g2 3 (by decide), hpr] at hstep
      have hO1 := hO _ hc4.1
      by_cases ht : (G.2 2 (rc_ch (G.2 12) b j')).toInt = b
      · have hteq : G.2 2 (rc_ch (G.2 12) b j') = nI b := by rw [li_eq, eb]; exact ht
        by_cases hp0 : G.2 21 (rc_ch (G.2 12) b j') = 0
        · -- it isn't open
          have hno : ∀ r, r < R → ¬ ue_can M' b l r := by
            intro r hr hc
            obtain ⟨lv, hlv, e, hne⟩ := hin r hr hc
            rw [huq r hr hc] at hne
            exact hne hp0
          obtain ⟨G'', M'', nb, q1, q2, q3⟩ := ih (l + 1) j' kc km G' M' (by omega) (by omega) (by omega) (by omega) g1 g2 n1 n2 hp
            (fun lv h4 h5 h6 => by
              by_cases h7 : lv = j'
              · subst h7; rw [hpr]; exact hp0
              · exact hz lv (by omega) h5 h6)
            (fun r h4 h5 => hk r h4 (fun lv h6 h7 => h5 lv (by omega) h7))
            (fun lv h4 h5 => by
              by_cases h7 : lv = j'
              · subst h7; omega
              · have := hlt lv (by omega) h5; omega)
            (fun lv h4 => by
              have h5 := d5 lv j' h4 (by omega)
              have := hge lv (by omega)
              omega)
          exact ⟨G'', M'', nb, by rw [hstep, if_pos hteq, if_pos hp0]; exact q1, by rw [hout, ue_none n hn _ hR hM2 (by omega) hl60 hrepM hno]; exact q2, q3⟩
        · have hcan : ue_can M' b l (rc_ch (G.2 12) b j') := by
            unfold ue_can
            rw [f1, f2, ← hp _ hr20, hpr]
            have : (G.2 21 (rc_ch (G.2 12) b j')).toInt ≠ 0 := fun h => hp0 (by rw [li_eq, li_0]; exact h)
            exact ⟨by omega, ht, hlen⟩
          have huq2 : ∀ r, r < R → r ≠ rc_ch (G.2 12) b j' → ¬ ue_can M' b l r := fun r hr hne hc => hne (huq r hr hc)
          by_cases hle : G.2 3 (rc_ch (G.2 12) b j') ≤ G.2 21 (rc_ch (G.2 12) b j')
          · -- its last pass: it is left
            obtain ⟨G'', M'', nb, q1, q2, q3⟩ := ih (l + 1) j' kc km (gs_sa G' 21 (nI (rc_ch (G.2 12) b j')) 0) (gs_sa M' 18 (nI (rc_ch (G.2 12) b j')) 0) (by omega) (by omega) (by omega) (by omega) g1
              (fun q hq => by simp only [sa_2, if_neg hq]; exact g2 q hq) n1 (fun q hq => by simp only [sa_2, if_neg hq]; exact n2 q hq)
              (fun r hr => by
                simp only [sa_2, reduceIte, hcl, ud_e]
                split
                · rfl
                · exact hp r hr)
              (fun lv h4 h5 h6 => by
                simp only [sa_2, reduceIte, hcl, ud_e]
                split
                · rfl
                · rename_i h7
                  exact hz lv (by
                    by_cases h8 : lv = j'
                    · subst h8; exact absurd rfl h7
                    · omega) h5 h6)
              (fun r h4 h5 => by
                simp only [sa_2, reduceIte, hcl]
                rw [ud_n _ _ (fun e9 => h5 j' (Nat.le_refl _) (by omega) ht e9.symm)]
                exact hk r h4 (fun lv h6 h7 => h5 lv (by omega) h7))
              (fun lv h4 h5 => by
                by_cases h7 : lv = j'
                · subst h7; omega
                · have := hlt lv (by omega) h5; omega)
              (fun lv h4 => by
                have h5 := d5 lv j' h4 (by omega)
                have := hge lv (by omega)
                omega)
            have hle2 : M'.2 3 (rc_ch (G.2 12) b j') ≤ M'.2 18 (rc_ch (G.2 12) b j') := by rw [f3, ← hp _ hr20, hpr]; exact hle
            exact ⟨G'', M'', nb, by rw [hstep, if_pos hteq, if_neg hp0, if_pos hle]; exact q1, by rw [hout, ue_close n hn _ hR hM2 (by omega) hl60 hrepM hc4.1 hcan huq2 hle2]; exact q2, q3⟩
          · -- one more pass
            have hle2 : ¬ M'.2 3 (rc_ch (G.2 12) b j') ≤ M'.2 18 (rc_ch (G.2 12) b j') := by rw [f3, ← hp _ hr20, hpr]; exact hle
            obtain ⟨M2, l1, l2, l3, l4⟩ := ul_model n hn (M := gs_sa M' 18 (nI (rc_ch (G.2 12) b j')) (M'.2 18 (rc_ch (G.2 12) b j') + 1)) (o := rc_ch (G.2 12) b j') hR hM2 hr20 (M'.2 1 (rc_ch (G.2 12) b j')) (M'.2 2 (rc_ch (G.2 12) b j'))
            simp only [sa_1, sa_2, reduceIte, Nat.reduceEqDiff, hcl] at l2 l3 l4
            have hlt3 : (G.2 21 (rc_ch (G.2 12) b j')).toInt < (G.2 3 (rc_ch (G.2 12) b j')).toInt := by rw [li_le] at hle; omega
            have hm4 := (hrep _ hc4.1).2.2.2.2
            have hadd : (G.2 21 (rc_ch (G.2 12) b j') + 1).toInt = (G.2 21 (rc_ch (G.2 12) b j')).toInt + 1 := by
              rw [li_add] <;> rw [li_1] <;> omega
            refine ⟨gs_sa G' 21 (nI (rc_ch (G.2 12) b j')) (G.2 21 (rc_ch (G.2 12) b j') + 1), gs_sv M2 9 (M2.2 1 (rc_ch (G.2 12) b j')), G.2 1 (rc_ch (G.2 12) b j'), ?_, ?_, g1, ?_, ?_, ?_, ?_, ?_, Or.inr ⟨j', by omega, ht, hp0, hlt3, rfl, ?_, ?_, ?_⟩⟩
            · rw [hstep, if_pos hteq, if_neg hp0, if_neg hle]
            · rw [hout, ue_bump n hn _ hR hM2 (by omega) hl60 hrepM hc4.1 hcan huq2 hle2, l1]
              rfl
            · intro q hq
              simp only [sa_2, if_neg hq]
              exact g2 q hq
            · intro q hq
              rw [sv_1, if_neg hq, l2, n1]
            · intro q hq
              rw [sv_2, l3 q hq, if_neg hq, n2 q hq]
            · rw [sv_1, if_pos rfl, l3 1 (by decide), if_neg (by decide), f1]
            · intro r hr
              rw [sv_2, l4]
              simp only [sa_2, reduceIte, hcl]
              unfold ul_op
              by_cases hre : r = rc_ch (G.2 12) b j'
              · subst hre
                rw [ud_s, if_neg (fun h => h.2.1 rfl), ud_s, ← hp _ hr20, hpr]
              · rw [ud_n _ _ hre]
                by_cases hw : r < R ∧ r ≠ rc_ch (G.2 12) b j' ∧ (M'.2 1 (rc_ch (G.2 12) b j')).toInt ≤ (M'.2 1 r).toInt ∧ (M'.2 2 r).toInt ≤ (M'.2 2 (rc_ch (G.2 12) b j')).toInt
                · rw [if_pos hw]
                  rw [f1, f2] at hw
                  by_cases hq0 : G'.2 21 r = 0
                  · exact hq0
                  · exfalso
                    by_cases hall : ∀ lv, j' + 1 ≤ lv → lv < d → (G.2 2 (rc_ch (G.2 12) b lv)).toInt = b → rc_ch (G.2 12) b lv ≠ r
                    · have hkr := hk r hr hall
                      have hO2 := (hO r hw.1).2.2 (by rw [← hkr]; exact hq0)
                      obtain ⟨lv, hlv, e9⟩ := d6 r hw.1 hO2.1 hO2.2
                      by_cases h8 : lv < j'
                      · have h9 := d5 lv j' h8 (by omega)
                        rw [e9] at h9
                        exact h9.2.2 ⟨by omega, by omega⟩
                      · by_cases h10 : lv = j'
                        · subst h10
                          exact hre e9.symm
                        · exact hall lv (by omega) hlv (by rw [e9]; omega) e9
                    · have : ∃ lv, j' + 1 ≤ lv ∧ lv < d ∧ (G.2 2 (rc_ch (G.2 12) b lv)).toInt = b ∧ rc_ch (G.2 12) b lv = r := by
                        by_cases hex : ∃ lv, j' + 1 ≤ lv ∧ lv < d ∧ (G.2 2 (rc_ch (G.2 12) b lv)).toInt = b ∧ rc_ch (G.2 12) b lv = r
                        · exact hex
                        · exact absurd (fun lv h4 h5 h6 h7 => hex ⟨lv, h4, h5, h6, h7⟩) hall
                      obtain ⟨lv, h4, h5, h6, h7⟩ := this
                      have := hz lv h4 h5 h6
                      rw [h7] at this
                      exact hq0 this
                · rw [if_neg hw, ud_n _ _ hre]
                  exact hp r hr
            · simp only [sa_2, reduceIte, hcl, ud_s]
              exact hadd
            · intro r hr hre hc
              simp only [sa_2, reduceIte, hcl]
              rw [ud_n _ _ hre]
              have h3 := hrep r hr
              obtain ⟨lv, hlv, e9⟩ := d6 r hr (by omega) (by omega)
              have h8 : j' + 1 ≤ lv := by
                by_cases h9 : j' + 1 ≤ lv
                · exact h9
                · by_cases h10 : lv = j'
                  · subst h10; exact absurd e9.symm hre
                  · have h11 := d5 lv j' (by omega) (by omega)
                    rw [e9] at h11
                    omega
              have := hz lv h8 hlv (by rw [e9]; exact hc.1)
              rw [e9] at this
              exact this
            · intro r hr hre hc
              simp only [sa_2, reduceIte, hcl]
              rw [ud_n _ _ hre]
              refine hk r (by omega) (fun lv h4 h5 h6 e9 => hc ?_)
              have h9 := d5 j' lv (by omega) h5
              rw [e9] at h9 h6
              refine ⟨h6, ?_⟩
              by_cases h10 : (G.2 1 (rc_ch (G.2 12) b j')).toInt = (G.2 1 r).toInt
              · exact absurd ⟨h10, by omega⟩ h9.2.2
              · omega
      · -- it doesn't end here
        have hteq : ¬ G.2 2 (rc_ch (G.2 12) b j') = nI b := fun e9 => ht (by rw [e9, eb])
        have hno : ∀ r, r < R → ¬ ue_can M' b l r := by
          intro r hr hc
          have := huq r hr hc
          unfold ue_can at hc
          rw [f2, this] at hc
          exact ht hc.2.1
        obtain ⟨G'', M'', nb, q1, q2, q3⟩ := ih (l + 1) j' kc km G' M' (by omega) (by omega) (by omega) (by omega) g1 g2 n1 n2 hp
          (fun lv h4 h5 h6 => by
            by_cases h7 : lv = j'
            · subst h7; exact absurd h6 ht
            · exact hz lv (by omega) h5 h6)
          (fun r h4 h5 => hk r h4 (fun lv h6 h7 => h5 lv (by omega) h7))
          (fun lv h4 h5 => by
            by_cases h7 : lv = j'
            · subst h7; omega
            · have := hlt lv (by omega) h5; omega)
          (fun lv h4 => by
            have h5 := d5 lv j' h4 (by omega)
            have := hge lv (by omega)
            omega)
        exact ⟨G'', M'', nb, by rw [hstep, if_neg hteq]; exact q1, by rw [hout, ue_none n hn _ hR hM2 (by omega) hl60 hrepM hno]; exact q2, q3⟩
    · -- none of this length
      have hno : ∀ r, r < R → ¬ ue_can M' b l r := by
        intro r hr hc
        obtain ⟨lv, hlv, e, hne⟩ := hin r hr hc
        refine hcase ⟨j - 1, by omega, ?_⟩
        unfold ue_can at hc
        rw [f1, f2, ← e] at hc
        have h6 := hge (j - 1) (by omega)
        by_cases h7 : lv = j - 1
        · rw [← h7]; exact hc.2.2
        · have h8 := d5 lv (j - 1) (by omega) (by omega)
          omega
      obtain ⟨G'', M'', nb, q1, q2, q3⟩ := ih (l + 1) j kc km G' M' (by omega) hj hkc (by omega) g1 g2 n1 n2 hp hz hk
        (fun lv h4 h5 => by have := hlt lv h4 h5; omega)
        (fun lv h4 => by
          have h5 := hge lv h4
          by_cases h6 : (G.2 2 (rc_ch (G.2 12) b lv)).toInt - (G.2 1 (rc_ch (G.2 12) b lv)).toInt = l
          · exfalso
            by_cases h7 : lv = j - 1
            · exact hcase ⟨j - 1, by omega, by rw [← h7]; exact h6⟩
            · have h8 := d5 lv (j - 1) (by omega) (by omega)
              have h9 := hge (j - 1) (by omega)
              omega
          · omega)
      exact ⟨G'', M'', nb, q1, by rw [hout, ue_none n hn _ hR hM2 (by omega) hl60 hrepM hno]; exact q2, q3⟩
/-- the end of a bar, on both sides -/
theorem ue_end (n : Nat) (hn : 61 < n) {G M : gs_T} {B R b d : Nat} (hB : B ≤ 60) (hb : b < B) (hR : R ≤ 20) (h6 : G.1 6 = nI B) (m1 : M.1 1 = nI B) (m2 : M.1 2 = nI R) (e1 : M.2 1 = G.2 1) (e2 : M.2 2 = G.2 2) (e3 : M.2 3 = G.2 3) (hrep : rs_rep (G.2 1) (G.2 2) (G.2 3) B R)
    (hd : d ≤ 3) (hdep : G.2 13 b = nI d) (d4 : ∀ lv, lv < d → rc_ch (G.2 12) b lv < R ∧ G.2 12 (3 * b + lv) = nI (rc_ch (G.2 12) b lv) ∧ (G.2 1 (rc_ch (G.2 12) b lv)).toInt ≤ b ∧ (b : Int) ≤ (G.2 2 (rc_ch (G.2 12) b lv)).toInt)
    (d5 : ∀ u v, u < v → v < d → (G.2 1 (rc_ch (G.2 12) b u)).toInt ≤ (G.2 1 (rc_ch (G.2 12) b v)).toInt ∧ (G.2 2 (rc_ch (G.2 12) b v)).toInt ≤ (G.2 2 (rc_ch (G.2 12) b u)).toInt ∧ ¬ ((G.2 1 (rc_ch (G.2 12) b u)).toInt = (G.2 1 (rc_ch (G.2 12) b v)).toInt ∧ (G.2 2 (rc_ch (G.2 12) b v)).toInt = (G.2 2 (rc_ch (G.2 12) b u)).toInt))
    (d6 : ∀ r, r < R → (G.2 1 r).toInt ≤ b → (b : Int) ≤ (G.2 2 r).toInt → ∃ lv, lv < d ∧ rc_ch (G.2 12) b lv = r)
    (hO : ∀ r, r < R → 0 ≤ (G.2 21 r).toInt ∧ (G.2 21 r).toInt ≤ (G.2 3 r).toInt ∧ (G.2 21 r ≠ 0 → (G.2 1 r).toInt ≤ b ∧ (b : Int) ≤ (G.2 2 r).toInt)) (hp : ∀ r, r < 20 → G.2 21 r = M.2 18 r) :
    ∃ (G'' M'' : gs_T) (nb : Int32), cW_endOf n G (nI b) = some (nb, G'') ∧ mM_theEnd n M (nI b) = some M'' ∧ ue_res G G'' M M'' B R b d nb := by
  obtain ⟨G'', M'', nb, q1, q2, q3⟩ := ue_both n hn hB hb hR h6 m1 m2 e1 e2 e3 hrep hd d4 d5 d6 hO 60 0 d n n G M rfl (Nat.le_refl d) (by omega) (by omega) rfl (fun _ _ => rfl) rfl (fun _ _ => rfl) hp (fun lv h1 h2 => by omega) (fun _ _ _ => rfl) (fun lv h1 h2 => by omega) (fun lv h1 => by
    have := hrep _ (d4 lv h1).1
    omega)
  refine ⟨G'', M'', nb, ?_, ?_, q3⟩
  · unfold cW_endOf
    rw [ck_nI _ (by omega) (by decide), ga_nI _ _ (by omega), hdep]
    exact q1
  · unfold mM_theEnd
    rw [li_n0]
    exact q2
