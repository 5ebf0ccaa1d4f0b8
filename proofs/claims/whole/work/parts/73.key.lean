/-! ===== own: unfold: the key that grows, and what it bounds ===== -/
def uk_dp (d : Nat → Int32) (b : Nat) : Nat := (d b).toInt.toNat
/-- the facts of a chain, with its length named -/
theorem uk_ch {f t a d : Nat → Int32} {R b : Nat} (h : rc_chain f t a d R b) : uk_dp d b ≤ 3 ∧ d b = nI (uk_dp d b) ∧
    (∀ lv, lv < uk_dp d b → rc_ch a b lv < R ∧ a (3 * b + lv) = nI (rc_ch a b lv) ∧ (f (rc_ch a b lv)).toInt ≤ b ∧ (b : Int) ≤ (t (rc_ch a b lv)).toInt) ∧
    (∀ u v, u < v → v < uk_dp d b → (f (rc_ch a b u)).toInt ≤ (f (rc_ch a b v)).toInt ∧ (t (rc_ch a b v)).toInt ≤ (t (rc_ch a b u)).toInt ∧ ¬ ((f (rc_ch a b u)).toInt = (f (rc_ch a b v)).toInt ∧ (t (rc_ch a b v)).toInt = (t (rc_ch a b u)).toInt)) ∧
    (∀ r, r < R → (f r).toInt ≤ b → (b : Int) ≤ (t r).toInt → ∃ lv, lv < uk_dp d b ∧ rc_ch a b lv = r) := by
  obtain ⟨n, h1, h2, h3, h4, h5, h6⟩ := h
  have e : uk_dp d b = n := by unfold uk_dp; rw [h2, nI_toInt (by omega)]; rfl
  rw [e]
  exact ⟨h1, h2, h4, h5, h6⟩
theorem uk_pre {f t a d : Nat → Int32} {R b c : Nat} (hb : rc_chain f t a d R b) (hc : rc_chain f t a d R c) : ∀ lv, lv < uk_dp d b → (f (rc_ch a b lv)).toInt ≤ c → (c : Int) ≤ (t (rc_ch a b lv)).toInt → lv < uk_dp d c ∧ rc_ch a c lv = rc_ch a b lv := by
  obtain ⟨b1, b2, b3, b4, b5⟩ := uk_ch hb
  obtain ⟨c1, c2, c3, c4, c5⟩ := uk_ch hc
  intro lv
  induction lv using Nat.strongRecOn with
  | ind lv ih =>
    intro hl h1 h2
    have ih2 : ∀ u, u < lv → u < uk_dp d c ∧ rc_ch a c u = rc_ch a b u := by
      intro u hu
      have h3 := b4 u lv hu hl
      exact ih u hu (by omega) (by omega) (by omega)
    obtain ⟨v, hv, e⟩ := c5 _ (b3 lv hl).1 h1 h2
    have hvl : v = lv := by
      by_cases h3 : v < lv
      · have h4 := (ih2 v h3).2
        rw [e] at h4
        have h5 := b4 v lv h3 hl
        rw [h4] at h5
        exact absurd ⟨rfl, rfl⟩ h5.2.2
      · by_cases h4 : lv < v
        · have h5 := c4 lv v h4 hv
          rw [e] at h5
          have h6 := c3 lv (by omega)
          have h7 := b3 lv hl
          obtain ⟨u, hu, e2⟩ := b5 _ h6.1 (by omega) (by omega)
          have hul : u < lv := by
            by_cases h8 : u < lv
            · exact h8
            · by_cases h9 : u = lv
              · rw [← e2, h9] at h5
                exact absurd ⟨rfl, rfl⟩ h5.2.2
              · have h10 := b4 lv u (by omega) hu
                rw [e2] at h10
                exact absurd ⟨by omega, by omega⟩ h5.2.2
          have h11 := (ih2 u hul).2
          rw [e2] at h11
          have h12 := c4 u lv hul (by omega)
          rw [h11] at h12
          exact absurd ⟨rfl, rfl⟩ h12.2.2
        · omega
    subst hvl
    exact ⟨hv, e⟩
def uk_sd (f a d : Nat → Int32) (b lv : Nat) : Nat := if lv < uk_dp d b then (f (rc_ch a b lv)).toInt.toNat else b
def uk_pd (a d p : Nat → Int32) (b lv : Nat) : Nat := if lv < uk_dp d b then (p (rc_ch a b lv)).toInt.toNat else 0
def uk_n (s0 q0 s1 q1 s2 q2 b : Nat) : Nat := (((((s0 * 64 + q0) * 64 + s1) * 64 + q1) * 64 + s2) * 64 + q2) * 64 + b
def uk_key (f a d p : Nat → Int32) (b : Nat) : Nat := uk_n (uk_sd f a d b 0) (uk_pd a d p b 0) (uk_sd f a d b 1) (uk_pd a d p b 1) (uk_sd f a d b 2) (uk_pd a d p b 2) b
theorem uk_sd_lt {f t a d : Nat → Int32} {R b : Nat} (hb : b < 60) (h : rc_chain f t a d R b) (lv : Nat) : uk_sd f a d b lv ≤ b := by
  obtain ⟨b1, b2, b3, b4, b5⟩ := uk_ch h
  unfold uk_sd
  split
  · rename_i hl
    have := b3 lv hl
    omega
  · exact Nat.le_refl b
theorem uk_pd_lt {f t a d p : Nat → Int32} {R b : Nat} (h : rc_chain f t a d R b) (hp : ∀ r, r < R → 0 ≤ (p r).toInt ∧ (p r).toInt ≤ 4) (lv : Nat) : uk_pd a d p b lv ≤ 4 := by
  obtain ⟨b1, b2, b3, b4, b5⟩ := uk_ch h
  unfold uk_pd
  split
  · rename_i hl
    have := hp _ (b3 lv hl).1
    omega
  · exact Nat.zero_le 4
theorem uk_lex {s0 q0 s1 q1 s2 q2 b t0 r0 t1 r1 t2 r2 c : Nat} (hs : s0 < 64 ∧ q0 < 64 ∧ s1 < 64 ∧ q1 < 64 ∧ s2 < 64 ∧ q2 < 64 ∧ b < 64) (ht : t0 < 64 ∧ r0 < 64 ∧ t1 < 64 ∧ r1 < 64 ∧ t2 < 64 ∧ r2 < 64 ∧ c < 64)
    (h : s0 < t0 ∨ (s0 = t0 ∧ (q0 < r0 ∨ (q0 = r0 ∧ (s1 < t1 ∨ (s1 = t1 ∧ (q1 < r1 ∨ (q1 = r1 ∧ (s2 < t2 ∨ (s2 = t2 ∧ (q2 < r2 ∨ (q2 = r2 ∧ b < c)))))))))))) : uk_n s0 q0 s1 q1 s2 q2 b < uk_n t0 r0 t1 r1 t2 r2 c := by
  unfold uk_n
  omega
/-- on to a later bar -/
theorem uk_A {f t a d p p' : Nat → Int32} {R b c : Nat} (hbc : b < c) (hc60 : c < 60) (hrep : ∀ r, r < R → 0 ≤ (f r).toInt) (hb : rc_chain f t a d R b) (hc : rc_chain f t a d R c) (hp : ∀ r, r < R → 0 ≤ (p r).toInt ∧ (p r).toInt ≤ 4) (hp' : ∀ r, r < R → 0 ≤ (p' r).toInt ∧ (p' r).toInt ≤ 4)
    (he : ∀ r, r < R → (f r).toInt ≤ b → (c : Int) ≤ (t r).toInt → p' r = p r) : uk_key f a d p b < uk_key f a d p' c := by
  obtain ⟨b1, b2, b3, b4, b5⟩ := uk_ch hb
  obtain ⟨c1, c2, c3, c4, c5⟩ := uk_ch hc
  have hsb := uk_sd_lt (f := f) (by omega) hb
  have hsc := uk_sd_lt (f := f) hc60 hc
  have hqb := uk_pd_lt hb hp
  have hqc := uk_pd_lt hc hp'
  -- a level is the same on both, or the later has the greater begin
  have key : ∀ lv, (∀ u, u < lv → u < uk_dp d b ∧ (c : Int) ≤ (t (rc_ch a b u)).toInt) → (lv < uk_dp d b ∧ (c : Int) ≤ (t (rc_ch a b lv)).toInt ∧ uk_sd f a d b lv = uk_sd f a d c lv ∧ uk_pd a d p b lv = uk_pd a d p' c lv) ∨ uk_sd f a d b lv < uk_sd f a d c lv := by
    intro lv hu
    by_cases h1 : lv < uk_dp d b ∧ (c : Int) ≤ (t (rc_ch a b lv)).toInt
    · have h2 := b3 lv h1.1
      have h3 := uk_pre hb hc lv h1.1 (by omega) h1.2
      refine Or.inl ⟨h1.1, h1.2, ?_, ?_⟩
      · unfold uk_sd
        rw [if_pos h1.1, if_pos h3.1, h3.2]
      · unfold uk_pd
        rw [if_pos h1.1, if_pos h3.1, h3.2, he _ h2.1 h2.2.2.1 h1.2]
    · refine Or.inr ?_
      have h4 : b < uk_sd f a d c lv := by
        unfold uk_sd
        by_cases h5 : lv < uk_dp d c
        · rw [if_pos h5]
          have h6 := c3 lv h5
          have h7 := hrep _ h6.1
          by_cases h8 : (f (rc_ch a c lv)).toInt ≤ b
          · exfalso
            have h9 := uk_pre hc hb lv h5 h8 (by omega)
            apply h1
            refine ⟨h9.1, ?_⟩
            rw [h9.2]
            exact h6.2.2.2
          · omega
        · rw [if_neg h5]
          exact hbc
      have := hsb lv
      omega
  unfold uk_key
  have s0 := hsb 0; have s1 := hsb 1; have s2 := hsb 2
  have u0 := hsc 0; have u1 := hsc 1; have u2 := hsc 2
  have q0 := hqb 0; have q1 := hqb 1; have q2 := hqb 2
  have v0 := hqc 0; have v1 := hqc 1; have v2 := hqc 2
  refine uk_lex (by omega) (by omega) ?_
  rcases key 0 (fun u hu => by omega) with ⟨k1, k2, k3, k4⟩ | k
  · refine Or.inr ⟨k3, Or.inr ⟨k4, ?_⟩⟩
    rcases key 1 (fun u hu => by
        have : u = 0 := by omega
        subst this; exact ⟨k1, k2⟩) with ⟨l1, l2, l3, l4⟩ | l
    · refine Or.inr ⟨l3, Or.inr ⟨l4, ?_⟩⟩
      rcases key 2 (fun u hu => by
          rcases (show u = 0 ∨ u = 1 by omega) with rfl | rfl
          · exact ⟨k1, k2⟩
          · exact ⟨l1, l2⟩) with ⟨m1, m2, m3, m4⟩ | m
      · exact Or.inr ⟨m3, Or.inr ⟨m4, hbc⟩⟩
      · exact Or.inl m
    · exact Or.inl l
  · exact Or.inl k
/-- back to a repeat's begin, for one more pass -/
theorem uk_B {f t a d p p' : Nat → Int32} {R b c i : Nat} (hb60 : b < 60) (hc60 : c < 60) (hb : rc_chain f t a d R b) (hc : rc_chain f t a d R c) (hp : ∀ r, r < R → 0 ≤ (p r).toInt ∧ (p r).toInt ≤ 4) (hp' : ∀ r, r < R → 0 ≤ (p' r).toInt ∧ (p' r).toInt ≤ 4)
    (hi : i < uk_dp d b) (hcf : (f (rc_ch a b i)).toInt = c) (he : ∀ u, u < i → p' (rc_ch a b u) = p (rc_ch a b u)) (hlt : (p (rc_ch a b i)).toInt < (p' (rc_ch a b i)).toInt) : uk_key f a d p b < uk_key f a d p' c := by
  obtain ⟨b1, b2, b3, b4, b5⟩ := uk_ch hb
  obtain ⟨c1, c2, c3, c4, c5⟩ := uk_ch hc
  have hsb := uk_sd_lt (f := f) hb60 hb
  have hsc := uk_sd_lt (f := f) hc60 hc
  have hqb := uk_pd_lt hb hp
  have hqc := uk_pd_lt hc hp'
  have hbi := b3 i hi
  have hpre : ∀ u, u ≤ i → u < uk_dp d b ∧ u < uk_dp d c ∧ rc_ch a c u = rc_ch a b u := by
    intro u hu
    by_cases hui : u = i
    · subst hui
      have := uk_pre hb hc u hi (by omega) (by omega)
      exact ⟨hi, this⟩
    · have h1 := b4 u i (by omega) hi
      have := uk_pre hb hc u (by omega) (by omega) (by omega)
      exact ⟨by omega, this⟩
  have hs : ∀ u, u ≤ i → uk_sd f a d b u = uk_sd f a d c u := by
    intro u hu
    have h := hpre u hu
    unfold uk_sd
    rw [if_pos h.1, if_pos h.2.1, h.2.2]
  have hq : ∀ u, u < i → uk_pd a d p b u = uk_pd a d p' c u := by
    intro u hu
    have h := hpre u (by omega)
    unfold uk_pd
    rw [if_pos h.1, if_pos h.2.1, h.2.2, he u hu]
  have hqi : uk_pd a d p b i < uk_pd a d p' c i := by
    have h := hpre i (Nat.le_refl i)
    have h2 := hp _ hbi.1
    unfold uk_pd
    rw [if_pos h.1, if_pos h.2.1, h.2.2]
    omega
  unfold uk_key
  have s0 := hsb 0; have s1 := hsb 1; have s2 := hsb 2
  have u0 := hsc 0; have u1 := hsc 1; have u2 := hsc 2
  have q0 := hqb 0; have q1 := hqb 1; have q2 := hqb 2
  have v0 := hqc 0; have v1 := hqc 1; have v2 := hqc 2
  refine uk_lex (by omega) (by omega) ?_
  rcases (show i = 0 ∨ i = 1 ∨ i = 2 by omega) with rfl | rfl | rfl
  · exact Or.inr ⟨hs 0 (by omega), Or.inl hqi⟩
  · exact Or.inr ⟨hs 0 (by omega), Or.inr ⟨hq 0 (by omega), Or.inr ⟨hs 1 (by omega), Or.inl hqi⟩⟩⟩
  · exact Or.inr ⟨hs 0 (by omega), Or.inr ⟨hq 0 (by omega), Or.inr ⟨hs 1 (by omega), Or.inr ⟨hq 1 (by omega), Or.inr ⟨hs 2 (by omega), Or.inl hqi⟩⟩⟩⟩⟩
/-- the keys that there may be -/
def uk_code (f a d : Nat → Int32) (k : Nat) : Nat := uk_n (uk_sd f a d (k / 125) 0) (if 0 < uk_dp d (k / 125) then k / 25 % 5 else 0) (uk_sd f a d (k / 125) 1) (if 1 < uk_dp d (k / 125) then k / 5 % 5 else 0) (uk_sd f a d (k / 125) 2) (if 2 < uk_dp d (k / 125) then k % 5 else 0) (k / 125)
def uk_cnt (P : Nat → Bool) : Nat → Nat
  | 0 => 0
  | n + 1 => uk_cnt P n + (if P n then 1 else 0)
theorem uk_cnt_le (P : Nat → Bool) : ∀ n, uk_cnt P n ≤ n
  | 0 => Nat.le_refl 0
  | n + 1 => by
    have := uk_cnt_le P n
    show uk_cnt P n + (if P n then 1 else 0) ≤ n + 1
    split <;> omega
theorem uk_cnt_mono {P Q : Nat → Bool} (h : ∀ k, P k = true → Q k = true) : ∀ n, uk_cnt P n ≤ uk_cnt Q n
  | 0 => Nat.le_refl 0
  | n + 1 => by
    have := uk_cnt_mono h n
    show uk_cnt P n + (if P n then 1 else 0) ≤ uk_cnt Q n + (if Q n then 1 else 0)
    by_cases hp : P n = true
    · rw [if_pos hp, if_pos (h n hp)]; omega
    · rw [if_neg hp]; omega
theorem uk_cnt_lt {P Q : Nat → Bool} (h : ∀ k, P k = true → Q k = true) {c : Nat} (h1 : P c = false) (h2 : Q c = true) : ∀ n, c < n → uk_cnt P n < uk_cnt Q n := by
  intro n
  induction n with
  | zero => intro h; omega
  | succ n ih =>
    intro hc
    show uk_cnt P n + (if P n then 1 else 0) < uk_cnt Q n + (if Q n then 1 else 0)
    by_cases hcn : c = n
    · subst hcn
      have := uk_cnt_mono h c
      rw [if_pos h2, h1]
      simp
      omega
    · have := ih (by omega)
      by_cases hp : P n = true
      · rw [if_pos hp, if_pos (h n hp)]; omega
      · rw [if_neg hp]; omega
def uk_rest (f a d : Nat → Int32) (k : Nat) : Nat := uk_cnt (fun c => decide (k < uk_code f a d c)) 7500
theorem uk_rest_le (f a d : Nat → Int32) (k : Nat) : uk_rest f a d k ≤ 7500 := uk_cnt_le _ _
theorem uk_is {f t a d p : Nat → Int32} {R b : Nat} (hb60 : b < 60) (hb : rc_chain f t a d R b) (hp : ∀ r, r < R → 0 ≤ (p r).toInt ∧ (p r).toInt ≤ 4) : ∃ c, c < 7500 ∧ uk_code f a d c = uk_key f a d p b := by
  have hqb := uk_pd_lt hb hp
  have q0 := hqb 0; have q1 := hqb 1; have q2 := hqb 2
  refine ⟨b * 125 + uk_pd a d p b 0 * 25 + uk_pd a d p b 1 * 5 + uk_pd a d p b 2, by omega, ?_⟩
  have e0 : (b * 125 + uk_pd a d p b 0 * 25 + uk_pd a d p b 1 * 5 + uk_pd a d p b 2) / 125 = b := by omega
  have e1 : (b * 125 + uk_pd a d p b 0 * 25 + uk_pd a d p b 1 * 5 + uk_pd a d p b 2) / 25 % 5 = uk_pd a d p b 0 := by omega
  have e2 : (b * 125 + uk_pd a d p b 0 * 25 + uk_pd a d p b 1 * 5 + uk_pd a d p b 2) / 5 % 5 = uk_pd a d p b 1 := by omega
  have e3 : (b * 125 + uk_pd a d p b 0 * 25 + uk_pd a d p b 1 * 5 + uk_pd a d p b 2) % 5 = uk_pd a d p b 2 := by omega
  have hz : ∀ lv, (if lv < uk_dp d b then uk_pd a d p b lv else 0) = uk_pd a d p b lv := by
    intro lv
    split
    · rfl
    · rename_i h
      unfold uk_pd
      rw [if_neg h]
  unfold uk_code uk_key
  rw [e0, e1, e2, e3, hz, hz, hz]
theorem uk_falls {f t a d p : Nat → Int32} {R b k : Nat} (hb60 : b < 60) (hb : rc_chain f t a d R b) (hp : ∀ r, r < R → 0 ≤ (p r).toInt ∧ (p r).toInt ≤ 4) (h : k < uk_key f a d p b) : uk_rest f a d (uk_key f a d p b) < uk_rest f a d k := by
  obtain ⟨c, hc, e⟩ := uk_is (f := f) hb60 hb hp
  refine uk_cnt_lt (c := c) (fun q hq => ?_) ?_ ?_ 7500 hc
  · have := of_decide_eq_true hq
    exact decide_eq_true (by omega)
  · rw [e]
    exact decide_eq_false (by omega)
  · rw [e]
    exact decide_eq_true h
