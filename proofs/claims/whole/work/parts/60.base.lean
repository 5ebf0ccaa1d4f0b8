/-! ===== own: pure base (loops, reads, writes) ===== -/
theorem ga_nI (G : gs_T) (k : Nat) {i : Nat} (h : i < 2 ^ 31) : gs_a G k (nI i) = G.2 k i := by
  unfold gs_a; rw [nI_clamp h]
theorem ga_of (G : gs_T) (k : Nat) {x : Int32} {i : Nat} (h : x.toInt = (i : Int)) : gs_a G k x = G.2 k i := by
  unfold gs_a
  rw [show x.toNatClampNeg = x.toInt.toNat from rfl, h]
  rfl
theorem ck_of {α : Type} {x : Int32} {n : Nat} (t : Option α) (h0 : 0 ≤ x.toInt) (h1 : x.toInt < (n : Int)) : gs_ck x n t = t := by
  unfold gs_ck
  rw [if_neg]
  rintro (h | h)
  · rw [Int32.lt_iff_toInt_lt] at h
    have : (0 : Int32).toInt = 0 := by decide
    omega
  · rw [show x.toNatClampNeg = x.toInt.toNat from rfl] at h
    omega
theorem ck_nI {α : Type} {i n : Nat} (t : Option α) (h : i < n) (hn : n < 2 ^ 31) : gs_ck (nI i) n t = t := by
  have := nI_toInt (n := i) (by omega)
  exact ck_of t (by omega) (by omega)
theorem li_le (x y : Int32) : x ≤ y ↔ x.toInt ≤ y.toInt := Int32.le_iff_toInt_le
theorem li_lt (x y : Int32) : x < y ↔ x.toInt < y.toInt := Int32.lt_iff_toInt_lt
theorem li_eq (x y : Int32) : x = y ↔ x.toInt = y.toInt := Int32.toInt_inj.symm
theorem li_nI {x : Int32} {i : Nat} (hi : i < 2 ^ 31) (h : x.toInt = (i : Int)) : x = nI i := by
  rw [li_eq, h, nI_toInt hi]
theorem li_add {x y : Int32} (h1 : -2147483648 ≤ x.toInt + y.toInt) (h2 : x.toInt + y.toInt < 2147483648) : (x + y).toInt = x.toInt + y.toInt := by
  rw [Int32.toInt_add, Int.bmod_eq_of_le] <;> omega
theorem li_sub {x y : Int32} (h1 : -2147483648 ≤ x.toInt - y.toInt) (h2 : x.toInt - y.toInt < 2147483648) : (x - y).toInt = x.toInt - y.toInt := by
  rw [Int32.toInt_sub, Int.bmod_eq_of_le] <;> omega
theorem li_mul {x y : Int32} (h1 : -2147483648 ≤ x.toInt * y.toInt) (h2 : x.toInt * y.toInt < 2147483648) : (x * y).toInt = x.toInt * y.toInt := by
  rw [Int32.toInt_mul, Int.bmod_eq_of_le] <;> omega
theorem li_neg {x : Int32} (h1 : -2147483648 < x.toInt) : (-x).toInt = - x.toInt := by
  rw [Int32.toInt_neg, Int.bmod_eq_of_le] <;> (have := x.toInt_lt; omega)
theorem li_m1 : (-1 : Int32).toInt = -1 := by decide
theorem li_0 : (0 : Int32).toInt = 0 := by decide
theorem li_1 : (1 : Int32).toInt = 1 := by decide
theorem li_2 : (2 : Int32).toInt = 2 := by decide
theorem li_3 : (3 : Int32).toInt = 3 := by decide
theorem li_4 : (4 : Int32).toInt = 4 := by decide
theorem li_n0 : (0 : Int32) = nI 0 := by decide
theorem li_n1 : (1 : Int32) = nI 1 := by decide
theorem sv_1 (G : gs_T) (k j : Nat) (x : Int32) : (gs_sv G k x).1 j = if j = k then x else G.1 j := rfl
theorem sv_2 (G : gs_T) (k : Nat) (x : Int32) : (gs_sv G k x).2 = G.2 := rfl
theorem sa_1 (G : gs_T) (k : Nat) (i x : Int32) : (gs_sa G k i x).1 = G.1 := rfl
theorem sa_2 (G : gs_T) (k j : Nat) (i x : Int32) : (gs_sa G k i x).2 j = if j = k then upd (G.2 k) i.toNatClampNeg x else G.2 j := rfl
theorem sf_1 (G : gs_T) (k : Nat) (x : Int32) : (gs_sf G k x).1 = G.1 := rfl
theorem sf_2 (G : gs_T) (k j : Nat) (x : Int32) : (gs_sf G k x).2 j = if j = k then (fun _ => x) else G.2 j := rfl
theorem ud_s (f : Nat → Int32) (k : Nat) (x : Int32) : upd f k x k = x := by simp [upd]
theorem ud_n (f : Nat → Int32) {k j : Nat} (x : Int32) (h : j ≠ k) : upd f k x j = f j := by simp [upd, h]
theorem ud_e (f : Nat → Int32) (k j : Nat) (x : Int32) : upd f k x j = if j = k then x else f j := rfl
/-- a loop that looks for a place where P fails -/
theorem lp_all {α : Type} (L : Nat → Int32 → Option α) (N : Nat) (P : Nat → Prop) (T F : Option α) (hend : ∀ k, L (k + 1) (nI N) = T) (hgo : ∀ k i, i < N → P i → L (k + 1) (nI i) = L k (nI (i + 1))) (hno : ∀ k i, i < N → ¬ P i → L (k + 1) (nI i) = F) : ∀ k i, i ≤ N → N - i < k → ((∀ j, i ≤ j → j < N → P j) → L k (nI i) = T) ∧ ((∃ j, i ≤ j ∧ j < N ∧ ¬ P j) → L k (nI i) = F) := by
  intro k
  induction k with
  | zero => intro i h1 h2; omega
  | succ k ih =>
    intro i h1 h2
    by_cases hi : i = N
    · subst hi
      exact ⟨fun _ => hend k, fun ⟨j, h3, h4, _⟩ => by omega⟩
    · have hlt : i < N := by omega
      by_cases hp : P i
      · rw [hgo k i hlt hp]
        have h3 := ih (i + 1) (by omega) (by omega)
        refine ⟨fun h => h3.1 (fun j h4 h5 => h j (by omega) h5), fun ⟨j, h4, h5, h6⟩ => h3.2 ⟨j, ?_, h5, h6⟩⟩
        by_cases hj : j = i
        · subst hj; exact absurd hp h6
        · omega
      · rw [hno k i hlt hp]
        exact ⟨fun h => absurd (h i (Nat.le_refl i) hlt) hp, fun _ => rfl⟩
/-- a loop that looks for the first place where P fails, and says which -/
theorem lp_find {α : Type} (L : Nat → Int32 → Option α) (N : Nat) (P : Nat → Prop) (F : Nat → Option α) (hend : ∀ k, L (k + 1) (nI N) = F N) (hgo : ∀ k i, i < N → P i → L (k + 1) (nI i) = L k (nI (i + 1))) (hno : ∀ k i, i < N → ¬ P i → L (k + 1) (nI i) = F i) : ∀ k i, i ≤ N → N - i < k → ∃ j, i ≤ j ∧ j ≤ N ∧ (∀ q, i ≤ q → q < j → P q) ∧ (j < N → ¬ P j) ∧ L k (nI i) = F j := by
  intro k
  induction k with
  | zero => intro i h1 h2; omega
  | succ k ih =>
    intro i h1 h2
    by_cases hi : i = N
    · subst hi
      exact ⟨i, Nat.le_refl i, Nat.le_refl i, fun q h3 h4 => by omega, fun h => by omega, hend k⟩
    · have hlt : i < N := by omega
      by_cases hp : P i
      · obtain ⟨j, h3, h4, h5, h6, h7⟩ := ih (i + 1) (by omega) (by omega)
        refine ⟨j, by omega, h4, fun q h8 h9 => ?_, h6, ?_⟩
        · by_cases hq : q = i
          · subst hq; exact hp
          · exact h5 q (by omega) h9
        · rw [hgo k i hlt hp]; exact h7
      · exact ⟨i, Nat.le_refl i, by omega, fun q h8 h9 => by omega, fun _ => hp, hno k i hlt hp⟩
/-- a loop that changes a state -/
theorem lp_for {α σ : Type} (L : Nat → Int32 → σ → Option α) (N : Nat) (I : Nat → σ → Prop) (K : σ → Option α) (hend : ∀ k G, I N G → L (k + 1) (nI N) G = K G) (hgo : ∀ k i G, i < N → I i G → ∃ G', I (i + 1) G' ∧ L (k + 1) (nI i) G = L k (nI (i + 1)) G') : ∀ k i G, i ≤ N → N - i < k → I i G → ∃ G', I N G' ∧ L k (nI i) G = K G' := by
  intro k
  induction k with
  | zero => intro i G h1 h2; omega
  | succ k ih =>
    intro i G h1 h2 hI
    by_cases hi : i = N
    · subst hi
      exact ⟨G, hI, hend k G hI⟩
    · obtain ⟨G', h3, h4⟩ := hgo k i G (by omega) hI
      obtain ⟨G2, h5, h6⟩ := ih (i + 1) G' (by omega) (by omega) h3
      exact ⟨G2, h5, h4.trans h6⟩
