/-! ===== own: the relation of the two sides ===== -/
def rc_lw (a b c d : Int) : Prop := b < c ∨ d < a ∨ (c ≤ a ∧ b ≤ d) ∨ (a ≤ c ∧ d ≤ b)
def rc_cnt (f t : Nat → Int32) (b : Int) : Nat → Nat
  | 0 => 0
  | n + 1 => rc_cnt f t b n + (if (f n).toInt ≤ b ∧ b ≤ (t n).toInt then 1 else 0)
def rc_ch (a : Nat → Int32) (b lv : Nat) : Nat := (a (3 * b + lv)).toInt.toNat
def rc_chain (f t a d : Nat → Int32) (R b : Nat) : Prop :=
  ∃ n, n ≤ 3 ∧ d b = nI n ∧ n = rc_cnt f t b R ∧
  (∀ lv, lv < n → rc_ch a b lv < R ∧ a (3 * b + lv) = nI (rc_ch a b lv) ∧ (f (rc_ch a b lv)).toInt ≤ b ∧ (b : Int) ≤ (t (rc_ch a b lv)).toInt) ∧
  (∀ u v, u < v → v < n → (f (rc_ch a b u)).toInt ≤ (f (rc_ch a b v)).toInt ∧ (t (rc_ch a b v)).toInt ≤ (t (rc_ch a b u)).toInt ∧ ¬ ((f (rc_ch a b u)).toInt = (f (rc_ch a b v)).toInt ∧ (t (rc_ch a b v)).toInt = (t (rc_ch a b u)).toInt)) ∧
  (∀ r, r < R → (f r).toInt ≤ b → (b : Int) ≤ (t r).toInt → ∃ lv, lv < n ∧ rc_ch a b lv = r)
def rs_rep (f t m : Nat → Int32) (B R : Nat) : Prop := ∀ r, r < R → 0 ≤ (f r).toInt ∧ (f r).toInt ≤ (t r).toInt ∧ (t r).toInt < B ∧ 2 ≤ (m r).toInt ∧ (m r).toInt ≤ 4
def rs_lam (f t : Nat → Int32) (R : Nat) : Prop := ∀ r s, r < R → s < R → r ≠ s → rc_lw (f r).toInt (t r).toInt (f s).toInt (t s).toInt ∧ ¬ ((f r).toInt = (f s).toInt ∧ (t r).toInt = (t s).toInt)
def rs_end (f t o ef et ep : Nat → Int32) (R E : Nat) : Prop := ∀ e, e < E → ∃ r, r < R ∧ o e = nI r ∧ (f r).toInt ≤ (ef e).toInt ∧ (ef e).toInt ≤ (et e).toInt ∧ (et e).toInt ≤ (t r).toInt ∧ 1 ≤ (ep e).toInt ∧ (ep e).toInt < 16
def rs_elw (f t ef et : Nat → Int32) (R E : Nat) : Prop := ∀ e r, e < E → r < R → rc_lw (ef e).toInt (et e).toInt (f r).toInt (t r).toInt
def rs_eap (ef et : Nat → Int32) (E : Nat) : Prop := ∀ e g, e < E → g < E → e ≠ g → (et e).toInt < (ef g).toInt ∨ (et g).toInt < (ef e).toInt
def rs_eat (ea ef : Nat → Int32) (E : Nat) : Prop := ∀ b, b < 60 → (ea b = -1 ∧ ∀ e, e < E → (ef e).toInt ≠ (b : Int)) ∨ ∃ e, e < E ∧ ea b = nI e ∧ (ef e).toInt = (b : Int)
def rs_sig (s : Nat → Int32) (B : Nat) : Prop := ∀ k, k < 4 → -1 ≤ (s k).toInt ∧ (s k).toInt < B
/-- the score: repeats, endings, signs, and what the class keeps for each bar -/
def rl_S (G : gs_T) (B R E : Nat) : Prop :=
  (G.1 6 = nI B ∧ B ≤ 60 ∧ G.1 7 = nI R ∧ R ≤ 20 ∧ G.1 8 = nI E ∧ E ≤ 20) ∧
  rs_rep (G.2 1) (G.2 2) (G.2 3) B R ∧ rs_lam (G.2 1) (G.2 2) R ∧
  rs_end (G.2 1) (G.2 2) (G.2 4) (G.2 5) (G.2 6) (G.2 7) R E ∧ rs_elw (G.2 1) (G.2 2) (G.2 5) (G.2 6) R E ∧ rs_eap (G.2 5) (G.2 6) E ∧
  (∀ b, b < 60 → rc_chain (G.2 1) (G.2 2) (G.2 12) (G.2 13) R b) ∧ rs_eat (G.2 14) (G.2 5) E ∧ rs_sig (G.2 8) B
def rj_cnt (h : Nat → Int32) : Nat → Nat
  | 0 => 0
  | n + 1 => rj_cnt h n + (if h n = 0 then 0 else 1)
/-- the jumps -/
def rl_J (G M : gs_T) (B : Nat) : Prop :=
  G.1 9 = nI (rj_cnt (M.2 9) B) ∧ (∀ b, b < 60 → (M.2 9 b = 0 ∧ G.2 9 b = -1) ∨ (M.2 9 b ≠ 0 ∧ G.2 9 b = M.2 10 b ∧ 0 ≤ (G.2 9 b).toInt ∧ (G.2 9 b).toInt ≤ 1 ∧ b < B))
/-- the score's data are the same -/
def rl_D (G M : gs_T) : Prop :=
  G.1 6 = M.1 1 ∧ G.1 7 = M.1 2 ∧ G.1 8 = M.1 3 ∧ G.2 0 = M.2 0 ∧ G.2 1 = M.2 1 ∧ G.2 2 = M.2 2 ∧ G.2 3 = M.2 3 ∧ G.2 4 = M.2 4 ∧ G.2 5 = M.2 5 ∧ G.2 6 = M.2 6 ∧ G.2 7 = M.2 7 ∧ G.2 8 = M.2 8 ∧ G.2 10 = M.2 11 ∧ G.2 11 = M.2 12
def rp_cnt (a : Nat → Int32) (x : Int32) : Nat → Nat
  | 0 => 0
  | n + 1 => rp_cnt a x n + (if a n = x then 1 else 0)
/-- the way that was unfolded latest -/
def rl_W (G M : gs_T) (B : Nat) : Prop :=
  G.1 5 = M.1 4 ∧ G.1 0 = M.1 5 ∧ G.1 1 = M.1 6 ∧ (∀ i, i < 60 → G.2 20 i = M.2 17 i) ∧ G.2 15 = M.2 13 ∧ G.2 16 = M.2 14 ∧ G.2 17 = M.2 15 ∧ G.2 18 = M.2 16 ∧
  ∃ C, C ≤ 1000 ∧ G.1 0 = nI C ∧ (∀ i, i < C → 0 ≤ (G.2 15 i).toInt ∧ (G.2 15 i).toInt < B) ∧ (∀ b, b < 60 → G.2 19 b = nI (rp_cnt (G.2 15) (nI b) C))
/-- the row that was folded latest -/
def rl_F (G M : gs_T) : Prop :=
  G.1 11 = M.1 11 ∧ G.1 12 = M.1 12 ∧ G.2 29 = M.2 24 ∧ G.2 30 = M.2 25 ∧ ∃ I, I ≤ 80 ∧ G.1 11 = nI I
def rl_A (G M : gs_T) (B R E : Nat) : Prop := rl_S G B R E ∧ rl_J G M B ∧ rl_D G M ∧ rl_W G M B ∧ rl_F G M
def rl_R (G M : gs_T) : Prop := ∃ B R E, rl_A G M B R E
theorem rl_thrown {G M : gs_T} {B R E : Nat} (x : Int32) (h : rl_A G M B R E) : rl_A G (gs_sv M 0 x) B R E := by
  unfold rl_A rl_J rl_D rl_W rl_F at *
  simp only [sv_1, sv_2, reduceIte, Nat.reduceEqDiff] at *
  exact h
theorem rl_init : rl_R gi_c gi_m := by
  refine ⟨0, 0, 0, ⟨⟨rfl, by decide, rfl, by decide, rfl, by decide⟩, ?_, ?_, ?_, ?_, ?_, ?_, ?_, ?_⟩, ⟨rfl, fun b _ => Or.inl ⟨rfl, rfl⟩⟩, ⟨rfl, rfl, rfl, rfl, rfl, rfl, rfl, rfl, rfl, rfl, rfl, rfl, rfl, rfl⟩, ⟨rfl, rfl, rfl, fun _ _ => rfl, rfl, rfl, rfl, rfl, 0, by decide, rfl, fun i h => absurd h (by omega), fun b _ => rfl⟩, rfl, rfl, rfl, rfl, 0, by decide, rfl⟩
  · intro r h; omega
  · intro r s h; omega
  · intro r h; omega
  · intro r s h; omega
  · intro r s h; omega
  · intro b _
    exact ⟨0, by decide, rfl, rfl, fun lv h => by omega, fun u v h1 h2 => by omega, fun r h => by omega⟩
  · intro b _
    exact Or.inl ⟨rfl, fun e h => by omega⟩
  · intro k _
    show -1 ≤ (-1 : Int32).toInt ∧ (-1 : Int32).toInt < ((0 : Nat) : Int)
    decide
