/-! ===== own: ending ===== -/
theorem en_bits {m c : Nat} (hm : m < 32) (hc : ∀ i, i < 32 → m ≤ i → Nat.testBit c i = true) {x : Nat} (hx : x < 2 ^ 32) (h : x &&& c = 0) : x < 2 ^ m := by
  by_cases hge : 2 ^ m ≤ x
  · obtain ⟨i, hi, ht⟩ := Nat.exists_ge_and_testBit_of_ge_two_pow hge
    have hi32 : i < 32 := by
      by_cases h32 : i < 32
      · exact h32
      · have : x < 2 ^ i := Nat.lt_of_lt_of_le hx (Nat.pow_le_pow_right (by decide) (by omega))
        rw [Nat.testBit_lt_two_pow this] at ht
        cases ht
    have h2 := Nat.testBit_and x c i
    rw [h, ht, hc i hi32 hi] at h2
    simp at h2
  · omega
theorem en_mask {m : Nat} (hm : m = 2 ∨ m = 3 ∨ m = 4) (x : Int32) : (x ≠ 0 ∧ (x &&& ((((1 : Int32) <<< ((nI m) &&& 31)) - (1 : Int32)) ^^^ (-1 : Int32))) = 0) ↔ (0 < x.toInt ∧ x.toInt < 2 ^ m) := by
  have key : ∀ c : Int32, (∀ i, i < 32 → m ≤ i → Nat.testBit c.toBitVec.toNat i = true) → (∀ k : Nat, k < 2 ^ m → nI k &&& c = 0) → ((x ≠ 0 ∧ (x &&& c) = 0) ↔ (0 < x.toInt ∧ x.toInt < 2 ^ m)) := by
    intro c h1 h2
    have h16 : (2 : Nat) ^ m ≤ 16 := by rcases hm with rfl | rfl | rfl <;> decide
    have hpi : ((2 ^ m : Nat) : Int) = (2 : Int) ^ m := by simp
    constructor
    · rintro ⟨h3, h4⟩
      have h5 : x.toBitVec.toNat &&& c.toBitVec.toNat = 0 := by
        have := congrArg (fun q : Int32 => q.toBitVec.toNat) h4
        simpa using this
      have h6 := en_bits (by omega) h1 x.toBitVec.isLt h5
      have h7 : x.toInt = x.toBitVec.toNat := by
        show x.toBitVec.toInt = _
        rw [BitVec.toInt_eq_toNat_of_lt]
        omega
      have h8 : x.toInt ≠ 0 := fun h => h3 (by rw [li_eq, li_0]; exact h)
      omega
    · rintro ⟨h3, h4⟩
      obtain ⟨k, hk, rfl⟩ : ∃ k : Nat, k < 2 ^ m ∧ x = nI k := ⟨x.toInt.toNat, by omega, li_nI (by omega) (by omega)⟩
      refine ⟨fun h => ?_, h2 k hk⟩
      rw [h, li_0] at h3
      omega
  rcases hm with rfl | rfl | rfl
  · rw [show ((((1 : Int32) <<< ((nI 2) &&& 31)) - (1 : Int32)) ^^^ (-1 : Int32)) = -4 by decide]
    exact key (-4) (by decide) (by decide)
  · rw [show ((((1 : Int32) <<< ((nI 3) &&& 31)) - (1 : Int32)) ^^^ (-1 : Int32)) = -8 by decide]
    exact key (-8) (by decide) (by decide)
  · rw [show ((((1 : Int32) <<< ((nI 4) &&& 31)) - (1 : Int32)) ^^^ (-1 : Int32)) = -16 by decide]
    exact key (-16) (by decide) (by decide)
theorem en_shl {m : Nat} (hm : m = 2 ∨ m = 3 ∨ m = 4) : ((1 : Int32) <<< ((nI m) &&& 31)).toInt = 2 ^ m := by
  rcases hm with rfl | rfl | rfl <;> decide
theorem en_tm {x : Int32} (h1 : 2 ≤ x.toInt) (h2 : x.toInt ≤ 4) : ∃ m, (m = 2 ∨ m = 3 ∨ m = 4) ∧ x = nI m := ⟨x.toInt.toNat, by omega, li_nI (by omega) (by omega)⟩
theorem en_pass {G : gs_T} {r m : Nat} (hr : r < 20) (hm : m = 2 ∨ m = 3 ∨ m = 4) (h3 : G.2 3 r = nI m) (x : Int32) : (cS_hasPasses G (nI r) x = some 1 ∧ (0 < x.toInt ∧ x.toInt < 2 ^ m)) ∨ (cS_hasPasses G (nI r) x = some 0 ∧ ¬ (0 < x.toInt ∧ x.toInt < 2 ^ m)) := by
  unfold cS_hasPasses
  rw [ck_nI _ hr (by decide), ga_nI _ _ (by omega), h3]
  have h := en_mask hm x
  by_cases h0 : x = 0
  · rw [if_pos h0]
    exact Or.inr ⟨rfl, fun h2 => (h.mpr h2).1 h0⟩
  · rw [if_neg h0]
    by_cases h1 : (x &&& ((((1 : Int32) <<< ((nI m) &&& 31)) - (1 : Int32)) ^^^ (-1 : Int32))) = 0
    · rw [if_pos h1]
      exact Or.inl ⟨rfl, h.mp ⟨h0, h1⟩⟩
    · rw [if_neg h1]
      exact Or.inr ⟨rfl, fun h2 => h1 (h.mpr h2).2⟩
theorem en_takes {G : gs_T} {B R E : Nat} (h : rl_S G B R E) (n : Nat) (hn : 61 < n) {r a b : Nat} (hr : r < R) (ha : a < 60) (hb : b < 60) :
    (cS_takesEnding n G (nI r) (nI a) (nI b) = some 1 ∧ (((G.2 1 r).toInt ≤ a ∧ b ≤ (G.2 2 r).toInt) ∧ (∀ e, e < E → (b : Int) < (G.2 5 e).toInt ∨ (G.2 6 e).toInt < a) ∧ (∀ k, k < R → rc_lw a b (G.2 1 k).toInt (G.2 2 k).toInt) ∧ E < 20)) ∨
    (cS_takesEnding n G (nI r) (nI a) (nI b) = some 0 ∧ ¬ (((G.2 1 r).toInt ≤ a ∧ b ≤ (G.2 2 r).toInt) ∧ (∀ e, e < E → (b : Int) < (G.2 5 e).toInt ∨ (G.2 6 e).toInt < a) ∧ (∀ k, k < R → rc_lw a b (G.2 1 k).toInt (G.2 2 k).toInt) ∧ E < 20)) := by
  obtain ⟨⟨s1, s2, s3, s4, s5, s6⟩, -, -, -, -, -, hch, -, -⟩ := h
  have ea := nI_toInt (n := a) (by omega)
  have eb := nI_toInt (n := b) (by omega)
  unfold cS_takesEnding
  rw [s5]
  by_cases hE : E < 20
  · rw [if_neg (show ¬ (20 : Int32) ≤ nI E from nI_ge (b := 20) hE (by omega))]
    simp only [ck_nI _ (show r < 20 by omega) (show 20 < 2 ^ 31 by decide), ga_nI _ _ (show r < 2 ^ 31 by omega)]
    rcases te_within G (nI a) (nI b) (G.2 1 r) (G.2 2 r) with ⟨e0, h0⟩ | ⟨e0, h0⟩
    · rw [ea, eb] at h0
      rcases te_byR s3 s4 n (by omega) (nI a) (nI b) with ⟨e1, h1⟩ | ⟨e1, h1⟩
      · rw [ea, eb] at h1
        rcases te_apE s5 s6 n (by omega) (nI a) (nI b) with ⟨e2, h2⟩ | ⟨e2, h2⟩
        · rw [ea, eb] at h2
          exact Or.inl ⟨by rw [e0, e1, e2]; rfl, h0, fun e he => (h2 e he).symm, h1, hE⟩
        · rw [ea, eb] at h2
          exact Or.inr ⟨by rw [e0, e1, e2]; rfl, fun h => h2 (fun e he => (h.2.1 e he).symm)⟩
      · rw [ea, eb] at h1
        exact Or.inr ⟨by rw [e0, e1]; rfl, fun h => h1 h.2.2.1⟩
    · rw [ea, eb] at h0
      exact Or.inr ⟨by rw [e0]; rfl, fun h => h0 h.1⟩
  · rw [if_pos (show (20 : Int32) ≤ nI E from nI_le (a := 20) (by omega) (by omega))]
    exact Or.inr ⟨rfl, fun h => hE h.2.2.2⟩
theorem en_may {M : gs_T} {R E : Nat} (h2 : M.1 2 = nI R) (hR : R ≤ 20) (h3 : M.1 3 = nI E) (hE : E ≤ 20) (n : Nat) (hn : 61 < n) {r a b : Nat} (hr : r < R) (ha : a < 60) (hb : b < 60) :
    (mM_mayEnd n M (nI r) (nI a) (nI b) = some 1 ∧ (((M.2 1 r).toInt ≤ a ∧ b ≤ (M.2 2 r).toInt) ∧ (∀ e, e < E → (b : Int) < (M.2 5 e).toInt ∨ (M.2 6 e).toInt < a) ∧ (∀ k, k < R → rc_lw a b (M.2 1 k).toInt (M.2 2 k).toInt) ∧ E < 20)) ∨
    (mM_mayEnd n M (nI r) (nI a) (nI b) = some 0 ∧ ¬ (((M.2 1 r).toInt ≤ a ∧ b ≤ (M.2 2 r).toInt) ∧ (∀ e, e < E → (b : Int) < (M.2 5 e).toInt ∨ (M.2 6 e).toInt < a) ∧ (∀ k, k < R → rc_lw a b (M.2 1 k).toInt (M.2 2 k).toInt) ∧ E < 20)) := by
  have ea := nI_toInt (n := a) (by omega)
  have eb := nI_toInt (n := b) (by omega)
  have q2 := te_loop (fun k i => mM_mayEnd_67 n M (nI a) (nI b) k i) R (fun k => rc_lw a b (M.2 1 k).toInt (M.2 2 k).toInt) (if (20 : Int32) ≤ M.1 3 then some 0 else some 1) (some 0) n (by omega)
    (fun k => by simp only [mM_mayEnd_67, h2, if_pos (Int32.le_refl _)])
    (fun k i hi hp => by
      simp only [mM_mayEnd_67, h2, if_neg (nI_ge hi (by omega)), ck_nI _ (show i < 20 by omega) (by decide), ga_nI _ _ (show i < 2 ^ 31 by omega)]
      rcases te_mwell M (nI a) (nI b) (M.2 1 i) (M.2 2 i) with ⟨e, h⟩ | ⟨e, h⟩
      · rw [e]; simp only [Option.bind_some, if_neg (show ¬ (1 : Int32) = 0 by decide), ← nI_succ]
      · rw [ea, eb] at h; exact absurd hp h)
    (fun k i hi hp => by
      simp only [mM_mayEnd_67, h2, if_neg (nI_ge hi (by omega)), ck_nI _ (show i < 20 by omega) (by decide), ga_nI _ _ (show i < 2 ^ 31 by omega)]
      rcases te_mwell M (nI a) (nI b) (M.2 1 i) (M.2 2 i) with ⟨e, h⟩ | ⟨e, h⟩
      · rw [ea, eb] at h; exact absurd h hp
      · rw [e]; simp only [Option.bind_some, reduceIte])
  have q1 := te_loop (fun k i => mM_mayEnd_25 n M (nI a) (nI b) (fun _ => mM_mayEnd_67 n M (nI a) (nI b) n 0) k i) E (fun e => (b : Int) < (M.2 5 e).toInt ∨ (M.2 6 e).toInt < a) (mM_mayEnd_67 n M (nI a) (nI b) n 0) (some 0) n (by omega)
    (fun k => by simp only [mM_mayEnd_25, h3, if_pos (Int32.le_refl _)])
    (fun k i hi hp => by
      simp only [mM_mayEnd_25, h3, if_neg (nI_ge hi (by omega)), ck_nI _ (show i < 20 by omega) (by decide), ga_nI _ _ (show i < 2 ^ 31 by omega)]
      rcases te_apart M (nI a) (nI b) (M.2 5 i) (M.2 6 i) with ⟨e, h⟩ | ⟨e, h⟩
      · rw [e]; simp only [Option.bind_some, if_neg (show ¬ (1 : Int32) = 0 by decide), ← nI_succ]
      · rw [ea, eb] at h; exact absurd hp h)
    (fun k i hi hp => by
      simp only [mM_mayEnd_25, h3, if_neg (nI_ge hi (by omega)), ck_nI _ (show i < 20 by omega) (by decide), ga_nI _ _ (show i < 2 ^ 31 by omega)]
      rcases te_apart M (nI a) (nI b) (M.2 5 i) (M.2 6 i) with ⟨e, h⟩ | ⟨e, h⟩
      · rw [ea, eb] at h; exact absurd h hp
      · rw [e]; simp only [Option.bind_some, reduceIte])
  have ht : (if (20 : Int32) ≤ M.1 3 then some (0 : Int32) else some 1) = if E < 20 then some 1 else some 0 := by
    rw [h3]
    by_cases h : E < 20
    · rw [if_pos h, if_neg (show ¬ (20 : Int32) ≤ nI E from nI_ge (b := 20) h (by omega))]
    · rw [if_neg h, if_pos (show (20 : Int32) ≤ nI E from nI_le (a := 20) (by omega) (by omega))]
  unfold mM_mayEnd
  simp only [ck_nI _ (show r < 20 by omega) (show 20 < 2 ^ 31 by decide), ga_nI _ _ (show r < 2 ^ 31 by omega)]
  rcases te_mwithin M (nI a) (nI b) (M.2 1 r) (M.2 2 r) with ⟨e0, h0⟩ | ⟨e0, h0⟩
  · rw [ea, eb] at h0
    rw [e0]
    simp only [Option.bind_some, if_neg (show ¬ (1 : Int32) = 0 by decide)]
    by_cases c1 : ∀ e, e < E → (b : Int) < (M.2 5 e).toInt ∨ (M.2 6 e).toInt < a
    · by_cases c2 : ∀ k, k < R → rc_lw a b (M.2 1 k).toInt (M.2 2 k).toInt
      · by_cases c4 : E < 20
        · exact Or.inl ⟨(q1.1 c1).trans ((q2.1 c2).trans (by rw [ht, if_pos c4])), h0, c1, c2, c4⟩
        · exact Or.inr ⟨(q1.1 c1).trans ((q2.1 c2).trans (by rw [ht, if_neg c4])), fun h => c4 h.2.2.2⟩
      · exact Or.inr ⟨(q1.1 c1).trans (q2.2 c2), fun h => c2 h.2.2.1⟩
    · exact Or.inr ⟨q1.2 c1, fun h => c1 h.2.1⟩
  · rw [ea, eb] at h0
    exact Or.inr ⟨by rw [e0]; rfl, fun h => h0 h.1⟩
theorem en_add {G M : gs_T} {B R E : Nat} (h : rl_A G M B R E) {r a b p : Nat} (hr : r < R) (hab : a ≤ b) (hb : b < B) (hp : 0 < p ∧ p < 16) (ht : ((G.2 1 r).toInt ≤ a ∧ b ≤ (G.2 2 r).toInt) ∧ (∀ e, e < E → (b : Int) < (G.2 5 e).toInt ∨ (G.2 6 e).toInt < a) ∧ (∀ k, k < R → rc_lw a b (G.2 1 k).toInt (G.2 2 k).toInt) ∧ E < 20) :
    ∃ G' : gs_T, cS_addEnding G (nI r) (nI a) (nI b) (nI p) = some (nI E, G') ∧ rl_A G' (gs_sv (gs_sa (gs_sa (gs_sa (gs_sa (gs_sv M 0 0) 4 (nI E) (nI r)) 5 (nI E) (nI a)) 6 (nI E) (nI b)) 7 (nI E) (nI p)) 3 (nI (E + 1))) B R (E + 1) := by
  obtain ⟨⟨⟨s1, s2, s3, s4, s5, s6⟩, t1, t2, t3, t4, t5, t6, t7, t8⟩, hj, hd, hw, hf⟩ := h
  obtain ⟨q1, q2, q3, q4⟩ := ht
  have ea := nI_toInt (n := a) (by omega)
  have eb := nI_toInt (n := b) (by omega)
  have ep := nI_toInt (n := p) (by omega)
  have hcE : (nI E).toNatClampNeg = E := nI_clamp (by omega)
  have hca : (nI a).toNatClampNeg = a := nI_clamp (by omega)
  refine ⟨gs_sv (gs_sa (gs_sa (gs_sa (gs_sa (gs_sa G 4 (nI E) (nI r)) 5 (nI E) (nI a)) 6 (nI E) (nI b)) 7 (nI E) (nI p)) 14 (nI a) (nI E)) 8 (nI (E + 1)), ?_, ?_⟩
  · unfold cS_addEnding
    rw [s5]
    simp only [ck_nI _ q4 (show 20 < 2 ^ 31 by decide), ck_nI _ (show a < 60 by omega) (show 60 < 2 ^ 31 by decide), ← nI_succ]
  · unfold rl_A rl_S rl_J rl_D rl_W rl_F at *
    simp only [sv_1, sv_2, sa_1, sa_2, reduceIte, Nat.reduceEqDiff, hcE, hca] at *
    refine ⟨⟨⟨s1, s2, s3, s4, trivial, by omega⟩, t1, t2, ?_, ?_, ?_, t6, ?_, t8⟩, hj, ?_, hw, hf⟩
    · intro e he
      by_cases heE : e = E
      · subst heE
        refine ⟨r, hr, ?_⟩
        simp only [ud_s, ea, eb, ep]
        refine ⟨trivial, q1.1, by omega, q1.2, by omega, by omega⟩
      · rw [ud_n _ _ heE, ud_n _ _ heE, ud_n _ _ heE, ud_n _ _ heE]
        exact t3 e (by omega)
    · intro e k he hk
      by_cases heE : e = E
      · subst heE
        simp only [ud_s, ea, eb]
        exact q3 k hk
      · rw [ud_n _ _ heE, ud_n _ _ heE]
        exact t4 e k (by omega) hk
    · intro e g he hg heg
      by_cases heE : e = E
      · subst heE
        rw [ud_n (G.2 5) _ (show g ≠ e by omega), ud_n (G.2 6) _ (show g ≠ e by omega)]
        simp only [ud_s, ea, eb]
        exact q2 g (by omega)
      · by_cases hgE : g = E
        · subst hgE
          rw [ud_n (G.2 5) _ heE, ud_n (G.2 6) _ heE]
          simp only [ud_s, ea, eb]
          exact (q2 e (by omega)).symm
        · rw [ud_n (G.2 5) _ heE, ud_n (G.2 6) _ heE, ud_n (G.2 5) _ hgE, ud_n (G.2 6) _ hgE]
          exact t5 e g (by omega) (by omega) heg
    · intro c hc
      by_cases hca2 : c = a
      · subst hca2
        refine Or.inr ⟨E, by omega, by rw [ud_s], by rw [ud_s, ea]⟩
      · rw [ud_n _ _ hca2]
        rcases t7 c hc with ⟨g1, g2⟩ | ⟨e, g1, g2, g3⟩
        · refine Or.inl ⟨g1, fun e he => ?_⟩
          by_cases heE : e = E
          · subst heE
            rw [ud_s, ea]
            omega
          · rw [ud_n _ _ heE]
            exact g2 e (by omega)
        · exact Or.inr ⟨e, by omega, g2, by rw [ud_n _ _ (by omega)]; exact g3⟩
    · obtain ⟨d1, d2, d3, d4, d5, d6, d7, d8, d9, d10, d11, d12, d13, d14⟩ := hd
      exact ⟨d1, d2, trivial, d4, d5, d6, d7, by rw [d8], by rw [d9], by rw [d10], by rw [d11], d12, d13, d14⟩
theorem en_hasR {G : gs_T} {R : Nat} (h6 : G.1 7 = nI R) (hR : R ≤ 20) (x : Int32) : (cS_hasRepeat G x = some 1 ∧ 0 ≤ x.toInt ∧ x.toInt < R) ∨ (cS_hasRepeat G x = some 0 ∧ ¬ (0 ≤ x.toInt ∧ x.toInt < R)) := by
  unfold cS_hasRepeat
  have e := nI_toInt (n := R) (by omega)
  rw [h6]
  simp only [li_lt, li_le, li_0, e]
  by_cases h1 : x.toInt < 0
  · exact Or.inr ⟨by rw [if_pos h1], by omega⟩
  · rw [if_neg h1]
    by_cases h2 : (R : Int) ≤ x.toInt
    · exact Or.inr ⟨by rw [if_pos h2], by omega⟩
    · exact Or.inl ⟨by rw [if_neg h2], by omega⟩
theorem en_m33 (M : gs_T) (x y z w s0 s1 : Int32) : mM_ending_j91 62 M x y z w 0 s0 s1 = mM_ending_j111 62 M x y z w s0 s1 0 := by
  unfold mM_ending_j91 mM_ending_j110
  rw [if_pos rfl]
theorem so_ending_ok (G M : gs_T) (h : rl_R G M) : so_ending rl_R G M := by
  obtain ⟨B, R, E, h⟩ := h
  intro x y z w
  have hB := h.1.1.2.1
  have hS := h.1
  have hR := h.1.1.2.2.2.1
  have a1 := en_hasR h.1.1.2.2.1 hR x
  have b1 := ez_hasBar h.1.1.1 hB y
  have b2 := ez_isBar (rl_bar h) hB y
  have c1 := ez_hasBar h.1.1.1 hB z
  have c2 := ez_isBar (rl_bar h) hB z
  have d2 : M.1 2 = nI R := h.2.2.1.2.1.symm.trans h.1.1.2.2.1
  have d3 : M.1 3 = nI E := h.2.2.1.2.2.1.symm.trans h.1.1.2.2.2.2.1
  have eR := nI_toInt (n := R) (by omega)
  have m67 : ∀ s : Int32, (s = 0 → mM_ending_j67 62 M x y z w s = some (0, gs_sv M 0 1)) ∧ (s ≠ 0 → mM_ending_j67 62 M x y z w s = some (0, gs_sv M 0 2)) := by
    intro s
    unfold mM_ending_j67 mM_ending_j68 mM_ending_j81
    constructor
    · intro hs
      rw [if_pos hs, if_pos rfl, en_m33]
      simp [mM_ending_j111, mM_refuses]
    · intro hs
      rw [if_neg hs, if_pos rfl, en_m33]
      simp [mM_ending_j111, mM_refuses]
  by_cases hbars : ((0 ≤ x.toInt ∧ x.toInt < R) ∧ (0 ≤ y.toInt ∧ y.toInt < B)) ∧ (0 ≤ z.toInt ∧ z.toInt < B)
  · have e0 : cS_hasRepeat G x = some 1 := by rcases a1 with h1 | h1; exact h1.1; exact absurd hbars.1.1 h1.2
    have e1 : cS_hasBar G y = some 1 := by rcases b1 with h1 | h1; exact h1.1; exact absurd hbars.1.2 h1.2
    have e2 : mM_isBar M y = some 1 := by rcases b2 with h1 | h1; exact h1.1; exact absurd hbars.1.2 h1.2
    have e3 : cS_hasBar G z = some 1 := by rcases c1 with h1 | h1; exact h1.1; exact absurd hbars.2 h1.2
    have e4 : mM_isBar M z = some 1 := by rcases c2 with h1 | h1; exact h1.1; exact absurd hbars.2 h1.2
    have em : mM_ending 62 M x y z w = mM_ending_j33 62 M x y z w 1 := by
      unfold mM_ending
      rw [d2]
      simp only [li_lt, li_le, li_0, eR]
      rw [if_neg (by omega), if_neg (by omega)]
      simp only [e2, e4, Option.bind_some, if_neg (show ¬ (1 : Int32) = 0 by decide)]
    have ec : cR_ending 62 G x y z w = if z < y then some (.inr 2, G) else (cS_hasPasses G x w).bind fun q4 => if q4 = 0 then some (.inr 2, G) else (cS_takesEnding 62 G x y z).bind fun q5 => if q5 = 0 then some (.inr 0, G) else (cS_addEnding G x y z w).bind fun q6 => some ((.inl q6.1), q6.2) := by
      unfold cR_ending
      simp only [e0, e1, e3, Option.bind_some, if_neg (show ¬ (1 : Int32) = 0 by decide)]
    obtain ⟨r, hr, rfl⟩ : ∃ r, r < R ∧ x = nI r := ⟨x.toInt.toNat, by omega, li_nI (by omega) (by omega)⟩
    obtain ⟨a, ha, rfl⟩ := ez_nb hbars.1.2.1 hbars.1.2.2 hB
    obtain ⟨b, hb, rfl⟩ := ez_nb hbars.2.1 hbars.2.2 hB
    have hrep := h.1.2.1 r hr
    obtain ⟨m, hm, em3⟩ := en_tm hrep.2.2.2.1 hrep.2.2.2.2
    have em4 : M.2 3 r = nI m := by rw [← h.2.2.1.2.2.2.2.2.2.1]; exact em3
    have hpass := en_pass (show r < 20 by omega) hm em3 w
    by_cases hord : nI b < nI a
    · refine ⟨62, 62, G, (0, gs_sv M 0 2), ?_, ⟨B, R, E, rl_thrown 2 h⟩, Or.inr ⟨(2, 2), by simp, ?_, rfl⟩⟩
      · show mM_ending 62 M (nI r) (nI a) (nI b) w = _
        rw [em]
        unfold mM_ending_j33
        rw [if_neg (by decide), if_pos hord]
        exact (m67 1).2 (by decide)
      · show cR_ending 62 G (nI r) (nI a) (nI b) w = _
        rw [ec, if_pos hord]
    · have hab : a ≤ b := by
        have := nI_ltI (a := b) (b := a) (by omega) (by omega)
        by_cases hlt : b < a
        · exact absurd (this.mpr hlt) hord
        · omega
      have em5 : (¬ (0 < w.toInt ∧ w.toInt < 2 ^ m) → mM_ending_j33 62 M (nI r) (nI a) (nI b) w 1 = mM_ending_j67 62 M (nI r) (nI a) (nI b) w 1) ∧ ((0 < w.toInt ∧ w.toInt < 2 ^ m) → mM_ending_j33 62 M (nI r) (nI a) (nI b) w 1 = mM_ending_j68 62 M (nI r) (nI a) (nI b) w 1 1) := by
        unfold mM_ending_j33
        rw [if_neg (by decide), if_neg hord]
        simp only [li_le, li_0, ck_nI _ (show r < 20 by omega) (show 20 < 2 ^ 31 by decide), ga_nI _ _ (show r < 2 ^ 31 by omega), em4, en_shl hm]
        by_cases h1 : w.toInt ≤ 0
        · rw [if_pos h1]
          exact ⟨fun _ => rfl, fun h2 => by omega⟩
        · rw [if_neg h1]
          by_cases h2 : 2 ^ m ≤ w.toInt
          · rw [if_pos h2]
            exact ⟨fun _ => rfl, fun h3 => by omega⟩
          · rw [if_neg h2]
            exact ⟨fun h3 => absurd ⟨by omega, by omega⟩ h3, fun _ => rfl⟩
      rcases hpass with ⟨p1, p2⟩ | ⟨p1, p2⟩
      · have h16 : (2 : Int) ^ m ≤ 16 := by rcases hm with rfl | rfl | rfl <;> decide
        obtain ⟨p, hp, rfl⟩ : ∃ p : Nat, (0 < p ∧ p < 16) ∧ w = nI p := ⟨w.toInt.toNat, by omega, li_nI (by omega) (by omega)⟩
        have em6 : mM_ending 62 M (nI r) (nI a) (nI b) (nI p) = (mM_mayEnd 62 M (nI r) (nI a) (nI b)).bind fun q1 => if q1 = 0 then mM_ending_j111 62 M (nI r) (nI a) (nI b) (nI p) 0 0 1 else mM_ending_j111 62 M (nI r) (nI a) (nI b) (nI p) 0 0 0 := by
          rw [em, em5.2 p2]
          simp only [mM_ending_j68, mM_ending_j81, mM_ending_j91, mM_ending_j110, if_neg (show ¬ (1 : Int32) = 0 by decide)]
        have tG := en_takes hS 62 (by omega) hr (show a < 60 by omega) (show b < 60 by omega)
        have tM := en_may d2 hS.1.2.2.2.1 d3 hS.1.2.2.2.2.2 62 (by omega) hr (show a < 60 by omega) (show b < 60 by omega)
        rw [← h.2.2.1.2.2.2.2.1, ← h.2.2.1.2.2.2.2.2.1, ← h.2.2.1.2.2.2.2.2.2.2.2.1, ← h.2.2.1.2.2.2.2.2.2.2.2.2.1] at tM
        rcases tG with ⟨g1, g2⟩ | ⟨g1, g2⟩ <;> rcases tM with ⟨m1, m2⟩ | ⟨m1, m2⟩
        · obtain ⟨G', g3, g4⟩ := en_add h hr hab hb hp g2
          refine ⟨62, 62, G', (nI E, _), ?_, ⟨B, R, E + 1, g4⟩, Or.inl ⟨?_, rfl⟩⟩
          · show mM_ending 62 M (nI r) (nI a) (nI b) (nI p) = _
            have hE20 := g2.2.2.2
            rw [em6, m1]
            simp only [Option.bind_some, if_neg (show ¬ (1 : Int32) = 0 by decide), mM_ending_j111, mM_refuses, reduceIte, sv_1, Nat.reduceEqDiff, d3, ck_nI _ hE20 (show 20 < 2 ^ 31 by decide), ← nI_succ, nI_pred]
            rfl
          · show cR_ending 62 G (nI r) (nI a) (nI b) (nI p) = _
            rw [ec, if_neg hord, p1]
            simp only [Option.bind_some, if_neg (show ¬ (1 : Int32) = 0 by decide), g1, g3]
        · exact absurd g2 m2
        · exact absurd m2 g2
        · refine ⟨62, 62, G, (0, gs_sv M 0 3), ?_, ⟨B, R, E, rl_thrown 3 h⟩, Or.inr ⟨(0, 3), by simp, ?_, rfl⟩⟩
          · show mM_ending 62 M (nI r) (nI a) (nI b) (nI p) = _
            rw [em6, m1]
            simp [mM_ending_j111, mM_refuses]
          · show cR_ending 62 G (nI r) (nI a) (nI b) (nI p) = _
            rw [ec, if_neg hord, p1]
            simp [g1]
      · refine ⟨62, 62, G, (0, gs_sv M 0 2), ?_, ⟨B, R, E, rl_thrown 2 h⟩, Or.inr ⟨(2, 2), by simp, ?_, rfl⟩⟩
        · show mM_ending 62 M (nI r) (nI a) (nI b) w = _
          rw [em, em5.1 p2]
          exact (m67 1).2 (by decide)
        · show cR_ending 62 G (nI r) (nI a) (nI b) w = _
          rw [ec, if_neg hord, p1]
          simp
  · refine ⟨62, 62, G, (0, gs_sv M 0 1), ?_, ⟨B, R, E, rl_thrown 1 h⟩, Or.inr ⟨(1, 1), by simp, ?_, rfl⟩⟩
    · show mM_ending 62 M x y z w = _
      have e : mM_ending 62 M x y z w = mM_ending_j33 62 M x y z w 0 := by
        unfold mM_ending mM_ending_j32
        by_cases q1 : x < 0
        · rw [if_pos q1]
        · rw [if_neg q1]
          by_cases q2 : M.1 2 ≤ x
          · rw [if_pos q2]
          · rw [if_neg q2]
            rw [d2, li_le, eR] at q2
            rw [li_lt, li_0] at q1
            have hx : 0 ≤ x.toInt ∧ x.toInt < R := ⟨by omega, by omega⟩
            rcases b2 with ⟨e2, h2⟩ | ⟨e2, h2⟩
            · rcases c2 with ⟨e4, h4⟩ | ⟨e4, h4⟩
              · exact absurd ⟨⟨hx, h2⟩, h4⟩ hbars
              · rw [e2, e4, Option.bind_some, if_neg (by decide), Option.bind_some, if_pos rfl]
            · rw [e2, Option.bind_some, if_pos rfl]
      rw [e]
      unfold mM_ending_j33
      rw [if_pos rfl]
      exact (m67 0).1 rfl
    · show cR_ending 62 G x y z w = _
      unfold cR_ending
      rcases a1 with ⟨e0, h0⟩ | ⟨e0, h0⟩
      · rcases b1 with ⟨e1, h1⟩ | ⟨e1, h1⟩
        · rcases c1 with ⟨e3, h3⟩ | ⟨e3, h3⟩
          · exact absurd ⟨⟨h0, h1⟩, h3⟩ hbars
          · simp only [e0, e1, e3, Option.bind_some, if_neg (show ¬ (1 : Int32) = 0 by decide), reduceIte]
        · simp only [e0, e1, Option.bind_some, if_neg (show ¬ (1 : Int32) = 0 by decide), reduceIte]
      · simp only [e0, Option.bind_some, reduceIte]
