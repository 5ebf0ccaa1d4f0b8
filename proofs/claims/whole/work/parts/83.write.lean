/-! ===== own: fold: the items are written, on both sides ===== -/
def fw_p : List (Nat × Nat) → Nat
  | [] => 0
  | q :: l => fw_p l + (if q.2 = 0 then 1 else 3 * q.2 - 1)
def fw_q : List (Nat × Nat) → Nat
  | [] => 0
  | q :: l => fw_q l + (if q.2 = 0 then 1 else 2 * q.2 - 1)
def fw_k (N : Nat) (f g h i : Nat → Int32) : List (Nat × Nat) → Prop
  | [] => True
  | q :: l => (f l.length = nI q.1 ∧ g l.length = nI q.2 ∧ h l.length = nI q.1 ∧ i l.length = nI q.2 ∧ q.1 + q.2 ≤ N) ∧ fw_k N f g h i l
theorem fw_len : ∀ l : List (Nat × Nat), l.length ≤ fw_p l
  | [] => Nat.le_refl 0
  | q :: l => by
    have := fw_len l
    rw [List.length_cons, fw_p]
    split <;> omega
theorem fw_congr {N : Nat} {f g h i f' g' h' i' : Nat → Int32} : ∀ l : List (Nat × Nat), (∀ j, j < l.length → f' j = f j ∧ g' j = g j ∧ h' j = h j ∧ i' j = i j) → fw_k N f g h i l → fw_k N f' g' h' i' l
  | [], _, _ => trivial
  | q :: l, hj, hk => by
    have h1 := hj l.length (by rw [List.length_cons]; omega)
    refine ⟨?_, fw_congr l (fun j hl => hj j (by rw [List.length_cons]; omega)) hk.2⟩
    rw [h1.1, h1.2.1, h1.2.2.1, h1.2.2.2]
    exact hk.1
theorem fw_put {G : gs_T} {w : Nat} (x y : Int32) (h : G.1 10 = nI w) (hw : w < 160) : cT_putAside G x y = some (gs_sv (gs_sa (gs_sa G 27 (nI w) x) 28 (nI w) y) 10 (nI (w + 1))) := by
  have hge : ¬ (160 : Int32) ≤ nI w := nI_ge (b := 160) hw (by decide)
  unfold cT_putAside
  rw [h, if_neg hge, ck_nI _ hw (by decide), ck_nI _ hw (by decide), nI_succ]
theorem fw_add {G : gs_T} {I : Nat} (x y : Int32) (h : G.1 11 = nI I) (hw : I < 80) : cT_addItem G x y = some (gs_sv (gs_sa (gs_sa G 29 (nI I) x) 30 (nI I) y) 11 (nI (I + 1))) := by
  have hge : ¬ (80 : Int32) ≤ nI I := nI_ge (b := 80) hw (by decide)
  unfold cT_addItem
  rw [h, if_neg hge, ck_nI _ hw (by decide), ck_nI _ hw (by decide), nI_succ]
theorem fw_item {G : gs_T} {I : Nat} (x y : Int32) (h : G.1 11 = nI I) (hw : I < 200) : mM_item G x y = some (gs_sv (gs_sa (gs_sa G 24 (nI I) x) 25 (nI I) y) 11 (nI (I + 1))) := by
  unfold mM_item
  rw [h, ck_nI _ hw (by decide), ck_nI _ hw (by decide), nI_succ]
/-- the two sides while items are written -/
def fw_I (G0 M0 G M : gs_T) (N I : Nat) (l : List (Nat × Nat)) : Prop :=
  (∀ q, q < 27 → G.2 q = G0.2 q) ∧ (∀ q, q < 10 → G.1 q = G0.1 q) ∧ (∀ q, q < 24 → M.2 q = M0.2 q) ∧ (∀ q, q < 11 → M.1 q = M0.1 q) ∧
  G.1 10 = nI l.length ∧ G.1 11 = nI I ∧ M.1 11 = nI I ∧ G.1 12 = M.1 12 ∧ G.2 29 = M.2 24 ∧ G.2 30 = M.2 25 ∧ fw_k N (G.2 27) (G.2 28) (M.2 26) (M.2 27) l
theorem fw_neg {f : Nat} (hf : f < 10000) : (-nI f).toInt = -(f : Int) := by
  have e := nI_toInt (n := f) (by omega)
  rw [li_neg, e]
  rw [e]; omega
/-- a bar, on both sides -/
theorem fw_s1 {G0 M0 G M : gs_T} {N I : Nat} {a z : Nat} {l : List (Nat × Nat)} (hI : fw_I G0 M0 G M N I ((a, z) :: l)) (x y u : Int32) :
    fw_I G0 M0 (gs_sv (gs_sv (gs_sa (gs_sa (gs_sv G 10 (nI l.length)) 29 (nI I) x) 30 (nI I) y) 11 (nI (I + 1))) 12 u) (gs_sv (gs_sv (gs_sa (gs_sa M 24 (nI I) x) 25 (nI I) y) 11 (nI (I + 1))) 12 u) N (I + 1) l := by
  obtain ⟨h1, h2, h3, h4, h5, h6, h7, h8, h9, h10, h11⟩ := hI
  refine ⟨fun q hq => ?_, fun q hq => ?_, fun q hq => ?_, fun q hq => ?_, rfl, rfl, rfl, rfl, ?_, ?_, h11.2⟩
  · simp only [sv_2, sa_2, if_neg (show ¬ q = 29 by omega), if_neg (show ¬ q = 30 by omega)]
    exact h1 q hq
  · simp only [sv_1, sa_1, if_neg (show ¬ q = 10 by omega), if_neg (show ¬ q = 11 by omega), if_neg (show ¬ q = 12 by omega)]
    exact h2 q hq
  · simp only [sv_2, sa_2, if_neg (show ¬ q = 24 by omega), if_neg (show ¬ q = 25 by omega)]
    exact h3 q hq
  · simp only [sv_1, sa_1, if_neg (show ¬ q = 11 by omega), if_neg (show ¬ q = 12 by omega)]
    exact h4 q hq
  · simp only [sv_2, sa_2, reduceIte, Nat.reduceEqDiff, h9]
  · simp only [sv_2, sa_2, reduceIte, Nat.reduceEqDiff, h10]
/-- a sign that ends, on both sides -/
theorem fw_s0 {G0 M0 G M : gs_T} {N I : Nat} {a z : Nat} {l : List (Nat × Nat)} (hI : fw_I G0 M0 G M N I ((a, z) :: l)) (x y : Int32) :
    fw_I G0 M0 (gs_sv (gs_sa (gs_sa (gs_sv G 10 (nI l.length)) 29 (nI I) x) 30 (nI I) y) 11 (nI (I + 1))) (gs_sv (gs_sa (gs_sa M 24 (nI I) x) 25 (nI I) y) 11 (nI (I + 1))) N (I + 1) l := by
  obtain ⟨h1, h2, h3, h4, h5, h6, h7, h8, h9, h10, h11⟩ := hI
  refine ⟨fun q hq => ?_, fun q hq => ?_, fun q hq => ?_, fun q hq => ?_, rfl, rfl, rfl, h8, ?_, ?_, h11.2⟩
  · simp only [sv_2, sa_2, if_neg (show ¬ q = 29 by omega), if_neg (show ¬ q = 30 by omega)]
    exact h1 q hq
  · simp only [sv_1, sa_1, if_neg (show ¬ q = 10 by omega), if_neg (show ¬ q = 11 by omega)]
    exact h2 q hq
  · simp only [sv_2, sa_2, if_neg (show ¬ q = 24 by omega), if_neg (show ¬ q = 25 by omega)]
    exact h3 q hq
  · simp only [sv_1, sa_1, if_neg (show ¬ q = 11 by omega)]
    exact h4 q hq
  · simp only [sv_2, sa_2, reduceIte, Nat.reduceEqDiff, h9]
  · simp only [sv_2, sa_2, reduceIte, Nat.reduceEqDiff, h10]
/-- two parts are put aside, on both sides -/
theorem fw_s2 {G0 M0 G M : gs_T} {N I : Nat} {l : List (Nat × Nat)} {g10 : Int32} {a1 z1 a2 z2 : Nat} (hl : l.length < 10000) (hI : fw_I G0 M0 (gs_sv G 10 (nI l.length)) M N I l) (hz1 : a1 + z1 ≤ N) (hz2 : a2 + z2 ≤ N) :
    fw_I G0 M0 (gs_sv (gs_sa (gs_sa (gs_sv (gs_sa (gs_sa G 27 (nI l.length) (nI a2)) 28 (nI l.length) (nI z2)) 10 g10) 27 (nI (l.length + 1)) (nI a1)) 28 (nI (l.length + 1)) (nI z1)) 10 (nI (l.length + 2)))
      (gs_sa (gs_sa (gs_sa (gs_sa M 26 (nI l.length) (nI a2)) 27 (nI l.length) (nI z2)) 26 (nI (l.length + 1)) (nI a1)) 27 (nI (l.length + 1)) (nI z1)) N I ((a1, z1) :: (a2, z2) :: l) := by
  obtain ⟨h1, h2, h3, h4, h5, h6, h7, h8, h9, h10, h11⟩ := hI
  have c1 : (nI l.length).toNatClampNeg = l.length := nI_clamp (by omega)
  have c2 : (nI (l.length + 1)).toNatClampNeg = l.length + 1 := nI_clamp (by omega)
  refine ⟨fun q hq => ?_, fun q hq => ?_, fun q hq => ?_, fun q hq => ?_, rfl, h6, h7, h8, h9, h10, ?_⟩
  · simp only [sv_2, sa_2, if_neg (show ¬ q = 27 by omega), if_neg (show ¬ q = 28 by omega)]
    exact h1 q hq
  · have := h2 q hq
    simp only [sv_1, sa_1, if_neg (show ¬ q = 10 by omega)] at this ⊢
    exact this
  · simp only [sa_2, if_neg (show ¬ q = 26 by omega), if_neg (show ¬ q = 27 by omega)]
    exact h3 q hq
  · exact h4 q hq
  · have e : fw_k N (upd (upd (G.2 27) l.length (nI a2)) (l.length + 1) (nI a1)) (upd (upd (G.2 28) l.length (nI z2)) (l.length + 1) (nI z1)) (upd (upd (M.2 26) l.length (nI a2)) (l.length + 1) (nI a1)) (upd (upd (M.2 27) l.length (nI z2)) (l.length + 1) (nI z1)) ((a1, z1) :: (a2, z2) :: l) := by
      refine ⟨⟨?_, ?_, ?_, ?_, hz1⟩, ⟨?_, ?_, ?_, ?_, hz2⟩, fw_congr l (fun j hj => ?_) h11⟩
      · exact ud_s _ _ _
      · exact ud_s _ _ _
      · exact ud_s _ _ _
      · exact ud_s _ _ _
      · rw [ud_n _ _ (by omega)]; exact ud_s _ _ _
      · rw [ud_n _ _ (by omega)]; exact ud_s _ _ _
      · rw [ud_n _ _ (by omega)]; exact ud_s _ _ _
      · rw [ud_n _ _ (by omega)]; exact ud_s _ _ _
      · rw [ud_n _ _ (by omega), ud_n _ _ (by omega), ud_n _ _ (by omega), ud_n _ _ (by omega), ud_n _ _ (by omega), ud_n _ _ (by omega), ud_n _ _ (by omega), ud_n _ _ (by omega)]
        exact ⟨rfl, rfl, rfl, rfl⟩
    simp only [sv_2, sa_2, reduceIte, Nat.reduceEqDiff, c1, c2]
    exact e
theorem fw_loop (n : Nat) {N : Nat} (hN : N ≤ 40) {G0 M0 : gs_T} (hrow : ∀ k, k < N → G0.2 23 k = M0.2 20 k) (hD : ∀ a z, 1 ≤ z → a + z ≤ N → fb_D G0 M0 a z) :
    ∀ (p k km t I : Nat) (l : List (Nat × Nat)) (G M : gs_T), fw_p l ≤ p → t + fw_p l ≤ 119 → I + fw_q l ≤ 79 → p < k → p < km → fw_I G0 M0 G M N I l →
      ∃ (G' M' : gs_T) (I' : Nat), cT_writeItems_23 n k (nI t) G = some G' ∧ mM_write_16 n km (nI l.length) M = some M' ∧ I' ≤ 79 ∧ fw_I G0 M0 G' M' N I' [] := by
  intro p
  induction p with
  | zero =>
    intro k km t I l G M hp ht hq hk hkm hI
    obtain ⟨k, rfl⟩ : ∃ q, k = q + 1 := ⟨k - 1, by omega⟩
    obtain ⟨km, rfl⟩ : ∃ q, km = q + 1 := ⟨km - 1, by omega⟩
    have hlen := fw_len l
    have hl0 : l = [] := List.eq_nil_of_length_eq_zero (by omega)
    subst hl0
    have h10 : G.1 10 = nI 0 := hI.2.2.2.2.1
    have h160 : ¬ (160 : Int32) ≤ nI t := nI_ge (b := 160) (by omega) (by decide)
    refine ⟨G, M, I, ?_, ?_, by omega, hI⟩
    · rw [cT_writeItems_23, if_neg h160, h10, if_pos (by decide)]
    · rw [mM_write_16, if_pos (show nI ([] : List (Nat × Nat)).length ≤ 0 by decide)]
  | succ p ih =>
    intro k km t I l G M hp ht hq hk hkm hI
    obtain ⟨k, rfl⟩ : ∃ q, k = q + 1 := ⟨k - 1, by omega⟩
    obtain ⟨km, rfl⟩ : ∃ q, km = q + 1 := ⟨km - 1, by omega⟩
    have hlen := fw_len l
    have h160 : ¬ (160 : Int32) ≤ nI t := nI_ge (b := 160) (by omega) (by decide)
    cases l with
    | nil =>
      have h10 : G.1 10 = nI 0 := hI.2.2.2.2.1
      refine ⟨G, M, I, ?_, ?_, by omega, hI⟩
      · rw [cT_writeItems_23, if_neg h160, h10, if_pos (by decide)]
      · rw [mM_write_16, if_pos (show nI ([] : List (Nat × Nat)).length ≤ 0 by decide)]
    | cons az l =>
      obtain ⟨a, z⟩ := az
      obtain ⟨h1, h2, h3, h4, h5, h6, h7, h8, h9, h10, h11⟩ := id hI
      obtain ⟨⟨f1, f2, f3, f4, f5⟩, f6⟩ := h11
      rw [List.length_cons] at hlen h5
      rw [List.length_cons]
      simp only at f1 f2 f3 f4 f5
      have hw0 : l.length < 119 := by omega
      have hw : l.length < 160 := by omega
      have hnle : ¬ nI (l.length + 1) ≤ 0 := nI_nle (by omega) (by omega)
      have k200 : ∀ (q : Nat) (t : Option gs_T), q < 200 → gs_ck (nI q) 200 t = t := fun q t hq => ck_nI t hq (by decide)
      have k1640 : ∀ (q : Nat) (t : Option gs_T), q < 1640 → gs_ck (nI q) 1640 t = t := fun q t hq => ck_nI t hq (by decide)
      have k1681 : ∀ (q : Nat) (t : Option gs_T), q < 1640 → gs_ck (nI q) 1681 t = t := fun q t hq => ck_nI t (by omega) (by decide)
      have k160 : ∀ (q : Nat) (t : Option gs_T), q < 160 → gs_ck (nI q) 160 t = t := fun q t hq => ck_nI t hq (by decide)
      have k40 : ∀ (q : Nat) (t : Option gs_T), q < 40 → gs_ck (nI q) 40 t = t := fun q t hq => ck_nI t hq (by decide)
      have g27 : gs_a G 27 (nI l.length) = nI a := by rw [ga_nI _ _ (by omega), f1]
      have g28 : gs_a G 28 (nI l.length) = nI z := by rw [ga_nI _ _ (by omega), f2]
      have m26 : gs_a M 26 (nI l.length) = nI a := by rw [ga_nI _ _ (by omega), f3]
      have m27 : gs_a M 27 (nI l.length) = nI z := by rw [ga_nI _ _ (by omega), f4]
      have eC : ∀ Gq : gs_T, cT_writePart (gs_sv G 10 (nI l.length)) (nI a) (nI z) = some Gq → cT_writeItems_23 n (k + 1) (nI t) G = cT_writeItems_23 n k (nI (t + 1)) Gq := by
        intro Gq hq
        rw [cT_writeItems_23, if_neg h160, h5, if_neg hnle, nI_pred, k160 _ _ hw, k160 _ _ hw, g27, g28, hq, Option.bind_some, ← nI_succ]
      have hI0 : fw_I G0 M0 (gs_sv G 10 (nI l.length)) M N I l := by
        refine ⟨h1, fun q hq => ?_, h3, h4, rfl, h6, h7, h8, h9, h10, f6⟩
        rw [sv_1, if_neg (by omega)]
        exact h2 q hq
      rw [fw_p] at hp ht
      rw [fw_q] at hq
      simp only at hp ht hq
      by_cases hz0 : z = 0
      · -- the end of a group
        subst hz0
        rw [if_pos rfl] at hp ht hq
        have hIl := fw_s0 hI 2 0
        obtain ⟨G', M', I', r1, r2, r3, r4⟩ := ih k km (t + 1) (I + 1) l _ _ (by omega) (by omega) (by omega) (by omega) (by omega) hIl
        refine ⟨G', M', I', ?_, ?_, r3, r4⟩
        · rw [eC _ (by rw [cT_writePart, if_pos (show nI 0 = 0 by decide), fw_add (G := gs_sv G 10 (nI l.length)) (I := I) 2 0 h6 (by omega), Option.bind_some])]
          exact r1
        · rw [mM_write_16, if_neg hnle, nI_dec, k200 _ _ (by omega), k200 _ _ (by omega), m27, if_pos (show nI 0 = 0 by decide), fw_item 2 0 h7 (by omega), Option.bind_some]
          exact r2
      · have hcell := fa_cell (gs_sv G 10 (nI l.length)) (show a < 60 by omega) (show z < 60 by omega)
        have hz0' : ¬ nI z = 0 := nI_ne0 (by omega) (by omega)
        rw [if_neg hz0] at hp ht hq
        have hc : 41 * a + z < 1640 := by omega
        have g26 : gs_a (gs_sv G 10 (nI l.length)) 26 (nI (41 * a + z)) = G0.2 26 (41 * a + z) := by
          rw [ga_nI _ _ (by omega), sv_2, h1 26 (by omega)]
        have m22 : gs_a M 22 (nI (41 * a + z)) = M0.2 22 (41 * a + z) := by rw [ga_nI _ _ (by omega), h3 22 (by omega)]
        have m23 : gs_a M 23 (nI (41 * a + z)) = M0.2 23 (41 * a + z) := by rw [ga_nI _ _ (by omega), h3 23 (by omega)]
        have hix : (41 : Int32) * nI a + nI z = nI (41 * a + z) := by rw [fb_41 (by omega), nI_add]
        have hw1 : nI l.length + 1 = nI (l.length + 1) := (nI_succ _).symm
        have hw2 : nI l.length + 2 = nI (l.length + 2) := nI_add l.length 2
        rcases (hD a z (by omega) f5).2 with ⟨d1, d2⟩ | ⟨d1, ⟨b, b1, b2, b3, b4⟩ | ⟨f, b1, b2, b3, b4, b5⟩⟩
        · -- a bar
          subst d1
          have g23 : gs_a (gs_sv G 10 (nI l.length)) 23 (nI a) = M0.2 20 a := by rw [ga_nI _ _ (by omega), sv_2, h1 23 (by omega), hrow a (by omega)]
          have m20 : gs_a M 20 (nI a) = M0.2 20 a := by rw [ga_nI _ _ (by omega), h3 20 (by omega)]
          have hIl := fw_s1 hI 0 (M0.2 20 a) (M.1 12 + 1)
          obtain ⟨G', M', I', r1, r2, r3, r4⟩ := ih k km (t + 1) (I + 1) l _ _ (by omega) (by omega) (by omega) (by omega) (by omega) hIl
          refine ⟨G', M', I', ?_, ?_, r3, r4⟩
          · rw [eC _ (by
              rw [cT_writePart, if_neg hz0', hcell, Option.bind_some, k1681 _ _ hc, g26, d2, if_pos (show (0 : Int32) ≤ 0 by decide), if_pos (show (0 : Int32) ≤ 0 by decide), k40 _ _ (by omega), g23, fw_add (G := gs_sv G 10 (nI l.length)) (I := I) 0 (M0.2 20 a) h6 (by omega), Option.bind_some, show (gs_sv (gs_sa (gs_sa (gs_sv G 10 (nI l.length)) 29 (nI I) 0) 30 (nI I) (M0.2 20 a)) 11 (nI (I + 1))).1 12 = M.1 12 from h8])]
            exact r1
          · rw [mM_write_16, if_neg hnle, nI_dec, k200 _ _ (by omega), k200 _ _ (by omega), m27, if_neg hz0', if_pos (show nI 1 = 1 by decide), m26, k40 _ _ (by omega), m20, fw_item 0 (M0.2 20 a) h7 (by omega), Option.bind_some]
            exact r2
        · -- a group that is written once
          have hz1' : ¬ nI z = 1 := fun h => by
            have := (nI_eq (a := z) (b := 1) (by omega) (by omega)).mp h
            omega
          have hb0 : ¬ nI b = 0 := nI_ne0 (by omega) (by omega)
          have hbp : ¬ nI b ≤ 0 := nI_nle (by omega) (by omega)
          have hIa : fw_I G0 M0 (gs_sv (gs_sv (gs_sa (gs_sa (gs_sv G 10 (nI l.length)) 29 (nI I) 1) 30 (nI I) (nI z / nI b)) 11 (nI (I + 1))) 10 (nI l.length)) (gs_sv (gs_sa (gs_sa M 24 (nI I) 1) 25 (nI I) (nI z / nI b)) 11 (nI (I + 1))) N (I + 1) l := by
            obtain ⟨e1, e2, e3, e4, e5, e6, e7, e8, e9, e10, e11⟩ := fw_s0 hI 1 (nI z / nI b)
            refine ⟨e1, fun q hq => ?_, e3, e4, rfl, e6, e7, e8, e9, e10, e11⟩
            rw [sv_1, if_neg (by omega)]
            exact e2 q hq
          have hIl := fw_s2 (l := l) (g10 := nI (l.length + 1)) (a1 := a) (z1 := b) (a2 := a) (z2 := 0) (by omega) hIa (by omega) (by omega)
          obtain ⟨G', M', I', r1, r2, r3, r4⟩ := ih k km (t + 1) (I + 1) ((a, b) :: (a, 0) :: l) _ _ (by simp only [fw_p, reduceIte]; split <;> omega) (by simp only [fw_p, reduceIte]; split <;> omega) (by simp only [fw_q, reduceIte]; split <;> omega) (by omega) (by omega) hIl
          refine ⟨G', M', I', ?_, ?_, r3, r4⟩
          · rw [eC _ (by
              rw [cT_writePart, if_neg hz0', hcell, Option.bind_some, k1681 _ _ hc, g26, b3, if_neg hbp, gs_nz, if_neg hb0, fw_add (G := gs_sv G 10 (nI l.length)) (I := I) 1 (nI z / nI b) h6 (by omega), Option.bind_some, fw_put (G := gs_sv (gs_sa (gs_sa (gs_sv G 10 (nI l.length)) 29 (nI I) 1) 30 (nI I) (nI z / nI b)) 11 (nI (I + 1))) (w := l.length) (nI a) 0 rfl hw, Option.bind_some, fw_put (G := gs_sv (gs_sa (gs_sa (gs_sv (gs_sa (gs_sa (gs_sv G 10 (nI l.length)) 29 (nI I) 1) 30 (nI I) (nI z / nI b)) 11 (nI (I + 1))) 27 (nI l.length) (nI a)) 28 (nI l.length) 0) 10 (nI (l.length + 1))) (w := l.length + 1) (nI a) (nI b) rfl (by omega), Option.bind_some])]
            exact r1
          · rw [mM_write_16, if_neg hnle, nI_dec, k200 _ _ (by omega), k200 _ _ (by omega), m27, if_neg hz0', if_neg hz1', m26, hix, k1640 _ _ hc, m22, b4, if_neg hbp, k1640 _ _ hc, gs_nz, if_neg hb0, fw_item 1 (nI z / nI b) h7 (by omega), Option.bind_some, k200 _ _ (by omega), k200 _ _ (by omega), hw1, k200 _ _ (by omega), k1640 _ _ hc, k200 _ _ (by omega), hw2, show gs_a (gs_sv (gs_sa (gs_sa M 24 (nI I) 1) 25 (nI I) (nI z / nI b)) 11 (nI (I + 1))) 22 (nI (41 * a + z)) = nI b from m22.trans b4]
            exact r2
        · -- two parts
          have hz1' : ¬ nI z = 1 := fun h => by
            have := (nI_eq (a := z) (b := 1) (by omega) (by omega)).mp h
            omega
          have ef := nI_toInt (n := f) (by omega)
          have ea := nI_toInt (n := a) (by omega)
          have ez := nI_toInt (n := z) (by omega)
          have en := fw_neg (f := f) (by omega)
          have hle1 : -nI f ≤ 0 := by rw [li_le, en, li_0]; omega
          have hle2 : ¬ (0 : Int32) ≤ -nI f := by rw [li_le, en, li_0]; omega
          have s1 : nI a - -nI f = nI (a + f) := by
            refine li_nI (by omega) ?_
            rw [li_sub] <;> rw [ea, en] <;> omega
          have s2 : nI z + -nI f = nI (z - f) := by
            refine li_nI (by omega) ?_
            rw [li_add] <;> rw [ez, en] <;> omega
          have s3 : - -nI f = nI f := by
            refine li_nI (by omega) ?_
            rw [li_neg] <;> rw [en] <;> omega
          have s4 : nI a + nI f = nI (a + f) := nI_add a f
          have s5 : nI z - nI f = nI (z - f) := fb_sub (by omega) (by omega)
          have hIl := fw_s2 (l := l) (G := gs_sv G 10 (nI l.length)) (g10 := nI (l.length + 1)) (a1 := a) (z1 := f) (a2 := a + f) (z2 := z - f) (by omega) (by
            refine ⟨h1, fun q hq => ?_, h3, h4, rfl, h6, h7, h8, h9, h10, f6⟩
            rw [sv_1, if_neg (by omega), sv_1, if_neg (by omega)]
            exact h2 q hq) (show a + f ≤ N by omega) (show a + f + (z - f) ≤ N by omega)
          obtain ⟨G', M', I', r1, r2, r3, r4⟩ := ih k km (t + 1) I ((a, f) :: (a + f, z - f) :: l) _ _ (by simp only [fw_p]; split <;> split <;> omega) (by simp only [fw_p]; split <;> split <;> omega) (by simp only [fw_q]; split <;> split <;> omega) (by omega) (by omega) hIl
          refine ⟨G', M', I', ?_, ?_, r3, r4⟩
          · rw [eC _ (by
              rw [cT_writePart, if_neg hz0', hcell, Option.bind_some, k1681 _ _ hc, g26, b3, if_pos hle1, if_neg hle2, s1, s2, s3, fw_put (G := gs_sv G 10 (nI l.length)) (w := l.length) (nI (a + f)) (nI (z - f)) rfl hw, Option.bind_some, fw_put (G := gs_sv (gs_sa (gs_sa (gs_sv G 10 (nI l.length)) 27 (nI l.length) (nI (a + f))) 28 (nI l.length) (nI (z - f))) 10 (nI (l.length + 1))) (w := l.length + 1) (nI a) (nI f) rfl (by omega), Option.bind_some])]
            exact r1
          · rw [mM_write_16, if_neg hnle, nI_dec, k200 _ _ (by omega), k200 _ _ (by omega), m27, if_neg hz0', if_neg hz1', m26, hix, k1640 _ _ hc, m22, b4, if_pos (show (0 : Int32) ≤ 0 by decide), k1640 _ _ hc, k200 _ _ (by omega), k1640 _ _ hc, k200 _ _ (by omega), hw1, k200 _ _ (by omega), k1640 _ _ hc, k200 _ _ (by omega), hw2, m23, b5, s4, s5]
            exact r2
/-- all items of a row -/
theorem fw_all (n : Nat) (hn : 200 < n) {N : Nat} (hN : N ≤ 40) (h1N : 1 ≤ N) {G M : gs_T} (hrow : ∀ k, k < N → G.2 23 k = M.2 20 k) (hD : ∀ a z, 1 ≤ z → a + z ≤ N → fb_D G M a z) (h29 : G.2 29 = M.2 24) (h30 : G.2 30 = M.2 25) :
    ∃ G' M' : gs_T, cT_writeItems n G (nI N) = some G' ∧ mM_write n (gs_sv (gs_sv M 11 (0 : Int32)) 12 (0 : Int32)) (nI N) = some M' ∧ (∀ q, q < 27 → G'.2 q = G.2 q) ∧ (∀ q, q < 10 → G'.1 q = G.1 q) ∧ (∀ q, q < 24 → M'.2 q = M.2 q) ∧ (∀ q, q < 11 → M'.1 q = M.1 q) ∧ rl_F G' M' := by
  have c0 : (nI 0).toNatClampNeg = 0 := by decide
  have c0' : (0 : Int32).toNatClampNeg = 0 := by decide
  have hI : fw_I G M (gs_sv (gs_sa (gs_sa (gs_sv (gs_sv (gs_sv G 11 0) 12 0) 10 0) 27 (nI 0) 0) 28 (nI 0) (nI N)) 10 (nI (0 + 1))) (gs_sa (gs_sa (gs_sv (gs_sv M 11 0) 12 0) 26 0 0) 27 0 (nI N)) N 0 [(0, N)] := by
    refine ⟨fun q hq => ?_, fun q hq => ?_, fun q hq => ?_, fun q hq => ?_, rfl, rfl, rfl, rfl, h29, h30, ⟨?_, ?_, ?_, ?_, by show 0 + N ≤ N; omega⟩, trivial⟩
    · simp only [sv_2, sa_2, if_neg (show ¬ q = 27 by omega), if_neg (show ¬ q = 28 by omega)]
    · simp only [sv_1, sa_1, if_neg (show ¬ q = 10 by omega), if_neg (show ¬ q = 11 by omega), if_neg (show ¬ q = 12 by omega)]
    · simp only [sv_2, sa_2, if_neg (show ¬ q = 26 by omega), if_neg (show ¬ q = 27 by omega)]
    · simp only [sv_1, sa_1, if_neg (show ¬ q = 11 by omega), if_neg (show ¬ q = 12 by omega)]
    · simp only [sv_2, sa_2, reduceIte, Nat.reduceEqDiff, c0, List.length_nil, ud_s]
      rfl
    · simp only [sv_2, sa_2, reduceIte, Nat.reduceEqDiff, c0, List.length_nil, ud_s]
    · simp only [sv_2, sa_2, reduceIte, Nat.reduceEqDiff, c0', List.length_nil, ud_s]
      rfl
    · simp only [sv_2, sa_2, reduceIte, Nat.reduceEqDiff, c0', List.length_nil, ud_s]
  obtain ⟨G', M', I', r1, r2, r3, r4⟩ := fw_loop n hN hrow hD 119 n n 0 0 [(0, N)] _ _ (by simp only [fw_p]; split <;> omega) (by simp only [fw_p]; split <;> omega) (by simp only [fw_q]; split <;> omega) (by omega) (by omega) hI
  obtain ⟨e1, e2, e3, e4, e5, e6, e7, e8, e9, e10, e11⟩ := r4
  refine ⟨G', M', ?_, ?_, e1, e2, e3, e4, e6.trans e7.symm, e8, e9, e10, I', by omega, e6⟩
  · unfold cT_writeItems
    rw [fw_put (w := 0) 0 (nI N) (show (gs_sv (gs_sv (gs_sv G 11 0) 12 0) 10 0).1 10 = nI 0 by rfl) (by decide), Option.bind_some]
    exact r1
  · unfold mM_write
    have k0 : ∀ t : Option gs_T, gs_ck (0 : Int32) 200 t = t := fun t => ck_nI (i := 0) t (by decide) (by decide)
    rw [k0, k0]
    exact r2
