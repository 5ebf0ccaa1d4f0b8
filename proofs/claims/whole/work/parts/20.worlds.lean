/-! ===== the worlds of the two sides ===== -/
abbrev ze_T : Type := Launch × va_G × Nat × Nat × Nat × (Nat → Nat)
def ad_p (E : ze_T) (k : Nat) : Nat := E.2.2.2.2.2 k
def zF (E : ze_T) : zf_T := (E.1, E.2.1, [(E.2.2.1, .int), (E.2.2.2.1, .boolean), (E.2.2.2.2.1, .long)])
def wc_c (E : ze_T) (G : gs_T) : va_W :=
  [(ad_p E 0, .inr (0, [.ref (ad_p E 1), .ref (ad_p E 2), .ref (ad_p E 26)])),
   (ad_p E 1, .inr (2, [.ref (ad_p E 2), .ref (ad_p E 18), .ref (ad_p E 19), .ref (ad_p E 20), .ref (ad_p E 21), .ref (ad_p E 22), .ref (ad_p E 23), .ref (ad_p E 24), .ref (ad_p E 25), .int (G.1 0), .int (G.1 1), .int (G.1 2), .int (G.1 3), .int (G.1 4), .int (G.1 5)])),
   (ad_p E 2, .inr (1, [.ref (ad_p E 3), .ref (ad_p E 4), .ref (ad_p E 5), .ref (ad_p E 6), .ref (ad_p E 7), .ref (ad_p E 8), .ref (ad_p E 9), .ref (ad_p E 10), .ref (ad_p E 11), .ref (ad_p E 12), .ref (ad_p E 13), .ref (ad_p E 14), .ref (ad_p E 15), .ref (ad_p E 16), .ref (ad_p E 17), .int (G.1 6), .int (G.1 7), .int (G.1 8), .int (G.1 9)])),
   (ad_p E 3, .inl (E.2.2.1, 60, .inl (G.2 0))),
   (ad_p E 4, .inl (E.2.2.1, 20, .inl (G.2 1))),
   (ad_p E 5, .inl (E.2.2.1, 20, .inl (G.2 2))),
   (ad_p E 6, .inl (E.2.2.1, 20, .inl (G.2 3))),
   (ad_p E 7, .inl (E.2.2.1, 20, .inl (G.2 4))),
   (ad_p E 8, .inl (E.2.2.1, 20, .inl (G.2 5))),
   (ad_p E 9, .inl (E.2.2.1, 20, .inl (G.2 6))),
   (ad_p E 10, .inl (E.2.2.1, 20, .inl (G.2 7))),
   (ad_p E 11, .inl (E.2.2.1, 4, .inl (G.2 8))),
   (ad_p E 12, .inl (E.2.2.1, 60, .inl (G.2 9))),
   (ad_p E 13, .inl (E.2.2.1, 60, .inl (G.2 10))),
   (ad_p E 14, .inl (E.2.2.2.1, 60, .inl (G.2 11))),
   (ad_p E 15, .inl (E.2.2.1, 180, .inl (G.2 12))),
   (ad_p E 16, .inl (E.2.2.1, 60, .inl (G.2 13))),
   (ad_p E 17, .inl (E.2.2.1, 60, .inl (G.2 14))),
   (ad_p E 18, .inl (E.2.2.1, 1000, .inl (G.2 15))),
   (ad_p E 19, .inl (E.2.2.1, 1000, .inl (G.2 16))),
   (ad_p E 20, .inl (E.2.2.1, 1000, .inl (G.2 17))),
   (ad_p E 21, .inl (E.2.2.1, 1000, .inl (G.2 18))),
   (ad_p E 22, .inl (E.2.2.1, 60, .inl (G.2 19))),
   (ad_p E 23, .inl (E.2.2.1, 60, .inl (G.2 20))),
   (ad_p E 24, .inl (E.2.2.1, 20, .inl (G.2 21))),
   (ad_p E 25, .inl (E.2.2.2.1, 60, .inl (G.2 22))),
   (ad_p E 26, .inr (3, [.ref (ad_p E 27), .ref (ad_p E 28), .ref (ad_p E 29), .ref (ad_p E 30), .ref (ad_p E 31), .ref (ad_p E 32), .ref (ad_p E 33), .ref (ad_p E 34), .int (G.1 10), .int (G.1 11), .int (G.1 12)])),
   (ad_p E 27, .inl (E.2.2.1, 40, .inl (G.2 23))),
   (ad_p E 28, .inl (E.2.2.1, 1681, .inl (G.2 24))),
   (ad_p E 29, .inl (E.2.2.1, 1681, .inl (G.2 25))),
   (ad_p E 30, .inl (E.2.2.1, 1681, .inl (G.2 26))),
   (ad_p E 31, .inl (E.2.2.1, 160, .inl (G.2 27))),
   (ad_p E 32, .inl (E.2.2.1, 160, .inl (G.2 28))),
   (ad_p E 33, .inl (E.2.2.1, 80, .inl (G.2 29))),
   (ad_p E 34, .inl (E.2.2.1, 80, .inl (G.2 30)))]
theorem wc_c_addr (E : ze_T) (G G1 : gs_T) : (wc_c E G).map Prod.fst = (wc_c E G1).map Prod.fst := rfl
theorem wc_c_a0 (E : ze_T) (G : gs_T) (i x : Int32) : (wc_c E G).set 3 (ad_p E 3, .inl (E.2.2.1, 60, .inl (upd (G.2 0) i.toNatClampNeg x))) = wc_c E (gs_sa G 0 i x) := by
  simp only [wc_c, gs_sa, va_up, List.set_cons_succ, List.set_cons_zero, reduceIte, Nat.reduceEqDiff]
theorem wc_c_f0 (E : ze_T) (G : gs_T) (x : Int32) : (wc_c E G).set 3 (ad_p E 3, .inl (E.2.2.1, 60, .inl (fun _ => x))) = wc_c E (gs_sf G 0 x) := by
  simp only [wc_c, gs_sf, va_up, List.set_cons_succ, List.set_cons_zero, reduceIte, Nat.reduceEqDiff]
theorem wc_c_a1 (E : ze_T) (G : gs_T) (i x : Int32) : (wc_c E G).set 4 (ad_p E 4, .inl (E.2.2.1, 20, .inl (upd (G.2 1) i.toNatClampNeg x))) = wc_c E (gs_sa G 1 i x) := by
  simp only [wc_c, gs_sa, va_up, List.set_cons_succ, List.set_cons_zero, reduceIte, Nat.reduceEqDiff]
theorem wc_c_f1 (E : ze_T) (G : gs_T) (x : Int32) : (wc_c E G).set 4 (ad_p E 4, .inl (E.2.2.1, 20, .inl (fun _ => x))) = wc_c E (gs_sf G 1 x) := by
  simp only [wc_c, gs_sf, va_up, List.set_cons_succ, List.set_cons_zero, reduceIte, Nat.reduceEqDiff]
theorem wc_c_a2 (E : ze_T) (G : gs_T) (i x : Int32) : (wc_c E G).set 5 (ad_p E 5, .inl (E.2.2.1, 20, .inl (upd (G.2 2) i.toNatClampNeg x))) = wc_c E (gs_sa G 2 i x) := by
  simp only [wc_c, gs_sa, va_up, List.set_cons_succ, List.set_cons_zero, reduceIte, Nat.reduceEqDiff]
theorem wc_c_f2 (E : ze_T) (G : gs_T) (x : Int32) : (wc_c E G).set 5 (ad_p E 5, .inl (E.2.2.1, 20, .inl (fun _ => x))) = wc_c E (gs_sf G 2 x) := by
  simp only [wc_c, gs_sf, va_up, List.set_cons_succ, List.set_cons_zero, reduceIte, Nat.reduceEqDiff]
theorem wc_c_a3 (E : ze_T) (G : gs_T) (i x : Int32) : (wc_c E G).set 6 (ad_p E 6, .inl (E.2.2.1, 20, .inl (upd (G.2 3) i.toNatClampNeg x))) = wc_c E (gs_sa G 3 i x) := by
  simp only [wc_c, gs_sa, va_up, List.set_cons_succ, List.set_cons_zero, reduceIte, Nat.reduceEqDiff]
theorem wc_c_f3 (E : ze_T) (G : gs_T) (x : Int32) : (wc_c E G).set 6 (ad_p E 6, .inl (E.2.2.1, 20, .inl (fun _ => x))) = wc_c E (gs_sf G 3 x) := by
  simp only [wc_c, gs_sf, va_up, List.set_cons_succ, List.set_cons_zero, reduceIte, Nat.reduceEqDiff]
theorem wc_c_a4 (E : ze_T) (G : gs_T) (i x : Int32) : (wc_c E G).set 7 (ad_p E 7, .inl (E.2.2.1, 20, .inl (upd (G.2 4) i.toNatClampNeg x))) = wc_c E (gs_sa G 4 i x) := by
  simp only [wc_c, gs_sa, va_up, List.set_cons_succ, List.set_cons_zero, reduceIte, Nat.reduceEqDiff]
theorem wc_c_f4 (E : ze_T) (G : gs_T) (x : Int32) : (wc_c E G).set 7 (ad_p E 7, .inl (E.2.2.1, 20, .inl (fun _ => x))) = wc_c E (gs_sf G 4 x) := by
  simp only [wc_c, gs_sf, va_up, List.set_cons_succ, List.set_cons_zero, reduceIte, Nat.reduceEqDiff]
theorem wc_c_a5 (E : ze_T) (G : gs_T) (i x : Int32) : (wc_c E G).set 8 (ad_p E 8, .inl (E.2.2.1, 20, .inl (upd (G.2 5) i.toNatClampNeg x))) = wc_c E (gs_sa G 5 i x) := by
  simp only [wc_c, gs_sa, va_up, List.set_cons_succ, List.set_cons_zero, reduceIte, Nat.reduceEqDiff]
theorem wc_c_f5 (E : ze_T) (G : gs_T) (x : Int32) : (wc_c E G).set 8 (ad_p E 8, .inl (E.2.2.1, 20, .inl (fun _ => x))) = wc_c E (gs_sf G 5 x) := by
  simp only [wc_c, gs_sf, va_up, List.set_cons_succ, List.set_cons_zero, reduceIte, Nat.reduceEqDiff]
theorem wc_c_a6 (E : ze_T) (G : gs_T) (i x : Int32) : (wc_c E G).set 9 (ad_p E 9, .inl (E.2.2.1, 20, .inl (upd (G.2 6) i.toNatClampNeg x))) = wc_c E (gs_sa G 6 i x) := by
  simp only [wc_c, gs_sa, va_up, List.set_cons_succ, List.set_cons_zero, reduceIte, Nat.reduceEqDiff]
theorem wc_c_f6 (E : ze_T) (G : gs_T) (x : Int32) : (wc_c E G).set 9 (ad_p E 9, .inl (E.2.2.1, 20, .inl (fun _ => x))) = wc_c E (gs_sf G 6 x) := by
  simp only [wc_c, gs_sf, va_up, List.set_cons_succ, List.set_cons_zero, reduceIte, Nat.reduceEqDiff]
theorem wc_c_a7 (E : ze_T) (G : gs_T) (i x : Int32) : (wc_c E G).set 10 (ad_p E 10, .inl (E.2.2.1, 20, .inl (upd (G.2 7) i.toNatClampNeg x))) = wc_c E (gs_sa G 7 i x) := by
  simp only [wc_c, gs_sa, va_up, List.set_cons_succ, List.set_cons_zero, reduceIte, Nat.reduceEqDiff]
theorem wc_c_f7 (E : ze_T) (G : gs_T) (x : Int32) : (wc_c E G).set 10 (ad_p E 10, .inl (E.2.2.1, 20, .inl (fun _ => x))) = wc_c E (gs_sf G 7 x) := by
  simp only [wc_c, gs_sf, va_up, List.set_cons_succ, List.set_cons_zero, reduceIte, Nat.reduceEqDiff]
theorem wc_c_a8 (E : ze_T) (G : gs_T) (i x : Int32) : (wc_c E G).set 11 (ad_p E 11, .inl (E.2.2.1, 4, .inl (upd (G.2 8) i.toNatClampNeg x))) = wc_c E (gs_sa G 8 i x) := by
  simp only [wc_c, gs_sa, va_up, List.set_cons_succ, List.set_cons_zero, reduceIte, Nat.reduceEqDiff]
theorem wc_c_f8 (E : ze_T) (G : gs_T) (x : Int32) : (wc_c E G).set 11 (ad_p E 11, .inl (E.2.2.1, 4, .inl (fun _ => x))) = wc_c E (gs_sf G 8 x) := by
  simp only [wc_c, gs_sf, va_up, List.set_cons_succ, List.set_cons_zero, reduceIte, Nat.reduceEqDiff]
theorem wc_c_a9 (E : ze_T) (G : gs_T) (i x : Int32) : (wc_c E G).set 12 (ad_p E 12, .inl (E.2.2.1, 60, .inl (upd (G.2 9) i.toNatClampNeg x))) = wc_c E (gs_sa G 9 i x) := by
  simp only [wc_c, gs_sa, va_up, List.set_cons_succ, List.set_cons_zero, reduceIte, Nat.reduceEqDiff]
theorem wc_c_f9 (E : ze_T) (G : gs_T) (x : Int32) : (wc_c E G).set 12 (ad_p E 12, .inl (E.2.2.1, 60, .inl (fun _ => x))) = wc_c E (gs_sf G 9 x) := by
  simp only [wc_c, gs_sf, va_up, List.set_cons_succ, List.set_cons_zero, reduceIte, Nat.reduceEqDiff]
theorem wc_c_a10 (E : ze_T) (G : gs_T) (i x : Int32) : (wc_c E G).set 13 (ad_p E 13, .inl (E.2.2.1, 60, .inl (upd (G.2 10) i.toNatClampNeg x))) = wc_c E (gs_sa G 10 i x) := by
  simp only [wc_c, gs_sa, va_up, List.set_cons_succ, List.set_cons_zero, reduceIte, Nat.reduceEqDiff]
theorem wc_c_f10 (E : ze_T) (G : gs_T) (x : Int32) : (wc_c E G).set 13 (ad_p E 13, .inl (E.2.2.1, 60, .inl (fun _ => x))) = wc_c E (gs_sf G 10 x) := by
  simp only [wc_c, gs_sf, va_up, List.set_cons_succ, List.set_cons_zero, reduceIte, Nat.reduceEqDiff]
theorem wc_c_a11 (E : ze_T) (G : gs_T) (i x : Int32) : (wc_c E G).set 14 (ad_p E 14, .inl (E.2.2.2.1, 60, .inl (upd (G.2 11) i.toNatClampNeg x))) = wc_c E (gs_sa G 11 i x) := by
  simp only [wc_c, gs_sa, va_up, List.set_cons_succ, List.set_cons_zero, reduceIte, Nat.reduceEqDiff]
theorem wc_c_f11 (E : ze_T) (G : gs_T) (x : Int32) : (wc_c E G).set 14 (ad_p E 14, .inl (E.2.2.2.1, 60, .inl (fun _ => x))) = wc_c E (gs_sf G 11 x) := by
  simp only [wc_c, gs_sf, va_up, List.set_cons_succ, List.set_cons_zero, reduceIte, Nat.reduceEqDiff]
theorem wc_c_a12 (E : ze_T) (G : gs_T) (i x : Int32) : (wc_c E G).set 15 (ad_p E 15, .inl (E.2.2.1, 180, .inl (upd (G.2 12) i.toNatClampNeg x))) = wc_c E (gs_sa G 12 i x) := by
  simp only [wc_c, gs_sa, va_up, List.set_cons_succ, List.set_cons_zero, reduceIte, Nat.reduceEqDiff]
theorem wc_c_f12 (E : ze_T) (G : gs_T) (x : Int32) : (wc_c E G).set 15 (ad_p E 15, .inl (E.2.2.1, 180, .inl (fun _ => x))) = wc_c E (gs_sf G 12 x) := by
  simp only [wc_c, gs_sf, va_up, List.set_cons_succ, List.set_cons_zero, reduceIte, Nat.reduceEqDiff]
theorem wc_c_a13 (E : ze_T) (G : gs_T) (i x : Int32) : (wc_c E G).set 16 (ad_p E 16, .inl (E.2.2.1, 60, .inl (upd (G.2 13) i.toNatClampNeg x))) = wc_c E (gs_sa G 13 i x) := by
  simp only [wc_c, gs_sa, va_up, List.set_cons_succ, List.set_cons_zero, reduceIte, Nat.reduceEqDiff]
theorem wc_c_f13 (E : ze_T) (G : gs_T) (x : Int32) : (wc_c E G).set 16 (ad_p E 16, .inl (E.2.2.1, 60, .inl (fun _ => x))) = wc_c E (gs_sf G 13 x) := by
  simp only [wc_c, gs_sf, va_up, List.set_cons_succ, List.set_cons_zero, reduceIte, Nat.reduceEqDiff]
theorem wc_c_a14 (E : ze_T) (G : gs_T) (i x : Int32) : (wc_c E G).set 17 (ad_p E 17, .inl (E.2.2.1, 60, .inl (upd (G.2 14) i.toNatClampNeg x))) = wc_c E (gs_sa G 14 i x) := by
  simp only [wc_c, gs_sa, va_up, List.set_cons_succ, List.set_cons_zero, reduceIte, Nat.reduceEqDiff]
theorem wc_c_f14 (E : ze_T) (G : gs_T) (x : Int32) : (wc_c E G).set 17 (ad_p E 17, .inl (E.2.2.1, 60, .inl (fun _ => x))) = wc_c E (gs_sf G 14 x) := by
  simp only [wc_c, gs_sf, va_up, List.set_cons_succ, List.set_cons_zero, reduceIte, Nat.reduceEqDiff]
theorem wc_c_a15 (E : ze_T) (G : gs_T) (i x : Int32) : (wc_c E G).set 18 (ad_p E 18, .inl (E.2.2.1, 1000, .inl (upd (G.2 15) i.toNatClampNeg x))) = wc_c E (gs_sa G 15 i x) := by
  simp only [wc_c, gs_sa, va_up, List.set_cons_succ, List.set_cons_zero, reduceIte, Nat.reduceEqDiff]
theorem wc_c_f15 (E : ze_T) (G : gs_T) (x : Int32) : (wc_c E G).set 18 (ad_p E 18, .inl (E.2.2.1, 1000, .inl (fun _ => x))) = wc_c E (gs_sf G 15 x) := by
  simp only [wc_c, gs_sf, va_up, List.set_cons_succ, List.set_cons_zero, reduceIte, Nat.reduceEqDiff]
theorem wc_c_a16 (E : ze_T) (G : gs_T) (i x : Int32) : (wc_c E G).set 19 (ad_p E 19, .inl (E.2.2.1, 1000, .inl (upd (G.2 16) i.toNatClampNeg x))) = wc_c E (gs_sa G 16 i x) := by
  simp only [wc_c, gs_sa, va_up, List.set_cons_succ, List.set_cons_zero, reduceIte, Nat.reduceEqDiff]
theorem wc_c_f16 (E : ze_T) (G : gs_T) (x : Int32) : (wc_c E G).set 19 (ad_p E 19, .inl (E.2.2.1, 1000, .inl (fun _ => x))) = wc_c E (gs_sf G 16 x) := by
  simp only [wc_c, gs_sf, va_up, List.set_cons_succ, List.set_cons_zero, reduceIte, Nat.reduceEqDiff]
theorem wc_c_a17 (E : ze_T) (G : gs_T) (i x : Int32) : (wc_c E G).set 20 (ad_p E 20, .inl (E.2.2.1, 1000, .inl (upd (G.2 17) i.toNatClampNeg x))) = wc_c E (gs_sa G 17 i x) := by
  simp only [wc_c, gs_sa, va_up, List.set_cons_succ, List.set_cons_zero, reduceIte, Nat.reduceEqDiff]
theorem wc_c_f17 (E : ze_T) (G : gs_T) (x : Int32) : (wc_c E G).set 20 (ad_p E 20, .inl (E.2.2.1, 1000, .inl (fun _ => x))) = wc_c E (gs_sf G 17 x) := by
  simp only [wc_c, gs_sf, va_up, List.set_cons_succ, List.set_cons_zero, reduceIte, Nat.reduceEqDiff]
theorem wc_c_a18 (E : ze_T) (G : gs_T) (i x : Int32) : (wc_c E G).set 21 (ad_p E 21, .inl (E.2.2.1, 1000, .inl (upd (G.2 18) i.toNatClampNeg x))) = wc_c E (gs_sa G 18 i x) := by
  simp only [wc_c, gs_sa, va_up, List.set_cons_succ, List.set_cons_zero, reduceIte, Nat.reduceEqDiff]
theorem wc_c_f18 (E : ze_T) (G : gs_T) (x : Int32) : (wc_c E G).set 21 (ad_p E 21, .inl (E.2.2.1, 1000, .inl (fun _ => x))) = wc_c E (gs_sf G 18 x) := by
  simp only [wc_c, gs_sf, va_up, List.set_cons_succ, List.set_cons_zero, reduceIte, Nat.reduceEqDiff]
theorem wc_c_a19 (E : ze_T) (G : gs_T) (i x : Int32) : (wc_c E G).set 22 (ad_p E 22, .inl (E.2.2.1, 60, .inl (upd (G.2 19) i.toNatClampNeg x))) = wc_c E (gs_sa G 19 i x) := by
  simp only [wc_c, gs_sa, va_up, List.set_cons_succ, List.set_cons_zero, reduceIte, Nat.reduceEqDiff]
theorem wc_c_f19 (E : ze_T) (G : gs_T) (x : Int32) : (wc_c E G).set 22 (ad_p E 22, .inl (E.2.2.1, 60, .inl (fun _ => x))) = wc_c E (gs_sf G 19 x) := by
  simp only [wc_c, gs_sf, va_up, List.set_cons_succ, List.set_cons_zero, reduceIte, Nat.reduceEqDiff]
theorem wc_c_a20 (E : ze_T) (G : gs_T) (i x : Int32) : (wc_c E G).set 23 (ad_p E 23, .inl (E.2.2.1, 60, .inl (upd (G.2 20) i.toNatClampNeg x))) = wc_c E (gs_sa G 20 i x) := by
  simp only [wc_c, gs_sa, va_up, List.set_cons_succ, List.set_cons_zero, reduceIte, Nat.reduceEqDiff]
theorem wc_c_f20 (E : ze_T) (G : gs_T) (x : Int32) : (wc_c E G).set 23 (ad_p E 23, .inl (E.2.2.1, 60, .inl (fun _ => x))) = wc_c E (gs_sf G 20 x) := by
  simp only [wc_c, gs_sf, va_up, List.set_cons_succ, List.set_cons_zero, reduceIte, Nat.reduceEqDiff]
theorem wc_c_a21 (E : ze_T) (G : gs_T) (i x : Int32) : (wc_c E G).set 24 (ad_p E 24, .inl (E.2.2.1, 20, .inl (upd (G.2 21) i.toNatClampNeg x))) = wc_c E (gs_sa G 21 i x) := by
  simp only [wc_c, gs_sa, va_up, List.set_cons_succ, List.set_cons_zero, reduceIte, Nat.reduceEqDiff]
theorem wc_c_f21 (E : ze_T) (G : gs_T) (x : Int32) : (wc_c E G).set 24 (ad_p E 24, .inl (E.2.2.1, 20, .inl (fun _ => x))) = wc_c E (gs_sf G 21 x) := by
  simp only [wc_c, gs_sf, va_up, List.set_cons_succ, List.set_cons_zero, reduceIte, Nat.reduceEqDiff]
theorem wc_c_a22 (E : ze_T) (G : gs_T) (i x : Int32) : (wc_c E G).set 25 (ad_p E 25, .inl (E.2.2.2.1, 60, .inl (upd (G.2 22) i.toNatClampNeg x))) = wc_c E (gs_sa G 22 i x) := by
  simp only [wc_c, gs_sa, va_up, List.set_cons_succ, List.set_cons_zero, reduceIte, Nat.reduceEqDiff]
theorem wc_c_f22 (E : ze_T) (G : gs_T) (x : Int32) : (wc_c E G).set 25 (ad_p E 25, .inl (E.2.2.2.1, 60, .inl (fun _ => x))) = wc_c E (gs_sf G 22 x) := by
  simp only [wc_c, gs_sf, va_up, List.set_cons_succ, List.set_cons_zero, reduceIte, Nat.reduceEqDiff]
theorem wc_c_a23 (E : ze_T) (G : gs_T) (i x : Int32) : (wc_c E G).set 27 (ad_p E 27, .inl (E.2.2.1, 40, .inl (upd (G.2 23) i.toNatClampNeg x))) = wc_c E (gs_sa G 23 i x) := by
  simp only [wc_c, gs_sa, va_up, List.set_cons_succ, List.set_cons_zero, reduceIte, Nat.reduceEqDiff]
theorem wc_c_f23 (E : ze_T) (G : gs_T) (x : Int32) : (wc_c E G).set 27 (ad_p E 27, .inl (E.2.2.1, 40, .inl (fun _ => x))) = wc_c E (gs_sf G 23 x) := by
  simp only [wc_c, gs_sf, va_up, List.set_cons_succ, List.set_cons_zero, reduceIte, Nat.reduceEqDiff]
theorem wc_c_a24 (E : ze_T) (G : gs_T) (i x : Int32) : (wc_c E G).set 28 (ad_p E 28, .inl (E.2.2.1, 1681, .inl (upd (G.2 24) i.toNatClampNeg x))) = wc_c E (gs_sa G 24 i x) := by
  simp only [wc_c, gs_sa, va_up, List.set_cons_succ, List.set_cons_zero, reduceIte, Nat.reduceEqDiff]
theorem wc_c_f24 (E : ze_T) (G : gs_T) (x : Int32) : (wc_c E G).set 28 (ad_p E 28, .inl (E.2.2.1, 1681, .inl (fun _ => x))) = wc_c E (gs_sf G 24 x) := by
  simp only [wc_c, gs_sf, va_up, List.set_cons_succ, List.set_cons_zero, reduceIte, Nat.reduceEqDiff]
theorem wc_c_a25 (E : ze_T) (G : gs_T) (i x : Int32) : (wc_c E G).set 29 (ad_p E 29, .inl (E.2.2.1, 1681, .inl (upd (G.2 25) i.toNatClampNeg x))) = wc_c E (gs_sa G 25 i x) := by
  simp only [wc_c, gs_sa, va_up, List.set_cons_succ, List.set_cons_zero, reduceIte, Nat.reduceEqDiff]
theorem wc_c_f25 (E : ze_T) (G : gs_T) (x : Int32) : (wc_c E G).set 29 (ad_p E 29, .inl (E.2.2.1, 1681, .inl (fun _ => x))) = wc_c E (gs_sf G 25 x) := by
  simp only [wc_c, gs_sf, va_up, List.set_cons_succ, List.set_cons_zero, reduceIte, Nat.reduceEqDiff]
theorem wc_c_a26 (E : ze_T) (G : gs_T) (i x : Int32) : (wc_c E G).set 30 (ad_p E 30, .inl (E.2.2.1, 1681, .inl (upd (G.2 26) i.toNatClampNeg x))) = wc_c E (gs_sa G 26 i x) := by
  simp only [wc_c, gs_sa, va_up, List.set_cons_succ, List.set_cons_zero, reduceIte, Nat.reduceEqDiff]
theorem wc_c_f26 (E : ze_T) (G : gs_T) (x : Int32) : (wc_c E G).set 30 (ad_p E 30, .inl (E.2.2.1, 1681, .inl (fun _ => x))) = wc_c E (gs_sf G 26 x) := by
  simp only [wc_c, gs_sf, va_up, List.set_cons_succ, List.set_cons_zero, reduceIte, Nat.reduceEqDiff]
theorem wc_c_a27 (E : ze_T) (G : gs_T) (i x : Int32) : (wc_c E G).set 31 (ad_p E 31, .inl (E.2.2.1, 160, .inl (upd (G.2 27) i.toNatClampNeg x))) = wc_c E (gs_sa G 27 i x) := by
  simp only [wc_c, gs_sa, va_up, List.set_cons_succ, List.set_cons_zero, reduceIte, Nat.reduceEqDiff]
theorem wc_c_f27 (E : ze_T) (G : gs_T) (x : Int32) : (wc_c E G).set 31 (ad_p E 31, .inl (E.2.2.1, 160, .inl (fun _ => x))) = wc_c E (gs_sf G 27 x) := by
  simp only [wc_c, gs_sf, va_up, List.set_cons_succ, List.set_cons_zero, reduceIte, Nat.reduceEqDiff]
theorem wc_c_a28 (E : ze_T) (G : gs_T) (i x : Int32) : (wc_c E G).set 32 (ad_p E 32, .inl (E.2.2.1, 160, .inl (upd (G.2 28) i.toNatClampNeg x))) = wc_c E (gs_sa G 28 i x) := by
  simp only [wc_c, gs_sa, va_up, List.set_cons_succ, List.set_cons_zero, reduceIte, Nat.reduceEqDiff]
theorem wc_c_f28 (E : ze_T) (G : gs_T) (x : Int32) : (wc_c E G).set 32 (ad_p E 32, .inl (E.2.2.1, 160, .inl (fun _ => x))) = wc_c E (gs_sf G 28 x) := by
  simp only [wc_c, gs_sf, va_up, List.set_cons_succ, List.set_cons_zero, reduceIte, Nat.reduceEqDiff]
theorem wc_c_a29 (E : ze_T) (G : gs_T) (i x : Int32) : (wc_c E G).set 33 (ad_p E 33, .inl (E.2.2.1, 80, .inl (upd (G.2 29) i.toNatClampNeg x))) = wc_c E (gs_sa G 29 i x) := by
  simp only [wc_c, gs_sa, va_up, List.set_cons_succ, List.set_cons_zero, reduceIte, Nat.reduceEqDiff]
theorem wc_c_f29 (E : ze_T) (G : gs_T) (x : Int32) : (wc_c E G).set 33 (ad_p E 33, .inl (E.2.2.1, 80, .inl (fun _ => x))) = wc_c E (gs_sf G 29 x) := by
  simp only [wc_c, gs_sf, va_up, List.set_cons_succ, List.set_cons_zero, reduceIte, Nat.reduceEqDiff]
theorem wc_c_a30 (E : ze_T) (G : gs_T) (i x : Int32) : (wc_c E G).set 34 (ad_p E 34, .inl (E.2.2.1, 80, .inl (upd (G.2 30) i.toNatClampNeg x))) = wc_c E (gs_sa G 30 i x) := by
  simp only [wc_c, gs_sa, va_up, List.set_cons_succ, List.set_cons_zero, reduceIte, Nat.reduceEqDiff]
theorem wc_c_f30 (E : ze_T) (G : gs_T) (x : Int32) : (wc_c E G).set 34 (ad_p E 34, .inl (E.2.2.1, 80, .inl (fun _ => x))) = wc_c E (gs_sf G 30 x) := by
  simp only [wc_c, gs_sf, va_up, List.set_cons_succ, List.set_cons_zero, reduceIte, Nat.reduceEqDiff]
theorem wc_c_s0 (E : ze_T) (G : gs_T) (x : Int32) : (wc_c E G).set 1 (ad_p E 1, .inr (2, [.ref (ad_p E 2), .ref (ad_p E 18), .ref (ad_p E 19), .ref (ad_p E 20), .ref (ad_p E 21), .ref (ad_p E 22), .ref (ad_p E 23), .ref (ad_p E 24), .ref (ad_p E 25), .int x, .int (G.1 1), .int (G.1 2), .int (G.1 3), .int (G.1 4), .int (G.1 5)])) = wc_c E (gs_sv G 0 x) := by
  simp only [wc_c, gs_sv, va_up, List.set_cons_succ, List.set_cons_zero, reduceIte, Nat.reduceEqDiff]
theorem wc_c_s1 (E : ze_T) (G : gs_T) (x : Int32) : (wc_c E G).set 1 (ad_p E 1, .inr (2, [.ref (ad_p E 2), .ref (ad_p E 18), .ref (ad_p E 19), .ref (ad_p E 20), .ref (ad_p E 21), .ref (ad_p E 22), .ref (ad_p E 23), .ref (ad_p E 24), .ref (ad_p E 25), .int (G.1 0), .int x, .int (G.1 2), .int (G.1 3), .int (G.1 4), .int (G.1 5)])) = wc_c E (gs_sv G 1 x) := by
  simp only [wc_c, gs_sv, va_up, List.set_cons_succ, List.set_cons_zero, reduceIte, Nat.reduceEqDiff]
theorem wc_c_s2 (E : ze_T) (G : gs_T) (x : Int32) : (wc_c E G).set 1 (ad_p E 1, .inr (2, [.ref (ad_p E 2), .ref (ad_p E 18), .ref (ad_p E 19), .ref (ad_p E 20), .ref (ad_p E 21), .ref (ad_p E 22), .ref (ad_p E 23), .ref (ad_p E 24), .ref (ad_p E 25), .int (G.1 0), .int (G.1 1), .int x, .int (G.1 3), .int (G.1 4), .int (G.1 5)])) = wc_c E (gs_sv G 2 x) := by
  simp only [wc_c, gs_sv, va_up, List.set_cons_succ, List.set_cons_zero, reduceIte, Nat.reduceEqDiff]
theorem wc_c_s3 (E : ze_T) (G : gs_T) (x : Int32) : (wc_c E G).set 1 (ad_p E 1, .inr (2, [.ref (ad_p E 2), .ref (ad_p E 18), .ref (ad_p E 19), .ref (ad_p E 20), .ref (ad_p E 21), .ref (ad_p E 22), .ref (ad_p E 23), .ref (ad_p E 24), .ref (ad_p E 25), .int (G.1 0), .int (G.1 1), .int (G.1 2), .int x, .int (G.1 4), .int (G.1 5)])) = wc_c E (gs_sv G 3 x) := by
  simp only [wc_c, gs_sv, va_up, List.set_cons_succ, List.set_cons_zero, reduceIte, Nat.reduceEqDiff]
theorem wc_c_s4 (E : ze_T) (G : gs_T) (x : Int32) : (wc_c E G).set 1 (ad_p E 1, .inr (2, [.ref (ad_p E 2), .ref (ad_p E 18), .ref (ad_p E 19), .ref (ad_p E 20), .ref (ad_p E 21), .ref (ad_p E 22), .ref (ad_p E 23), .ref (ad_p E 24), .ref (ad_p E 25), .int (G.1 0), .int (G.1 1), .int (G.1 2), .int (G.1 3), .int x, .int (G.1 5)])) = wc_c E (gs_sv G 4 x) := by
  simp only [wc_c, gs_sv, va_up, List.set_cons_succ, List.set_cons_zero, reduceIte, Nat.reduceEqDiff]
theorem wc_c_s5 (E : ze_T) (G : gs_T) (x : Int32) : (wc_c E G).set 1 (ad_p E 1, .inr (2, [.ref (ad_p E 2), .ref (ad_p E 18), .ref (ad_p E 19), .ref (ad_p E 20), .ref (ad_p E 21), .ref (ad_p E 22), .ref (ad_p E 23), .ref (ad_p E 24), .ref (ad_p E 25), .int (G.1 0), .int (G.1 1), .int (G.1 2), .int (G.1 3), .int (G.1 4), .int x])) = wc_c E (gs_sv G 5 x) := by
  simp only [wc_c, gs_sv, va_up, List.set_cons_succ, List.set_cons_zero, reduceIte, Nat.reduceEqDiff]
theorem wc_c_s6 (E : ze_T) (G : gs_T) (x : Int32) : (wc_c E G).set 2 (ad_p E 2, .inr (1, [.ref (ad_p E 3), .ref (ad_p E 4), .ref (ad_p E 5), .ref (ad_p E 6), .ref (ad_p E 7), .ref (ad_p E 8), .ref (ad_p E 9), .ref (ad_p E 10), .ref (ad_p E 11), .ref (ad_p E 12), .ref (ad_p E 13), .ref (ad_p E 14), .ref (ad_p E 15), .ref (ad_p E 16), .ref (ad_p E 17), .int x, .int (G.1 7), .int (G.1 8), .int (G.1 9)])) = wc_c E (gs_sv G 6 x) := by
  simp only [wc_c, gs_sv, va_up, List.set_cons_succ, List.set_cons_zero, reduceIte, Nat.reduceEqDiff]
theorem wc_c_s7 (E : ze_T) (G : gs_T) (x : Int32) : (wc_c E G).set 2 (ad_p E 2, .inr (1, [.ref (ad_p E 3), .ref (ad_p E 4), .ref (ad_p E 5), .ref (ad_p E 6), .ref (ad_p E 7), .ref (ad_p E 8), .ref (ad_p E 9), .ref (ad_p E 10), .ref (ad_p E 11), .ref (ad_p E 12), .ref (ad_p E 13), .ref (ad_p E 14), .ref (ad_p E 15), .ref (ad_p E 16), .ref (ad_p E 17), .int (G.1 6), .int x, .int (G.1 8), .int (G.1 9)])) = wc_c E (gs_sv G 7 x) := by
  simp only [wc_c, gs_sv, va_up, List.set_cons_succ, List.set_cons_zero, reduceIte, Nat.reduceEqDiff]
theorem wc_c_s8 (E : ze_T) (G : gs_T) (x : Int32) : (wc_c E G).set 2 (ad_p E 2, .inr (1, [.ref (ad_p E 3), .ref (ad_p E 4), .ref (ad_p E 5), .ref (ad_p E 6), .ref (ad_p E 7), .ref (ad_p E 8), .ref (ad_p E 9), .ref (ad_p E 10), .ref (ad_p E 11), .ref (ad_p E 12), .ref (ad_p E 13), .ref (ad_p E 14), .ref (ad_p E 15), .ref (ad_p E 16), .ref (ad_p E 17), .int (G.1 6), .int (G.1 7), .int x, .int (G.1 9)])) = wc_c E (gs_sv G 8 x) := by
  simp only [wc_c, gs_sv, va_up, List.set_cons_succ, List.set_cons_zero, reduceIte, Nat.reduceEqDiff]
theorem wc_c_s9 (E : ze_T) (G : gs_T) (x : Int32) : (wc_c E G).set 2 (ad_p E 2, .inr (1, [.ref (ad_p E 3), .ref (ad_p E 4), .ref (ad_p E 5), .ref (ad_p E 6), .ref (ad_p E 7), .ref (ad_p E 8), .ref (ad_p E 9), .ref (ad_p E 10), .ref (ad_p E 11), .ref (ad_p E 12), .ref (ad_p E 13), .ref (ad_p E 14), .ref (ad_p E 15), .ref (ad_p E 16), .ref (ad_p E 17), .int (G.1 6), .int (G.1 7), .int (G.1 8), .int x])) = wc_c E (gs_sv G 9 x) := by
  simp only [wc_c, gs_sv, va_up, List.set_cons_succ, List.set_cons_zero, reduceIte, Nat.reduceEqDiff]
theorem wc_c_s10 (E : ze_T) (G : gs_T) (x : Int32) : (wc_c E G).set 26 (ad_p E 26, .inr (3, [.ref (ad_p E 27), .ref (ad_p E 28), .ref (ad_p E 29), .ref (ad_p E 30), .ref (ad_p E 31), .ref (ad_p E 32), .ref (ad_p E 33), .ref (ad_p E 34), .int x, .int (G.1 11), .int (G.1 12)])) = wc_c E (gs_sv G 10 x) := by
  simp only [wc_c, gs_sv, va_up, List.set_cons_succ, List.set_cons_zero, reduceIte, Nat.reduceEqDiff]
theorem wc_c_s11 (E : ze_T) (G : gs_T) (x : Int32) : (wc_c E G).set 26 (ad_p E 26, .inr (3, [.ref (ad_p E 27), .ref (ad_p E 28), .ref (ad_p E 29), .ref (ad_p E 30), .ref (ad_p E 31), .ref (ad_p E 32), .ref (ad_p E 33), .ref (ad_p E 34), .int (G.1 10), .int x, .int (G.1 12)])) = wc_c E (gs_sv G 11 x) := by
  simp only [wc_c, gs_sv, va_up, List.set_cons_succ, List.set_cons_zero, reduceIte, Nat.reduceEqDiff]
theorem wc_c_s12 (E : ze_T) (G : gs_T) (x : Int32) : (wc_c E G).set 26 (ad_p E 26, .inr (3, [.ref (ad_p E 27), .ref (ad_p E 28), .ref (ad_p E 29), .ref (ad_p E 30), .ref (ad_p E 31), .ref (ad_p E 32), .ref (ad_p E 33), .ref (ad_p E 34), .int (G.1 10), .int (G.1 11), .int x])) = wc_c E (gs_sv G 12 x) := by
  simp only [wc_c, gs_sv, va_up, List.set_cons_succ, List.set_cons_zero, reduceIte, Nat.reduceEqDiff]
def wc_m (E : ze_T) (G : gs_T) : va_W :=
  [(ad_p E 0, .inr (4, [.int (G.1 0), .int (G.1 1), .ref (ad_p E 1), .int (G.1 2), .ref (ad_p E 2), .ref (ad_p E 3), .ref (ad_p E 4), .int (G.1 3), .ref (ad_p E 5), .ref (ad_p E 6), .ref (ad_p E 7), .ref (ad_p E 8), .ref (ad_p E 9), .ref (ad_p E 10), .ref (ad_p E 11), .ref (ad_p E 12), .ref (ad_p E 13), .int (G.1 4), .int (G.1 5), .ref (ad_p E 14), .ref (ad_p E 15), .ref (ad_p E 16), .ref (ad_p E 17), .ref (ad_p E 18), .int (G.1 6), .ref (ad_p E 19), .ref (ad_p E 20), .int (G.1 7), .int (G.1 8), .int (G.1 9), .int (G.1 10), .ref (ad_p E 21), .ref (ad_p E 22), .ref (ad_p E 23), .ref (ad_p E 24), .int (G.1 11), .ref (ad_p E 25), .ref (ad_p E 26), .int (G.1 12), .ref (ad_p E 27), .ref (ad_p E 28)])),
   (ad_p E 1, .inl (E.2.2.1, 60, .inl (G.2 0))),
   (ad_p E 2, .inl (E.2.2.1, 20, .inl (G.2 1))),
   (ad_p E 3, .inl (E.2.2.1, 20, .inl (G.2 2))),
   (ad_p E 4, .inl (E.2.2.1, 20, .inl (G.2 3))),
   (ad_p E 5, .inl (E.2.2.1, 20, .inl (G.2 4))),
   (ad_p E 6, .inl (E.2.2.1, 20, .inl (G.2 5))),
   (ad_p E 7, .inl (E.2.2.1, 20, .inl (G.2 6))),
   (ad_p E 8, .inl (E.2.2.1, 20, .inl (G.2 7))),
   (ad_p E 9, .inl (E.2.2.1, 4, .inl (G.2 8))),
   (ad_p E 10, .inl (E.2.2.2.1, 60, .inl (G.2 9))),
   (ad_p E 11, .inl (E.2.2.1, 60, .inl (G.2 10))),
   (ad_p E 12, .inl (E.2.2.1, 60, .inl (G.2 11))),
   (ad_p E 13, .inl (E.2.2.2.1, 60, .inl (G.2 12))),
   (ad_p E 14, .inl (E.2.2.1, 1000, .inl (G.2 13))),
   (ad_p E 15, .inl (E.2.2.1, 1000, .inl (G.2 14))),
   (ad_p E 16, .inl (E.2.2.1, 1000, .inl (G.2 15))),
   (ad_p E 17, .inl (E.2.2.1, 1000, .inl (G.2 16))),
   (ad_p E 18, .inl (E.2.2.1, 60, .inl (G.2 17))),
   (ad_p E 19, .inl (E.2.2.1, 20, .inl (G.2 18))),
   (ad_p E 20, .inl (E.2.2.2.1, 60, .inl (G.2 19))),
   (ad_p E 21, .inl (E.2.2.1, 40, .inl (G.2 20))),
   (ad_p E 22, .inl (E.2.2.1, 1640, .inl (G.2 21))),
   (ad_p E 23, .inl (E.2.2.1, 1640, .inl (G.2 22))),
   (ad_p E 24, .inl (E.2.2.1, 1640, .inl (G.2 23))),
   (ad_p E 25, .inl (E.2.2.1, 200, .inl (G.2 24))),
   (ad_p E 26, .inl (E.2.2.1, 200, .inl (G.2 25))),
   (ad_p E 27, .inl (E.2.2.1, 200, .inl (G.2 26))),
   (ad_p E 28, .inl (E.2.2.1, 200, .inl (G.2 27)))]
theorem wc_m_addr (E : ze_T) (G G1 : gs_T) : (wc_m E G).map Prod.fst = (wc_m E G1).map Prod.fst := rfl
theorem wc_m_a0 (E : ze_T) (G : gs_T) (i x : Int32) : (wc_m E G).set 1 (ad_p E 1, .inl (E.2.2.1, 60, .inl (upd (G.2 0) i.toNatClampNeg x))) = wc_m E (gs_sa G 0 i x) := by
  simp only [wc_m, gs_sa, va_up, List.set_cons_succ, List.set_cons_zero, reduceIte, Nat.reduceEqDiff]
theorem wc_m_f0 (E : ze_T) (G : gs_T) (x : Int32) : (wc_m E G).set 1 (ad_p E 1, .inl (E.2.2.1, 60, .inl (fun _ => x))) = wc_m E (gs_sf G 0 x) := by
  simp only [wc_m, gs_sf, va_up, List.set_cons_succ, List.set_cons_zero, reduceIte, Nat.reduceEqDiff]
theorem wc_m_a1 (E : ze_T) (G : gs_T) (i x : Int32) : (wc_m E G).set 2 (ad_p E 2, .inl (E.2.2.1, 20, .inl (upd (G.2 1) i.toNatClampNeg x))) = wc_m E (gs_sa G 1 i x) := by
  simp only [wc_m, gs_sa, va_up, List.set_cons_succ, List.set_cons_zero, reduceIte, Nat.reduceEqDiff]
theorem wc_m_f1 (E : ze_T) (G : gs_T) (x : Int32) : (wc_m E G).set 2 (ad_p E 2, .inl (E.2.2.1, 20, .inl (fun _ => x))) = wc_m E (gs_sf G 1 x) := by
  simp only [wc_m, gs_sf, va_up, List.set_cons_succ, List.set_cons_zero, reduceIte, Nat.reduceEqDiff]
theorem wc_m_a2 (E : ze_T) (G : gs_T) (i x : Int32) : (wc_m E G).set 3 (ad_p E 3, .inl (E.2.2.1, 20, .inl (upd (G.2 2) i.toNatClampNeg x))) = wc_m E (gs_sa G 2 i x) := by
  simp only [wc_m, gs_sa, va_up, List.set_cons_succ, List.set_cons_zero, reduceIte, Nat.reduceEqDiff]
theorem wc_m_f2 (E : ze_T) (G : gs_T) (x : Int32) : (wc_m E G).set 3 (ad_p E 3, .inl (E.2.2.1, 20, .inl (fun _ => x))) = wc_m E (gs_sf G 2 x) := by
  simp only [wc_m, gs_sf, va_up, List.set_cons_succ, List.set_cons_zero, reduceIte, Nat.reduceEqDiff]
theorem wc_m_a3 (E : ze_T) (G : gs_T) (i x : Int32) : (wc_m E G).set 4 (ad_p E 4, .inl (E.2.2.1, 20, .inl (upd (G.2 3) i.toNatClampNeg x))) = wc_m E (gs_sa G 3 i x) := by
  simp only [wc_m, gs_sa, va_up, List.set_cons_succ, List.set_cons_zero, reduceIte, Nat.reduceEqDiff]
theorem wc_m_f3 (E : ze_T) (G : gs_T) (x : Int32) : (wc_m E G).set 4 (ad_p E 4, .inl (E.2.2.1, 20, .inl (fun _ => x))) = wc_m E (gs_sf G 3 x) := by
  simp only [wc_m, gs_sf, va_up, List.set_cons_succ, List.set_cons_zero, reduceIte, Nat.reduceEqDiff]
theorem wc_m_a4 (E : ze_T) (G : gs_T) (i x : Int32) : (wc_m E G).set 5 (ad_p E 5, .inl (E.2.2.1, 20, .inl (upd (G.2 4) i.toNatClampNeg x))) = wc_m E (gs_sa G 4 i x) := by
  simp only [wc_m, gs_sa, va_up, List.set_cons_succ, List.set_cons_zero, reduceIte, Nat.reduceEqDiff]
theorem wc_m_f4 (E : ze_T) (G : gs_T) (x : Int32) : (wc_m E G).set 5 (ad_p E 5, .inl (E.2.2.1, 20, .inl (fun _ => x))) = wc_m E (gs_sf G 4 x) := by
  simp only [wc_m, gs_sf, va_up, List.set_cons_succ, List.set_cons_zero, reduceIte, Nat.reduceEqDiff]
theorem wc_m_a5 (E : ze_T) (G : gs_T) (i x : Int32) : (wc_m E G).set 6 (ad_p E 6, .inl (E.2.2.1, 20, .inl (upd (G.2 5) i.toNatClampNeg x))) = wc_m E (gs_sa G 5 i x) := by
  simp only [wc_m, gs_sa, va_up, List.set_cons_succ, List.set_cons_zero, reduceIte, Nat.reduceEqDiff]
theorem wc_m_f5 (E : ze_T) (G : gs_T) (x : Int32) : (wc_m E G).set 6 (ad_p E 6, .inl (E.2.2.1, 20, .inl (fun _ => x))) = wc_m E (gs_sf G 5 x) := by
  simp only [wc_m, gs_sf, va_up, List.set_cons_succ, List.set_cons_zero, reduceIte, Nat.reduceEqDiff]
theorem wc_m_a6 (E : ze_T) (G : gs_T) (i x : Int32) : (wc_m E G).set 7 (ad_p E 7, .inl (E.2.2.1, 20, .inl (upd (G.2 6) i.toNatClampNeg x))) = wc_m E (gs_sa G 6 i x) := by
  simp only [wc_m, gs_sa, va_up, List.set_cons_succ, List.set_cons_zero, reduceIte, Nat.reduceEqDiff]
theorem wc_m_f6 (E : ze_T) (G : gs_T) (x : Int32) : (wc_m E G).set 7 (ad_p E 7, .inl (E.2.2.1, 20, .inl (fun _ => x))) = wc_m E (gs_sf G 6 x) := by
  simp only [wc_m, gs_sf, va_up, List.set_cons_succ, List.set_cons_zero, reduceIte, Nat.reduceEqDiff]
theorem wc_m_a7 (E : ze_T) (G : gs_T) (i x : Int32) : (wc_m E G).set 8 (ad_p E 8, .inl (E.2.2.1, 20, .inl (upd (G.2 7) i.toNatClampNeg x))) = wc_m E (gs_sa G 7 i x) := by
  simp only [wc_m, gs_sa, va_up, List.set_cons_succ, List.set_cons_zero, reduceIte, Nat.reduceEqDiff]
theorem wc_m_f7 (E : ze_T) (G : gs_T) (x : Int32) : (wc_m E G).set 8 (ad_p E 8, .inl (E.2.2.1, 20, .inl (fun _ => x))) = wc_m E (gs_sf G 7 x) := by
  simp only [wc_m, gs_sf, va_up, List.set_cons_succ, List.set_cons_zero, reduceIte, Nat.reduceEqDiff]
theorem wc_m_a8 (E : ze_T) (G : gs_T) (i x : Int32) : (wc_m E G).set 9 (ad_p E 9, .inl (E.2.2.1, 4, .inl (upd (G.2 8) i.toNatClampNeg x))) = wc_m E (gs_sa G 8 i x) := by
  simp only [wc_m, gs_sa, va_up, List.set_cons_succ, List.set_cons_zero, reduceIte, Nat.reduceEqDiff]
theorem wc_m_f8 (E : ze_T) (G : gs_T) (x : Int32) : (wc_m E G).set 9 (ad_p E 9, .inl (E.2.2.1, 4, .inl (fun _ => x))) = wc_m E (gs_sf G 8 x) := by
  simp only [wc_m, gs_sf, va_up, List.set_cons_succ, List.set_cons_zero, reduceIte, Nat.reduceEqDiff]
theorem wc_m_a9 (E : ze_T) (G : gs_T) (i x : Int32) : (wc_m E G).set 10 (ad_p E 10, .inl (E.2.2.2.1, 60, .inl (upd (G.2 9) i.toNatClampNeg x))) = wc_m E (gs_sa G 9 i x) := by
  simp only [wc_m, gs_sa, va_up, List.set_cons_succ, List.set_cons_zero, reduceIte, Nat.reduceEqDiff]
theorem wc_m_f9 (E : ze_T) (G : gs_T) (x : Int32) : (wc_m E G).set 10 (ad_p E 10, .inl (E.2.2.2.1, 60, .inl (fun _ => x))) = wc_m E (gs_sf G 9 x) := by
  simp only [wc_m, gs_sf, va_up, List.set_cons_succ, List.set_cons_zero, reduceIte, Nat.reduceEqDiff]
theorem wc_m_a10 (E : ze_T) (G : gs_T) (i x : Int32) : (wc_m E G).set 11 (ad_p E 11, .inl (E.2.2.1, 60, .inl (upd (G.2 10) i.toNatClampNeg x))) = wc_m E (gs_sa G 10 i x) := by
  simp only [wc_m, gs_sa, va_up, List.set_cons_succ, List.set_cons_zero, reduceIte, Nat.reduceEqDiff]
theorem wc_m_f10 (E : ze_T) (G : gs_T) (x : Int32) : (wc_m E G).set 11 (ad_p E 11, .inl (E.2.2.1, 60, .inl (fun _ => x))) = wc_m E (gs_sf G 10 x) := by
  simp only [wc_m, gs_sf, va_up, List.set_cons_succ, List.set_cons_zero, reduceIte, Nat.reduceEqDiff]
theorem wc_m_a11 (E : ze_T) (G : gs_T) (i x : Int32) : (wc_m E G).set 12 (ad_p E 12, .inl (E.2.2.1, 60, .inl (upd (G.2 11) i.toNatClampNeg x))) = wc_m E (gs_sa G 11 i x) := by
  simp only [wc_m, gs_sa, va_up, List.set_cons_succ, List.set_cons_zero, reduceIte, Nat.reduceEqDiff]
theorem wc_m_f11 (E : ze_T) (G : gs_T) (x : Int32) : (wc_m E G).set 12 (ad_p E 12, .inl (E.2.2.1, 60, .inl (fun _ => x))) = wc_m E (gs_sf G 11 x) := by
  simp only [wc_m, gs_sf, va_up, List.set_cons_succ, List.set_cons_zero, reduceIte, Nat.reduceEqDiff]
theorem wc_m_a12 (E : ze_T) (G : gs_T) (i x : Int32) : (wc_m E G).set 13 (ad_p E 13, .inl (E.2.2.2.1, 60, .inl (upd (G.2 12) i.toNatClampNeg x))) = wc_m E (gs_sa G 12 i x) := by
  simp only [wc_m, gs_sa, va_up, List.set_cons_succ, List.set_cons_zero, reduceIte, Nat.reduceEqDiff]
theorem wc_m_f12 (E : ze_T) (G : gs_T) (x : Int32) : (wc_m E G).set 13 (ad_p E 13, .inl (E.2.2.2.1, 60, .inl (fun _ => x))) = wc_m E (gs_sf G 12 x) := by
  simp only [wc_m, gs_sf, va_up, List.set_cons_succ, List.set_cons_zero, reduceIte, Nat.reduceEqDiff]
theorem wc_m_a13 (E : ze_T) (G : gs_T) (i x : Int32) : (wc_m E G).set 14 (ad_p E 14, .inl (E.2.2.1, 1000, .inl (upd (G.2 13) i.toNatClampNeg x))) = wc_m E (gs_sa G 13 i x) := by
  simp only [wc_m, gs_sa, va_up, List.set_cons_succ, List.set_cons_zero, reduceIte, Nat.reduceEqDiff]
theorem wc_m_f13 (E : ze_T) (G : gs_T) (x : Int32) : (wc_m E G).set 14 (ad_p E 14, .inl (E.2.2.1, 1000, .inl (fun _ => x))) = wc_m E (gs_sf G 13 x) := by
  simp only [wc_m, gs_sf, va_up, List.set_cons_succ, List.set_cons_zero, reduceIte, Nat.reduceEqDiff]
theorem wc_m_a14 (E : ze_T) (G : gs_T) (i x : Int32) : (wc_m E G).set 15 (ad_p E 15, .inl (E.2.2.1, 1000, .inl (upd (G.2 14) i.toNatClampNeg x))) = wc_m E (gs_sa G 14 i x) := by
  simp only [wc_m, gs_sa, va_up, List.set_cons_succ, List.set_cons_zero, reduceIte, Nat.reduceEqDiff]
theorem wc_m_f14 (E : ze_T) (G : gs_T) (x : Int32) : (wc_m E G).set 15 (ad_p E 15, .inl (E.2.2.1, 1000, .inl (fun _ => x))) = wc_m E (gs_sf G 14 x) := by
  simp only [wc_m, gs_sf, va_up, List.set_cons_succ, List.set_cons_zero, reduceIte, Nat.reduceEqDiff]
theorem wc_m_a15 (E : ze_T) (G : gs_T) (i x : Int32) : (wc_m E G).set 16 (ad_p E 16, .inl (E.2.2.1, 1000, .inl (upd (G.2 15) i.toNatClampNeg x))) = wc_m E (gs_sa G 15 i x) := by
  simp only [wc_m, gs_sa, va_up, List.set_cons_succ, List.set_cons_zero, reduceIte, Nat.reduceEqDiff]
theorem wc_m_f15 (E : ze_T) (G : gs_T) (x : Int32) : (wc_m E G).set 16 (ad_p E 16, .inl (E.2.2.1, 1000, .inl (fun _ => x))) = wc_m E (gs_sf G 15 x) := by
  simp only [wc_m, gs_sf, va_up, List.set_cons_succ, List.set_cons_zero, reduceIte, Nat.reduceEqDiff]
theorem wc_m_a16 (E : ze_T) (G : gs_T) (i x : Int32) : (wc_m E G).set 17 (ad_p E 17, .inl (E.2.2.1, 1000, .inl (upd (G.2 16) i.toNatClampNeg x))) = wc_m E (gs_sa G 16 i x) := by
  simp only [wc_m, gs_sa, va_up, List.set_cons_succ, List.set_cons_zero, reduceIte, Nat.reduceEqDiff]
theorem wc_m_f16 (E : ze_T) (G : gs_T) (x : Int32) : (wc_m E G).set 17 (ad_p E 17, .inl (E.2.2.1, 1000, .inl (fun _ => x))) = wc_m E (gs_sf G 16 x) := by
  simp only [wc_m, gs_sf, va_up, List.set_cons_succ, List.set_cons_zero, reduceIte, Nat.reduceEqDiff]
theorem wc_m_a17 (E : ze_T) (G : gs_T) (i x : Int32) : (wc_m E G).set 18 (ad_p E 18, .inl (E.2.2.1, 60, .inl (upd (G.2 17) i.toNatClampNeg x))) = wc_m E (gs_sa G 17 i x) := by
  simp only [wc_m, gs_sa, va_up, List.set_cons_succ, List.set_cons_zero, reduceIte, Nat.reduceEqDiff]
theorem wc_m_f17 (E : ze_T) (G : gs_T) (x : Int32) : (wc_m E G).set 18 (ad_p E 18, .inl (E.2.2.1, 60, .inl (fun _ => x))) = wc_m E (gs_sf G 17 x) := by
  simp only [wc_m, gs_sf, va_up, List.set_cons_succ, List.set_cons_zero, reduceIte, Nat.reduceEqDiff]
theorem wc_m_a18 (E : ze_T) (G : gs_T) (i x : Int32) : (wc_m E G).set 19 (ad_p E 19, .inl (E.2.2.1, 20, .inl (upd (G.2 18) i.toNatClampNeg x))) = wc_m E (gs_sa G 18 i x) := by
  simp only [wc_m, gs_sa, va_up, List.set_cons_succ, List.set_cons_zero, reduceIte, Nat.reduceEqDiff]
theorem wc_m_f18 (E : ze_T) (G : gs_T) (x : Int32) : (wc_m E G).set 19 (ad_p E 19, .inl (E.2.2.1, 20, .inl (fun _ => x))) = wc_m E (gs_sf G 18 x) := by
  simp only [wc_m, gs_sf, va_up, List.set_cons_succ, List.set_cons_zero, reduceIte, Nat.reduceEqDiff]
theorem wc_m_a19 (E : ze_T) (G : gs_T) (i x : Int32) : (wc_m E G).set 20 (ad_p E 20, .inl (E.2.2.2.1, 60, .inl (upd (G.2 19) i.toNatClampNeg x))) = wc_m E (gs_sa G 19 i x) := by
  simp only [wc_m, gs_sa, va_up, List.set_cons_succ, List.set_cons_zero, reduceIte, Nat.reduceEqDiff]
theorem wc_m_f19 (E : ze_T) (G : gs_T) (x : Int32) : (wc_m E G).set 20 (ad_p E 20, .inl (E.2.2.2.1, 60, .inl (fun _ => x))) = wc_m E (gs_sf G 19 x) := by
  simp only [wc_m, gs_sf, va_up, List.set_cons_succ, List.set_cons_zero, reduceIte, Nat.reduceEqDiff]
theorem wc_m_a20 (E : ze_T) (G : gs_T) (i x : Int32) : (wc_m E G).set 21 (ad_p E 21, .inl (E.2.2.1, 40, .inl (upd (G.2 20) i.toNatClampNeg x))) = wc_m E (gs_sa G 20 i x) := by
  simp only [wc_m, gs_sa, va_up, List.set_cons_succ, List.set_cons_zero, reduceIte, Nat.reduceEqDiff]
theorem wc_m_f20 (E : ze_T) (G : gs_T) (x : Int32) : (wc_m E G).set 21 (ad_p E 21, .inl (E.2.2.1, 40, .inl (fun _ => x))) = wc_m E (gs_sf G 20 x) := by
  simp only [wc_m, gs_sf, va_up, List.set_cons_succ, List.set_cons_zero, reduceIte, Nat.reduceEqDiff]
theorem wc_m_a21 (E : ze_T) (G : gs_T) (i x : Int32) : (wc_m E G).set 22 (ad_p E 22, .inl (E.2.2.1, 1640, .inl (upd (G.2 21) i.toNatClampNeg x))) = wc_m E (gs_sa G 21 i x) := by
  simp only [wc_m, gs_sa, va_up, List.set_cons_succ, List.set_cons_zero, reduceIte, Nat.reduceEqDiff]
theorem wc_m_f21 (E : ze_T) (G : gs_T) (x : Int32) : (wc_m E G).set 22 (ad_p E 22, .inl (E.2.2.1, 1640, .inl (fun _ => x))) = wc_m E (gs_sf G 21 x) := by
  simp only [wc_m, gs_sf, va_up, List.set_cons_succ, List.set_cons_zero, reduceIte, Nat.reduceEqDiff]
theorem wc_m_a22 (E : ze_T) (G : gs_T) (i x : Int32) : (wc_m E G).set 23 (ad_p E 23, .inl (E.2.2.1, 1640, .inl (upd (G.2 22) i.toNatClampNeg x))) = wc_m E (gs_sa G 22 i x) := by
  simp only [wc_m, gs_sa, va_up, List.set_cons_succ, List.set_cons_zero, reduceIte, Nat.reduceEqDiff]
theorem wc_m_f22 (E : ze_T) (G : gs_T) (x : Int32) : (wc_m E G).set 23 (ad_p E 23, .inl (E.2.2.1, 1640, .inl (fun _ => x))) = wc_m E (gs_sf G 22 x) := by
  simp only [wc_m, gs_sf, va_up, List.set_cons_succ, List.set_cons_zero, reduceIte, Nat.reduceEqDiff]
theorem wc_m_a23 (E : ze_T) (G : gs_T) (i x : Int32) : (wc_m E G).set 24 (ad_p E 24, .inl (E.2.2.1, 1640, .inl (upd (G.2 23) i.toNatClampNeg x))) = wc_m E (gs_sa G 23 i x) := by
  simp only [wc_m, gs_sa, va_up, List.set_cons_succ, List.set_cons_zero, reduceIte, Nat.reduceEqDiff]
theorem wc_m_f23 (E : ze_T) (G : gs_T) (x : Int32) : (wc_m E G).set 24 (ad_p E 24, .inl (E.2.2.1, 1640, .inl (fun _ => x))) = wc_m E (gs_sf G 23 x) := by
  simp only [wc_m, gs_sf, va_up, List.set_cons_succ, List.set_cons_zero, reduceIte, Nat.reduceEqDiff]
theorem wc_m_a24 (E : ze_T) (G : gs_T) (i x : Int32) : (wc_m E G).set 25 (ad_p E 25, .inl (E.2.2.1, 200, .inl (upd (G.2 24) i.toNatClampNeg x))) = wc_m E (gs_sa G 24 i x) := by
  simp only [wc_m, gs_sa, va_up, List.set_cons_succ, List.set_cons_zero, reduceIte, Nat.reduceEqDiff]
theorem wc_m_f24 (E : ze_T) (G : gs_T) (x : Int32) : (wc_m E G).set 25 (ad_p E 25, .inl (E.2.2.1, 200, .inl (fun _ => x))) = wc_m E (gs_sf G 24 x) := by
  simp only [wc_m, gs_sf, va_up, List.set_cons_succ, List.set_cons_zero, reduceIte, Nat.reduceEqDiff]
theorem wc_m_a25 (E : ze_T) (G : gs_T) (i x : Int32) : (wc_m E G).set 26 (ad_p E 26, .inl (E.2.2.1, 200, .inl (upd (G.2 25) i.toNatClampNeg x))) = wc_m E (gs_sa G 25 i x) := by
  simp only [wc_m, gs_sa, va_up, List.set_cons_succ, List.set_cons_zero, reduceIte, Nat.reduceEqDiff]
theorem wc_m_f25 (E : ze_T) (G : gs_T) (x : Int32) : (wc_m E G).set 26 (ad_p E 26, .inl (E.2.2.1, 200, .inl (fun _ => x))) = wc_m E (gs_sf G 25 x) := by
  simp only [wc_m, gs_sf, va_up, List.set_cons_succ, List.set_cons_zero, reduceIte, Nat.reduceEqDiff]
theorem wc_m_a26 (E : ze_T) (G : gs_T) (i x : Int32) : (wc_m E G).set 27 (ad_p E 27, .inl (E.2.2.1, 200, .inl (upd (G.2 26) i.toNatClampNeg x))) = wc_m E (gs_sa G 26 i x) := by
  simp only [wc_m, gs_sa, va_up, List.set_cons_succ, List.set_cons_zero, reduceIte, Nat.reduceEqDiff]
theorem wc_m_f26 (E : ze_T) (G : gs_T) (x : Int32) : (wc_m E G).set 27 (ad_p E 27, .inl (E.2.2.1, 200, .inl (fun _ => x))) = wc_m E (gs_sf G 26 x) := by
  simp only [wc_m, gs_sf, va_up, List.set_cons_succ, List.set_cons_zero, reduceIte, Nat.reduceEqDiff]
theorem wc_m_a27 (E : ze_T) (G : gs_T) (i x : Int32) : (wc_m E G).set 28 (ad_p E 28, .inl (E.2.2.1, 200, .inl (upd (G.2 27) i.toNatClampNeg x))) = wc_m E (gs_sa G 27 i x) := by
  simp only [wc_m, gs_sa, va_up, List.set_cons_succ, List.set_cons_zero, reduceIte, Nat.reduceEqDiff]
theorem wc_m_f27 (E : ze_T) (G : gs_T) (x : Int32) : (wc_m E G).set 28 (ad_p E 28, .inl (E.2.2.1, 200, .inl (fun _ => x))) = wc_m E (gs_sf G 27 x) := by
  simp only [wc_m, gs_sf, va_up, List.set_cons_succ, List.set_cons_zero, reduceIte, Nat.reduceEqDiff]
theorem wc_m_s0 (E : ze_T) (G : gs_T) (x : Int32) : (wc_m E G).set 0 (ad_p E 0, .inr (4, [.int x, .int (G.1 1), .ref (ad_p E 1), .int (G.1 2), .ref (ad_p E 2), .ref (ad_p E 3), .ref (ad_p E 4), .int (G.1 3), .ref (ad_p E 5), .ref (ad_p E 6), .ref (ad_p E 7), .ref (ad_p E 8), .ref (ad_p E 9), .ref (ad_p E 10), .ref (ad_p E 11), .ref (ad_p E 12), .ref (ad_p E 13), .int (G.1 4), .int (G.1 5), .ref (ad_p E 14), .ref (ad_p E 15), .ref (ad_p E 16), .ref (ad_p E 17), .ref (ad_p E 18), .int (G.1 6), .ref (ad_p E 19), .ref (ad_p E 20), .int (G.1 7), .int (G.1 8), .int (G.1 9), .int (G.1 10), .ref (ad_p E 21), .ref (ad_p E 22), .ref (ad_p E 23), .ref (ad_p E 24), .int (G.1 11), .ref (ad_p E 25), .ref (ad_p E 26), .int (G.1 12), .ref (ad_p E 27), .ref (ad_p E 28)])) = wc_m E (gs_sv G 0 x) := by
  simp only [wc_m, gs_sv, va_up, List.set_cons_succ, List.set_cons_zero, reduceIte, Nat.reduceEqDiff]
theorem wc_m_s1 (E : ze_T) (G : gs_T) (x : Int32) : (wc_m E G).set 0 (ad_p E 0, .inr (4, [.int (G.1 0), .int x, .ref (ad_p E 1), .int (G.1 2), .ref (ad_p E 2), .ref (ad_p E 3), .ref (ad_p E 4), .int (G.1 3), .ref (ad_p E 5), .ref (ad_p E 6), .ref (ad_p E 7), .ref (ad_p E 8), .ref (ad_p E 9), .ref (ad_p E 10), .ref (ad_p E 11), .ref (ad_p E 12), .ref (ad_p E 13), .int (G.1 4), .int (G.1 5), .ref (ad_p E 14), .ref (ad_p E 15), .ref (ad_p E 16), .ref (ad_p E 17), .ref (ad_p E 18), .int (G.1 6), .ref (ad_p E 19), .ref (ad_p E 20), .int (G.1 7), .int (G.1 8), .int (G.1 9), .int (G.1 10), .ref (ad_p E 21), .ref (ad_p E 22), .ref (ad_p E 23), .ref (ad_p E 24), .int (G.1 11), .ref (ad_p E 25), .ref (ad_p E 26), .int (G.1 12), .ref (ad_p E 27), .ref (ad_p E 28)])) = wc_m E (gs_sv G 1 x) := by
  simp only [wc_m, gs_sv, va_up, List.set_cons_succ, List.set_cons_zero, reduceIte, Nat.reduceEqDiff]
theorem wc_m_s2 (E : ze_T) (G : gs_T) (x : Int32) : (wc_m E G).set 0 (ad_p E 0, .inr (4, [.int (G.1 0), .int (G.1 1), .ref (ad_p E 1), .int x, .ref (ad_p E 2), .ref (ad_p E 3), .ref (ad_p E 4), .int (G.1 3), .ref (ad_p E 5), .ref (ad_p E 6), .ref (ad_p E 7), .ref (ad_p E 8), .ref (ad_p E 9), .ref (ad_p E 10), .ref (ad_p E 11), .ref (ad_p E 12), .ref (ad_p E 13), .int (G.1 4), .int (G.1 5), .ref (ad_p E 14), .ref (ad_p E 15), .ref (ad_p E 16), .ref (ad_p E 17), .ref (ad_p E 18), .int (G.1 6), .ref (ad_p E 19), .ref (ad_p E 20), .int (G.1 7), .int (G.1 8), .int (G.1 9), .int (G.1 10), .ref (ad_p E 21), .ref (ad_p E 22), .ref (ad_p E 23), .ref (ad_p E 24), .int (G.1 11), .ref (ad_p E 25), .ref (ad_p E 26), .int (G.1 12), .ref (ad_p E 27), .ref (ad_p E 28)])) = wc_m E (gs_sv G 2 x) := by
  simp only [wc_m, gs_sv, va_up, List.set_cons_succ, List.set_cons_zero, reduceIte, Nat.reduceEqDiff]
theorem wc_m_s3 (E : ze_T) (G : gs_T) (x : Int32) : (wc_m E G).set 0 (ad_p E 0, .inr (4, [.int (G.1 0), .int (G.1 1), .ref (ad_p E 1), .int (G.1 2), .ref (ad_p E 2), .ref (ad_p E 3), .ref (ad_p E 4), .int x, .ref (ad_p E 5), .ref (ad_p E 6), .ref (ad_p E 7), .ref (ad_p E 8), .ref (ad_p E 9), .ref (ad_p E 10), .ref (ad_p E 11), .ref (ad_p E 12), .ref (ad_p E 13), .int (G.1 4), .int (G.1 5), .ref (ad_p E 14), .ref (ad_p E 15), .ref (ad_p E 16), .ref (ad_p E 17), .ref (ad_p E 18), .int (G.1 6), .ref (ad_p E 19), .ref (ad_p E 20), .int (G.1 7), .int (G.1 8), .int (G.1 9), .int (G.1 10), .ref (ad_p E 21), .ref (ad_p E 22), .ref (ad_p E 23), .ref (ad_p E 24), .int (G.1 11), .ref (ad_p E 25), .ref (ad_p E 26), .int (G.1 12), .ref (ad_p E 27), .ref (ad_p E 28)])) = wc_m E (gs_sv G 3 x) := by
  simp only [wc_m, gs_sv, va_up, List.set_cons_succ, List.set_cons_zero, reduceIte, Nat.reduceEqDiff]
theorem wc_m_s4 (E : ze_T) (G : gs_T) (x : Int32) : (wc_m E G).set 0 (ad_p E 0, .inr (4, [.int (G.1 0), .int (G.1 1), .ref (ad_p E 1), .int (G.1 2), .ref (ad_p E 2), .ref (ad_p E 3), .ref (ad_p E 4), .int (G.1 3), .ref (ad_p E 5), .ref (ad_p E 6), .ref (ad_p E 7), .ref (ad_p E 8), .ref (ad_p E 9), .ref (ad_p E 10), .ref (ad_p E 11), .ref (ad_p E 12), .ref (ad_p E 13), .int x, .int (G.1 5), .ref (ad_p E 14), .ref (ad_p E 15), .ref (ad_p E 16), .ref (ad_p E 17), .ref (ad_p E 18), .int (G.1 6), .ref (ad_p E 19), .ref (ad_p E 20), .int (G.1 7), .int (G.1 8), .int (G.1 9), .int (G.1 10), .ref (ad_p E 21), .ref (ad_p E 22), .ref (ad_p E 23), .ref (ad_p E 24), .int (G.1 11), .ref (ad_p E 25), .ref (ad_p E 26), .int (G.1 12), .ref (ad_p E 27), .ref (ad_p E 28)])) = wc_m E (gs_sv G 4 x) := by
  simp only [wc_m, gs_sv, va_up, List.set_cons_succ, List.set_cons_zero, reduceIte, Nat.reduceEqDiff]
theorem wc_m_s5 (E : ze_T) (G : gs_T) (x : Int32) : (wc_m E G).set 0 (ad_p E 0, .inr (4, [.int (G.1 0), .int (G.1 1), .ref (ad_p E 1), .int (G.1 2), .ref (ad_p E 2), .ref (ad_p E 3), .ref (ad_p E 4), .int (G.1 3), .ref (ad_p E 5), .ref (ad_p E 6), .ref (ad_p E 7), .ref (ad_p E 8), .ref (ad_p E 9), .ref (ad_p E 10), .ref (ad_p E 11), .ref (ad_p E 12), .ref (ad_p E 13), .int (G.1 4), .int x, .ref (ad_p E 14), .ref (ad_p E 15), .ref (ad_p E 16), .ref (ad_p E 17), .ref (ad_p E 18), .int (G.1 6), .ref (ad_p E 19), .ref (ad_p E 20), .int (G.1 7), .int (G.1 8), .int (G.1 9), .int (G.1 10), .ref (ad_p E 21), .ref (ad_p E 22), .ref (ad_p E 23), .ref (ad_p E 24), .int (G.1 11), .ref (ad_p E 25), .ref (ad_p E 26), .int (G.1 12), .ref (ad_p E 27), .ref (ad_p E 28)])) = wc_m E (gs_sv G 5 x) := by
  simp only [wc_m, gs_sv, va_up, List.set_cons_succ, List.set_cons_zero, reduceIte, Nat.reduceEqDiff]
theorem wc_m_s6 (E : ze_T) (G : gs_T) (x : Int32) : (wc_m E G).set 0 (ad_p E 0, .inr (4, [.int (G.1 0), .int (G.1 1), .ref (ad_p E 1), .int (G.1 2), .ref (ad_p E 2), .ref (ad_p E 3), .ref (ad_p E 4), .int (G.1 3), .ref (ad_p E 5), .ref (ad_p E 6), .ref (ad_p E 7), .ref (ad_p E 8), .ref (ad_p E 9), .ref (ad_p E 10), .ref (ad_p E 11), .ref (ad_p E 12), .ref (ad_p E 13), .int (G.1 4), .int (G.1 5), .ref (ad_p E 14), .ref (ad_p E 15), .ref (ad_p E 16), .ref (ad_p E 17), .ref (ad_p E 18), .int x, .ref (ad_p E 19), .ref (ad_p E 20), .int (G.1 7), .int (G.1 8), .int (G.1 9), .int (G.1 10), .ref (ad_p E 21), .ref (ad_p E 22), .ref (ad_p E 23), .ref (ad_p E 24), .int (G.1 11), .ref (ad_p E 25), .ref (ad_p E 26), .int (G.1 12), .ref (ad_p E 27), .ref (ad_p E 28)])) = wc_m E (gs_sv G 6 x) := by
  simp only [wc_m, gs_sv, va_up, List.set_cons_succ, List.set_cons_zero, reduceIte, Nat.reduceEqDiff]
theorem wc_m_s7 (E : ze_T) (G : gs_T) (x : Int32) : (wc_m E G).set 0 (ad_p E 0, .inr (4, [.int (G.1 0), .int (G.1 1), .ref (ad_p E 1), .int (G.1 2), .ref (ad_p E 2), .ref (ad_p E 3), .ref (ad_p E 4), .int (G.1 3), .ref (ad_p E 5), .ref (ad_p E 6), .ref (ad_p E 7), .ref (ad_p E 8), .ref (ad_p E 9), .ref (ad_p E 10), .ref (ad_p E 11), .ref (ad_p E 12), .ref (ad_p E 13), .int (G.1 4), .int (G.1 5), .ref (ad_p E 14), .ref (ad_p E 15), .ref (ad_p E 16), .ref (ad_p E 17), .ref (ad_p E 18), .int (G.1 6), .ref (ad_p E 19), .ref (ad_p E 20), .int x, .int (G.1 8), .int (G.1 9), .int (G.1 10), .ref (ad_p E 21), .ref (ad_p E 22), .ref (ad_p E 23), .ref (ad_p E 24), .int (G.1 11), .ref (ad_p E 25), .ref (ad_p E 26), .int (G.1 12), .ref (ad_p E 27), .ref (ad_p E 28)])) = wc_m E (gs_sv G 7 x) := by
  simp only [wc_m, gs_sv, va_up, List.set_cons_succ, List.set_cons_zero, reduceIte, Nat.reduceEqDiff]
theorem wc_m_s8 (E : ze_T) (G : gs_T) (x : Int32) : (wc_m E G).set 0 (ad_p E 0, .inr (4, [.int (G.1 0), .int (G.1 1), .ref (ad_p E 1), .int (G.1 2), .ref (ad_p E 2), .ref (ad_p E 3), .ref (ad_p E 4), .int (G.1 3), .ref (ad_p E 5), .ref (ad_p E 6), .ref (ad_p E 7), .ref (ad_p E 8), .ref (ad_p E 9), .ref (ad_p E 10), .ref (ad_p E 11), .ref (ad_p E 12), .ref (ad_p E 13), .int (G.1 4), .int (G.1 5), .ref (ad_p E 14), .ref (ad_p E 15), .ref (ad_p E 16), .ref (ad_p E 17), .ref (ad_p E 18), .int (G.1 6), .ref (ad_p E 19), .ref (ad_p E 20), .int (G.1 7), .int x, .int (G.1 9), .int (G.1 10), .ref (ad_p E 21), .ref (ad_p E 22), .ref (ad_p E 23), .ref (ad_p E 24), .int (G.1 11), .ref (ad_p E 25), .ref (ad_p E 26), .int (G.1 12), .ref (ad_p E 27), .ref (ad_p E 28)])) = wc_m E (gs_sv G 8 x) := by
  simp only [wc_m, gs_sv, va_up, List.set_cons_succ, List.set_cons_zero, reduceIte, Nat.reduceEqDiff]
theorem wc_m_s9 (E : ze_T) (G : gs_T) (x : Int32) : (wc_m E G).set 0 (ad_p E 0, .inr (4, [.int (G.1 0), .int (G.1 1), .ref (ad_p E 1), .int (G.1 2), .ref (ad_p E 2), .ref (ad_p E 3), .ref (ad_p E 4), .int (G.1 3), .ref (ad_p E 5), .ref (ad_p E 6), .ref (ad_p E 7), .ref (ad_p E 8), .ref (ad_p E 9), .ref (ad_p E 10), .ref (ad_p E 11), .ref (ad_p E 12), .ref (ad_p E 13), .int (G.1 4), .int (G.1 5), .ref (ad_p E 14), .ref (ad_p E 15), .ref (ad_p E 16), .ref (ad_p E 17), .ref (ad_p E 18), .int (G.1 6), .ref (ad_p E 19), .ref (ad_p E 20), .int (G.1 7), .int (G.1 8), .int x, .int (G.1 10), .ref (ad_p E 21), .ref (ad_p E 22), .ref (ad_p E 23), .ref (ad_p E 24), .int (G.1 11), .ref (ad_p E 25), .ref (ad_p E 26), .int (G.1 12), .ref (ad_p E 27), .ref (ad_p E 28)])) = wc_m E (gs_sv G 9 x) := by
  simp only [wc_m, gs_sv, va_up, List.set_cons_succ, List.set_cons_zero, reduceIte, Nat.reduceEqDiff]
theorem wc_m_s10 (E : ze_T) (G : gs_T) (x : Int32) : (wc_m E G).set 0 (ad_p E 0, .inr (4, [.int (G.1 0), .int (G.1 1), .ref (ad_p E 1), .int (G.1 2), .ref (ad_p E 2), .ref (ad_p E 3), .ref (ad_p E 4), .int (G.1 3), .ref (ad_p E 5), .ref (ad_p E 6), .ref (ad_p E 7), .ref (ad_p E 8), .ref (ad_p E 9), .ref (ad_p E 10), .ref (ad_p E 11), .ref (ad_p E 12), .ref (ad_p E 13), .int (G.1 4), .int (G.1 5), .ref (ad_p E 14), .ref (ad_p E 15), .ref (ad_p E 16), .ref (ad_p E 17), .ref (ad_p E 18), .int (G.1 6), .ref (ad_p E 19), .ref (ad_p E 20), .int (G.1 7), .int (G.1 8), .int (G.1 9), .int x, .ref (ad_p E 21), .ref (ad_p E 22), .ref (ad_p E 23), .ref (ad_p E 24), .int (G.1 11), .ref (ad_p E 25), .ref (ad_p E 26), .int (G.1 12), .ref (ad_p E 27), .ref (ad_p E 28)])) = wc_m E (gs_sv G 10 x) := by
  simp only [wc_m, gs_sv, va_up, List.set_cons_succ, List.set_cons_zero, reduceIte, Nat.reduceEqDiff]
theorem wc_m_s11 (E : ze_T) (G : gs_T) (x : Int32) : (wc_m E G).set 0 (ad_p E 0, .inr (4, [.int (G.1 0), .int (G.1 1), .ref (ad_p E 1), .int (G.1 2), .ref (ad_p E 2), .ref (ad_p E 3), .ref (ad_p E 4), .int (G.1 3), .ref (ad_p E 5), .ref (ad_p E 6), .ref (ad_p E 7), .ref (ad_p E 8), .ref (ad_p E 9), .ref (ad_p E 10), .ref (ad_p E 11), .ref (ad_p E 12), .ref (ad_p E 13), .int (G.1 4), .int (G.1 5), .ref (ad_p E 14), .ref (ad_p E 15), .ref (ad_p E 16), .ref (ad_p E 17), .ref (ad_p E 18), .int (G.1 6), .ref (ad_p E 19), .ref (ad_p E 20), .int (G.1 7), .int (G.1 8), .int (G.1 9), .int (G.1 10), .ref (ad_p E 21), .ref (ad_p E 22), .ref (ad_p E 23), .ref (ad_p E 24), .int x, .ref (ad_p E 25), .ref (ad_p E 26), .int (G.1 12), .ref (ad_p E 27), .ref (ad_p E 28)])) = wc_m E (gs_sv G 11 x) := by
  simp only [wc_m, gs_sv, va_up, List.set_cons_succ, List.set_cons_zero, reduceIte, Nat.reduceEqDiff]
theorem wc_m_s12 (E : ze_T) (G : gs_T) (x : Int32) : (wc_m E G).set 0 (ad_p E 0, .inr (4, [.int (G.1 0), .int (G.1 1), .ref (ad_p E 1), .int (G.1 2), .ref (ad_p E 2), .ref (ad_p E 3), .ref (ad_p E 4), .int (G.1 3), .ref (ad_p E 5), .ref (ad_p E 6), .ref (ad_p E 7), .ref (ad_p E 8), .ref (ad_p E 9), .ref (ad_p E 10), .ref (ad_p E 11), .ref (ad_p E 12), .ref (ad_p E 13), .int (G.1 4), .int (G.1 5), .ref (ad_p E 14), .ref (ad_p E 15), .ref (ad_p E 16), .ref (ad_p E 17), .ref (ad_p E 18), .int (G.1 6), .ref (ad_p E 19), .ref (ad_p E 20), .int (G.1 7), .int (G.1 8), .int (G.1 9), .int (G.1 10), .ref (ad_p E 21), .ref (ad_p E 22), .ref (ad_p E 23), .ref (ad_p E 24), .int (G.1 11), .ref (ad_p E 25), .ref (ad_p E 26), .int x, .ref (ad_p E 27), .ref (ad_p E 28)])) = wc_m E (gs_sv G 12 x) := by
  simp only [wc_m, gs_sv, va_up, List.set_cons_succ, List.set_cons_zero, reduceIte, Nat.reduceEqDiff]
