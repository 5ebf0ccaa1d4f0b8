/-! ===== java.util.Arrays.fill(int[], int) ===== -/
theorem dn_XA_fill_0 : decode cn_XA_fill 0 = .ok (.iconst 0, 1) := by decide +kernel
theorem dn_XA_fill_1 : decode cn_XA_fill 1 = .ok (.istore_n 2, 1) := by decide +kernel
theorem dn_XA_fill_2 : decode cn_XA_fill 2 = .ok (.aload_n 0, 1) := by decide +kernel
theorem dn_XA_fill_3 : decode cn_XA_fill 3 = .ok (.arraylength, 1) := by decide +kernel
theorem dn_XA_fill_4 : decode cn_XA_fill 4 = .ok (.istore_n 3, 1) := by decide +kernel
theorem dn_XA_fill_5 : decode cn_XA_fill 5 = .ok (.iload_n 2, 1) := by decide +kernel
theorem dn_XA_fill_6 : decode cn_XA_fill 6 = .ok (.iload_n 3, 1) := by decide +kernel
theorem dn_XA_fill_7 : decode cn_XA_fill 7 = .ok (.if_icmp .ge 13, 3) := by decide +kernel
theorem dn_XA_fill_10 : decode cn_XA_fill 10 = .ok (.aload_n 0, 1) := by decide +kernel
theorem dn_XA_fill_11 : decode cn_XA_fill 11 = .ok (.iload_n 2, 1) := by decide +kernel
theorem dn_XA_fill_12 : decode cn_XA_fill 12 = .ok (.iload_n 1, 1) := by decide +kernel
theorem dn_XA_fill_13 : decode cn_XA_fill 13 = .ok (.iastore, 1) := by decide +kernel
theorem dn_XA_fill_14 : decode cn_XA_fill 14 = .ok (.iinc 2 1, 3) := by decide +kernel
theorem dn_XA_fill_17 : decode cn_XA_fill 17 = .ok (.goto (-12), 3) := by decide +kernel
theorem dn_XA_fill_20 : decode cn_XA_fill 20 = .ok (.return_, 1) := by decide +kernel
def fa_upto (f : Nat → Int32) (v : Int32) (i : Nat) : Nat → Int32 := fun j => if j < i then v else f j
theorem fa_step (f : Nat → Int32) (v : Int32) (i : Nat) : upd (fa_upto f v i) i v = fa_upto f v (i + 1) := by
  funext j
  unfold upd fa_upto
  by_cases h : j = i
  · subst h; simp
  · rw [if_neg h]
    by_cases h2 : j < i
    · rw [if_pos h2, if_pos (by omega)]
    · rw [if_neg h2, if_neg (by omega)]
theorem fa_zero (f : Nat → Int32) (v : Int32) : fa_upto f v 0 = f := by
  funext j
  unfold fa_upto
  rw [if_neg (by omega)]
set_option maxHeartbeats 4000000 in
set_option maxRecDepth 100000 in
theorem zf_loop (F : zf_T) (ws : va_W) (q0 a cA n : Nat) (f : Nat → Int32) (v : Int32) (hq : q0 < ws.length) (ht : F.2.2[0]? = some (cA, .int)) (hn : n < 2 ^ 31) (X : zx_T) (cx : zx F X cn_XA_fill yn_XA_fill.cls { frames := 0, cells := 0, slots := 0, locals := 0 } 4) (cq : zq_v F X (ws.set q0 (a, .inl (cA, n, .inl (fun _ => v))))) :
    ∀ (k i : Nat), i ≤ n → n - i < k → zj F X 0 0 (ws.set q0 (a, .inl (cA, n, .inl (fa_upto f v i)))) 5 [some (.ref a), some (.int v), some (.int (nI i)), some (.int (nI n))] [] := by
  intro k
  induction k with
  | zero => intro i h1 h2; omega
  | succ k ih =>
    intro i h1 h2
    refine zz_iload_n cx dn_XA_fill_5 rfl rfl ?_
    refine zz_iload_n cx dn_XA_fill_6 rfl rfl ?_
    by_cases hi : i < n
    · refine zz_icmp_ge_f cx (tgt := 20) dn_XA_fill_7 (by decide) (nI_ge hi hn) ?_
      refine zz_aload_n cx dn_XA_fill_10 rfl rfl ?_
      refine zz_iload_n cx dn_XA_fill_11 rfl rfl ?_
      refine zz_iload_n cx dn_XA_fill_12 rfl rfl ?_
      refine zz_iast (α := Unit) (t := some ()) (r := ()) cx q0 0 (List.getElem?_set_self hq) ht (by unfold gs_ck; rw [if_neg (nI_in hi hn)]) (ws2 := ws.set q0 (a, .inl (cA, n, .inl (fa_upto f v (i + 1))))) (by rw [List.set_set, nI_clamp (by omega), fa_step]) dn_XA_fill_13 (fun _ => ?_)
      refine zz_iinc cx dn_XA_fill_14 (d := 1) rfl (by decide) (by decide) rfl ?_
      rw [← nI_succ]
      refine zz_goto cx dn_XA_fill_17 (tgt := 5) (by decide) ?_
      exact ih (i + 1) hi (by omega)
    · have hin : i = n := by omega
      subst hin
      refine zz_icmp_ge_t cx (tgt := 20) dn_XA_fill_7 (by decide) (Int32.le_refl _) ?_
      refine zz_arrx (g := fun _ => v) (fun j hj => by unfold fa_upto; rw [if_pos hj]) ?_
      exact zz_vret cx cq (by decide) (by decide) dn_XA_fill_20
set_option maxHeartbeats 4000000 in
set_option maxRecDepth 100000 in
theorem zc_fill (F : zf_T) (ws : va_W) (q0 a cA n : Nat) (f : Nat → Int32) (v : Int32) (ha : ws[q0]? = some (a, .inl (cA, n, .inl f))) (ht : F.2.2[0]? = some (cA, .int)) (hn : n < 2 ^ 31) : zc_v F ws (ws.set q0 (a, .inl (cA, n, .inl (fun _ => v)))) yn_XA_fill cn_XA_fill 4 { frames := 0, cells := 0, slots := 0, locals := 0 } [.ref a, .int v] := by
  refine zc_v_of (by decide) rfl (Nat.le_of_ble_eq_true rfl) (fun X cx cq => ?_)
  refine zz_iconst cx dn_XA_fill_0 (v := nI 0) (by decide) ?_
  refine zz_istore_n cx dn_XA_fill_1 rfl (by decide) rfl ?_
  refine zz_aload_n cx dn_XA_fill_2 rfl rfl ?_
  refine zz_alen cx q0 0 ha ht (v := nI n) rfl dn_XA_fill_3 ?_
  refine zz_istore_n cx dn_XA_fill_4 rfl (by decide) rfl ?_
  have h := zf_loop F ws q0 a cA n f v (List.getElem?_eq_some_iff.mp ha).1 ht hn X cx cq (n + 1) 0 (Nat.zero_le n) (by omega)
  rw [fa_zero, zr_self ha] at h
  exact h
theorem zf_fill {F : zf_T} {X : zx_T} {cc : ByteArray} {own : String} {rm : Room} {cells slots pc ml : Nat} {ws ws2 : va_W} {L : List (Option Value)} {rest : List Value} {a cA n index : Nat} {f : Nat → Int32} {v : Int32} (cx : zx F X cc own rm ml) (q0 : Nat) (ha : ws[q0]? = some (a, .inl (cA, n, .inl f))) (ht : F.2.2[0]? = some (cA, .int)) (hn : n < 2 ^ 31) (hw : ws.set q0 (a, .inl (cA, n, .inl (fun _ => v))) = ws2) (hl : Cond.methodLink own index yn_XA_fill ∈ zt_ws) (hrm : 1 ≤ rm.frames ∧ 23 ≤ rm.locals) (hrest : (rest.map fun v => v.category).sum ≤ 8) (hf : cells ≤ rm.cells ∧ slots ≤ rm.slots) (hd : decode cc pc = .ok (.invokestatic index, 3)) (k : zj F X cells slots ws2 (pc + 3) L rest) : zj F X cells slots ws pc L (.int v :: .ref a :: rest) := by
  subst hw
  exact zz_callSv cx (As := [.ref a, .int v]) (rest := rest) (c2 := cells) (s2 := slots) (zc_fill F ws q0 a cA n f v ha ht hn) zm_XA_fill hl zs_XA_fill ⟨hrm.1, hrm.2⟩ rfl hrest rfl rfl hf (zr_addr0 ha) hd k
