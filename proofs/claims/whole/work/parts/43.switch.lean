/-! ===== own: switches, pairs, the exceptions by number ===== -/
theorem gs_pair {α β : Type} {a c : α} {b d : β} (h : some (a, b) = some (c, d)) : a = c ∧ b = d := by
  cases h
  exact ⟨rfl, rfl⟩
def xe_n : Nat → String
  | 0 => "java/lang/IllegalStateException"
  | 1 => "java/lang/IndexOutOfBoundsException"
  | _ => "java/lang/IllegalArgumentException"
section ZS
variable {F : zf_T} {X : zx_T} {cc : ByteArray} {own : String} {rm : Room} {cells slots pc ml : Nat} {ws : va_W} {L : List (Option Value)} {st : List Value}
theorem zz_swin (cx : zx F X cc own rm ml) {x v : Int32} {dflt lo hi off : Int} {offs : Array Int} {len tgt : Nat} (hd : decode cc pc = .ok (.tableswitch dflt lo hi offs, len)) (hxv : x = v) (h1 : ¬ v.toInt < lo) (h2 : ¬ hi < v.toInt) (ho : offs[(v.toInt - lo).toNat]? = some off) (ht : (pc : Int) + off = (tgt : Int)) (k : zj F X cells slots ws tgt L st) : zj F X cells slots ws pc L (.int x :: st) := by
  subst hxv
  obtain ⟨l, D, tys⟩ := F
  obtain ⟨p, e, R, s, m, args, below, meth, c, A, nL, Q⟩ := X
  obtain ⟨hx, hb, hml, hown, hts, hK, hn, hlo, hA, hR, hL9⟩ := cx
  exact fun H locs ls hP hD hS hl => lv_tableIn hx hb hd h1 h2 ho ht (k H locs ls hP hD hS hl)
theorem zz_swout (cx : zx F X cc own rm ml) {x : Int32} {dflt : Int} {offs : Array Int} {len tgt : Nat} (n : Nat) (hn30 : n < 2 ^ 30) (hd : decode cc pc = .ok (.tableswitch dflt 0 (n : Int) offs, len)) (hne : ∀ j : Nat, j ≤ n → ¬ x = Int32.ofNat j) (ht : (pc : Int) + dflt = (tgt : Int)) (k : zj F X cells slots ws tgt L st) : zj F X cells slots ws pc L (.int x :: st) := by
  have hout : x.toInt < 0 ∨ (n : Int) < x.toInt := by
    rcases pk_ix x (n := n + 1) (by omega) with h | h | ⟨j, hj, h⟩
    · left
      simpa [Int32.lt_iff_toInt_lt] using h
    · right
      have h9 := Int32.le_iff_toInt_le.mp h
      rw [nI_toInt (by omega)] at h9
      omega
    · exact absurd h (hne j (by omega))
  obtain ⟨l, D, tys⟩ := F
  obtain ⟨p, e, R, s, m, args, below, meth, c, A, nL, Q⟩ := X
  obtain ⟨hx, hb, hml, hown, hts, hK, hn, hlo, hA, hR, hL9⟩ := cx
  exact fun H locs ls hP hD hS hl => lv_tableOut hx hb hd hout ht (k H locs ls hP hD hS hl)
theorem zz_swl (cx : zx F X cc own rm ml) {x : Int32} {dflt off : Int} {ps : Array (Int × Int)} {len tgt : Nat} (hd : decode cc pc = .ok (.lookupswitch dflt ps, len)) (hp : (ps.toList.zip (ps.toList.drop 1)).all (fun (a, next) => a.1 < next.1) = true) (ho : Op.lookupswitch.offset ps.toList dflt x.toInt = off) (ht : (pc : Int) + off = (tgt : Int)) (k : zj F X cells slots ws tgt L st) : zj F X cells slots ws pc L (.int x :: st) := by
  obtain ⟨l, D, tys⟩ := F
  obtain ⟨p, e, R, s, m, args, below, meth, c, A, nL, Q⟩ := X
  obtain ⟨hx, hb, hml, hown, hts, hK, hn, hlo, hA, hR, hL9⟩ := cx
  exact fun H locs ls hP hD hS hl => lv_lookup hx hb hd hp ho ht (k H locs ls hP hD hS hl)
end ZS
theorem zs_t0 {x : Int32} (h : ¬ x = 0) : ¬ x.toInt = 0 := fun z => h (Int32.toInt_inj.mp (by rw [z]; decide))
theorem zs_t1 {x : Int32} (h : ¬ x = 1) : ¬ x.toInt = 1 := fun z => h (Int32.toInt_inj.mp (by rw [z]; decide))
theorem zs_l2 {x : Int32} {dflt a b : Int} (h0 : ¬ x = 0) (h1 : ¬ x = 1) : Op.lookupswitch.offset [(0, a), (1, b)] dflt x.toInt = dflt := by
  have e0 := zs_t0 h0
  have e1 := zs_t1 h1
  simp [Op.lookupswitch.offset, Ne.symm e0, Ne.symm e1, e0, e1]
theorem zo_ISE : Cond.initialized "java/lang/IllegalStateException" ∈ zt_ws := zt_m 10 (by decide +kernel) (by decide +kernel)
theorem zo_IOB : Cond.initialized "java/lang/IndexOutOfBoundsException" ∈ zt_ws := zt_m 11 (by decide +kernel) (by decide +kernel)
theorem zo_IAE : Cond.initialized "java/lang/IllegalArgumentException" ∈ zt_ws := zt_m 12 (by decide +kernel) (by decide +kernel)
theorem zx_36 : Cond.stringRef rn_X0 36 "there are 60 bars" ∈ tables_1 := List.mem_of_getElem? (i := 372) (by decide +kernel)
theorem zx_51 : Cond.stringRef rn_X0 51 "no such bar" ∈ tables_1 := List.mem_of_getElem? (i := 425) (by decide +kernel)
theorem zx_56 : Cond.stringRef rn_X0 56 "times are 2 to 4, and to is not below from" ∈ tables_1 := List.mem_of_getElem? (i := 441) (by decide +kernel)
theorem zx_63 : Cond.stringRef rn_X0 63 "the repeat can't lie there, or there are 20" ∈ tables_1 := List.mem_of_getElem? (i := 471) (by decide +kernel)
theorem zx_72 : Cond.stringRef rn_X0 72 "no such repeat or bar" ∈ tables_1 := List.mem_of_getElem? (i := 495) (by decide +kernel)
theorem zx_77 : Cond.stringRef rn_X0 77 "passes are some of the repeat's, and to is not below from" ∈ tables_1 := List.mem_of_getElem? (i := 500) (by decide +kernel)
theorem zx_83 : Cond.stringRef rn_X0 83 "the ending can't lie there, or there are 20" ∈ tables_1 := List.mem_of_getElem? (i := 509) (by decide +kernel)
theorem zx_89 : Cond.stringRef rn_X0 89 "no such sign" ∈ tables_1 := List.mem_of_getElem? (i := 521) (by decide +kernel)
theorem zx_95 : Cond.stringRef rn_X0 95 "to is 0 or 1, till is 0 to 2" ∈ tables_1 := List.mem_of_getElem? (i := 533) (by decide +kernel)
theorem zx_104 : Cond.stringRef rn_X0 104 "there is no jump behind the bar" ∈ tables_1 := List.mem_of_getElem? (i := 547) (by decide +kernel)
theorem zx_120 : Cond.stringRef rn_X0 120 "not so many bars are played" ∈ tables_1 := List.mem_of_getElem? (i := 559) (by decide +kernel)
theorem zx_138 : Cond.stringRef rn_X0 138 "what is 0 to 4" ∈ tables_1 := List.mem_of_getElem? (i := 560) (by decide +kernel)
theorem zx_146 : Cond.stringRef rn_X0 146 "n is 1 to 40" ∈ tables_1 := List.mem_of_getElem? (i := 582) (by decide +kernel)
theorem zx_148 : Cond.stringRef rn_X0 148 "not so many bars are played there" ∈ tables_1 := List.mem_of_getElem? (i := 583) (by decide +kernel)
theorem zx_159 : Cond.stringRef rn_X0 159 "no such item" ∈ tables_1 := List.mem_of_getElem? (i := 630) (by decide +kernel)
theorem zx_167 : Cond.stringRef rn_X0 167 "what is 0 or 1" ∈ tables_1 := List.mem_of_getElem? (i := 631) (by decide +kernel)
theorem zx_180 : Cond.stringRef rn_X0 180 "what is 0 to 7" ∈ tables_1 := List.mem_of_getElem? (i := 639) (by decide +kernel)
