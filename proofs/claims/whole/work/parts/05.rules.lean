/-! ===== own base: zj, a walk of one method over one world ===== -/
abbrev zx_T : Type := Program × Env × Room × State × MethodId × Array Value × List Frame × Method × Code × (Nat → Prop) × Nat × (State → Prop)
abbrev zf_T : Type := Launch × va_G × List (ClassId × FieldType)
/-- the nest's words -/
def zn_ok (U : State) : Prop := ∀ w ∈ zn_ws, va_Nw w U
theorem zn_warm {s U : State} (hW : s.WarmedH U.vm) (h : zn_ok s) : zn_ok U := by
  intro w hw
  have h1 := List.all_eq_true.mp zn_all w hw
  have h2 := h w hw
  cases w <;> first | exact va_Nw.warmF hW h2 | exact va_Nw.warmM hW h2 | cases h1
theorem zn_same {s U : State} (hv : s.vm = U.vm) (h : zn_ok s) : zn_ok U := by
  intro w hw
  have h1 := List.all_eq_true.mp zn_all w hw
  have h2 := h w hw
  cases w <;> first | exact va_Nw.same rfl hv h2 | cases h1
def zj (F : zf_T) (X : zx_T) (cells slots : Nat) (ws : va_W) (pc : Nat) (L : List (Option Value)) (st : List Value) : Prop :=
  match F, X with
  | (l, D, _), (p, e, R, s, m, args, below, meth, c, A, nL, Q) => ∀ (H : Heap) (locs : List Loc) (ls : Array Slot), va_P D vw_Cl ws H → va_D A ws → va_S A s.heap H locs → lz_has ls nL L → W p l e R s m args below meth c H locs cells slots Q (F0 m pc ls st)
def zx (F : zf_T) (X : zx_T) (cc : ByteArray) (own : String) (rm : Room) (ml : Nat) : Prop :=
  match F, X with
  | (_, D, tys), (p, _, R, s, m, args, _, meth, c, A, nL, _) => p.tables.exec = Jvm.exec ∧ c.code = cc ∧ c.maxLocals = nL ∧ s.vm.findClass own = some m.cls ∧ (∀ w ∈ zt_ws, w.before args s = true) ∧ va_K D vw_Cl tys s ∧ zn_ok s ∧ meth.locks = false ∧ (∀ q, s.heap.size ≤ q → A q) ∧ R = rm ∧ nL = ml
section ZR
variable {F : zf_T} {X : zx_T} {cc : ByteArray} {own : String} {rm : Room} {cells slots pc ml : Nat} {ws : va_W} {L : List (Option Value)} {st : List Value}
theorem zz_iconst (cx : zx F X cc own rm ml) {n : Int} {v : Int32} (hd : decode cc pc = .ok (.iconst n, 1)) (hv : Int32.ofInt n = v) (k : zj F X cells slots ws (pc + 1) L (.int v :: st)) : zj F X cells slots ws pc L st := by
  obtain ⟨l, D, tys⟩ := F
  obtain ⟨p, e, R, s, m, args, below, meth, c, A, nL, Q⟩ := X
  obtain ⟨hx, hb, hml, hown, hts, hK, hn, hlo, hA, hR, hL9⟩ := cx
  exact fun H locs ls hP hD hS hl => lv_iconst hx hb hd hv (k H locs ls hP hD hS hl)

theorem zz_bipush (cx : zx F X cc own rm ml) {n : Int} {v : Int32} (hd : decode cc pc = .ok (.bipush n, 2)) (hv : (Int8.ofInt n).toInt32 = v) (k : zj F X cells slots ws (pc + 2) L (.int v :: st)) : zj F X cells slots ws pc L st := by
  obtain ⟨l, D, tys⟩ := F
  obtain ⟨p, e, R, s, m, args, below, meth, c, A, nL, Q⟩ := X
  obtain ⟨hx, hb, hml, hown, hts, hK, hn, hlo, hA, hR, hL9⟩ := cx
  exact fun H locs ls hP hD hS hl => lv_bipush hx hb hd hv (k H locs ls hP hD hS hl)

theorem zz_sipush (cx : zx F X cc own rm ml) {n : Int} {v : Int32} (hd : decode cc pc = .ok (.sipush n, 3)) (hv : (Int16.ofInt n).toInt32 = v) (k : zj F X cells slots ws (pc + 3) L (.int v :: st)) : zj F X cells slots ws pc L st := by
  obtain ⟨l, D, tys⟩ := F
  obtain ⟨p, e, R, s, m, args, below, meth, c, A, nL, Q⟩ := X
  obtain ⟨hx, hb, hml, hown, hts, hK, hn, hlo, hA, hR, hL9⟩ := cx
  exact fun H locs ls hP hD hS hl => lv_sipush hx hb hd hv (k H locs ls hP hD hS hl)

theorem zz_ldc (cx : zx F X cc own rm ml) {index : Nat} {v : Int32} (hc : Cond.constant own index v ∈ zt_ws) (hd : decode cc pc = .ok (.ldc index, 2)) (k : zj F X cells slots ws (pc + 2) L (.int v :: st)) : zj F X cells slots ws pc L st := by
  obtain ⟨l, D, tys⟩ := F
  obtain ⟨p, e, R, s, m, args, below, meth, c, A, nL, Q⟩ := X
  obtain ⟨hx, hb, hml, hown, hts, hK, hn, hlo, hA, hR, hL9⟩ := cx
  exact fun H locs ls hP hD hS hl => lv_ldc hx hb hown (hts _ hc) hd (k H locs ls hP hD hS hl)

theorem zz_iload_n (cx : zx F X cc own rm ml) {j : Fin 4} {i : Nat} {x : Int32} (hd : decode cc pc = .ok (.iload_n j, 1)) (hi : (j : Nat) = i) (hL : L[i]? = some (some (.int x))) (k : zj F X cells slots ws (pc + 1) L (.int x :: st)) : zj F X cells slots ws pc L st := by
  obtain ⟨l, D, tys⟩ := F
  obtain ⟨p, e, R, s, m, args, below, meth, c, A, nL, Q⟩ := X
  obtain ⟨hx, hb, hml, hown, hts, hK, hn, hlo, hA, hR, hL9⟩ := cx
  exact fun H locs ls hP hD hS hl => lv_iload_n hx hb hd hi (hl.2.2 _ _ hL) (k H locs ls hP hD hS hl)

theorem zz_iload (cx : zx F X cc own rm ml) {i : Nat} {x : Int32} (hd : decode cc pc = .ok (.iload i, 2)) (hL : L[i]? = some (some (.int x))) (k : zj F X cells slots ws (pc + 2) L (.int x :: st)) : zj F X cells slots ws pc L st := by
  obtain ⟨l, D, tys⟩ := F
  obtain ⟨p, e, R, s, m, args, below, meth, c, A, nL, Q⟩ := X
  obtain ⟨hx, hb, hml, hown, hts, hK, hn, hlo, hA, hR, hL9⟩ := cx
  exact fun H locs ls hP hD hS hl => lv_iload hx hb hd (hl.2.2 _ _ hL) (k H locs ls hP hD hS hl)

theorem zz_aload_n (cx : zx F X cc own rm ml) {j : Fin 4} {i a : Nat} (hd : decode cc pc = .ok (.aload_n j, 1)) (hi : (j : Nat) = i) (hL : L[i]? = some (some (.ref a))) (k : zj F X cells slots ws (pc + 1) L (.ref a :: st)) : zj F X cells slots ws pc L st := by
  obtain ⟨l, D, tys⟩ := F
  obtain ⟨p, e, R, s, m, args, below, meth, c, A, nL, Q⟩ := X
  obtain ⟨hx, hb, hml, hown, hts, hK, hn, hlo, hA, hR, hL9⟩ := cx
  exact fun H locs ls hP hD hS hl => lv_aload_n hx hb hd hi (hl.2.2 _ _ hL) (k H locs ls hP hD hS hl)

theorem zz_aload (cx : zx F X cc own rm ml) {i a : Nat} (hd : decode cc pc = .ok (.aload i, 2)) (hL : L[i]? = some (some (.ref a))) (k : zj F X cells slots ws (pc + 2) L (.ref a :: st)) : zj F X cells slots ws pc L st := by
  obtain ⟨l, D, tys⟩ := F
  obtain ⟨p, e, R, s, m, args, below, meth, c, A, nL, Q⟩ := X
  obtain ⟨hx, hb, hml, hown, hts, hK, hn, hlo, hA, hR, hL9⟩ := cx
  exact fun H locs ls hP hD hS hl => lv_aload hx hb hd (hl.2.2 _ _ hL) (k H locs ls hP hD hS hl)

theorem zz_istore_n (cx : zx F X cc own rm ml) {j : Fin 4} {i : Nat} {x : Int32} (hd : decode cc pc = .ok (.istore_n j, 1)) (hi : (j : Nat) = i) (hi2 : i < ml) (hL : L.all lz_c1 = true) (k : zj F X cells slots ws (pc + 1) (L.set i (some (.int x))) st) : zj F X cells slots ws pc L (.int x :: st) := by
  obtain ⟨l, D, tys⟩ := F
  obtain ⟨p, e, R, s, m, args, below, meth, c, A, nL, Q⟩ := X
  obtain ⟨hx, hb, hml, hown, hts, hK, hn, hlo, hA, hR, hL9⟩ := cx
  exact fun H locs ls hP hD hS hl => lv_istore_n hx hb hd hi (lz_lv hl) (by rw [hL9]; exact hi2) rfl (fun ls h => k H locs ls hP hD hS (lz_back h hL))

theorem zz_istore (cx : zx F X cc own rm ml) {i : Nat} {x : Int32} (hd : decode cc pc = .ok (.istore i, 2)) (hi2 : i < ml) (hL : L.all lz_c1 = true) (k : zj F X cells slots ws (pc + 2) (L.set i (some (.int x))) st) : zj F X cells slots ws pc L (.int x :: st) := by
  obtain ⟨l, D, tys⟩ := F
  obtain ⟨p, e, R, s, m, args, below, meth, c, A, nL, Q⟩ := X
  obtain ⟨hx, hb, hml, hown, hts, hK, hn, hlo, hA, hR, hL9⟩ := cx
  exact fun H locs ls hP hD hS hl => lv_istore hx hb hd (lz_lv hl) (by rw [hL9]; exact hi2) rfl (fun ls h => k H locs ls hP hD hS (lz_back h hL))

theorem zz_astore_n (cx : zx F X cc own rm ml) {j : Fin 4} {i a : Nat} (hd : decode cc pc = .ok (.astore_n j, 1)) (hi : (j : Nat) = i) (hi2 : i < ml) (hL : L.all lz_c1 = true) (k : zj F X cells slots ws (pc + 1) (L.set i (some (.ref a))) st) : zj F X cells slots ws pc L (.ref a :: st) := by
  obtain ⟨l, D, tys⟩ := F
  obtain ⟨p, e, R, s, m, args, below, meth, c, A, nL, Q⟩ := X
  obtain ⟨hx, hb, hml, hown, hts, hK, hn, hlo, hA, hR, hL9⟩ := cx
  exact fun H locs ls hP hD hS hl => lv_astore_n hx hb hd hi (lz_lv hl) (by rw [hL9]; exact hi2) rfl (fun ls h => k H locs ls hP hD hS (lz_back h hL))

theorem zz_astore (cx : zx F X cc own rm ml) {i a : Nat} (hd : decode cc pc = .ok (.astore i, 2)) (hi2 : i < ml) (hL : L.all lz_c1 = true) (k : zj F X cells slots ws (pc + 2) (L.set i (some (.ref a))) st) : zj F X cells slots ws pc L (.ref a :: st) := by
  obtain ⟨l, D, tys⟩ := F
  obtain ⟨p, e, R, s, m, args, below, meth, c, A, nL, Q⟩ := X
  obtain ⟨hx, hb, hml, hown, hts, hK, hn, hlo, hA, hR, hL9⟩ := cx
  exact fun H locs ls hP hD hS hl => lv_astore hx hb hd (lz_lv hl) (by rw [hL9]; exact hi2) rfl (fun ls h => k H locs ls hP hD hS (lz_back h hL))

theorem zz_iinc (cx : zx F X cc own rm ml) {i : Nat} {n : Int} {x d : Int32} (hd : decode cc pc = .ok (.iinc i n, 3)) (hi : L[i]? = some (some (.int x))) (hv : Int32.ofInt n = d) (hi2 : i < ml) (hL : L.all lz_c1 = true) (k : zj F X cells slots ws (pc + 3) (L.set i (some (.int (x + d)))) st) : zj F X cells slots ws pc L st := by
  obtain ⟨l, D, tys⟩ := F
  obtain ⟨p, e, R, s, m, args, below, meth, c, A, nL, Q⟩ := X
  obtain ⟨hx, hb, hml, hown, hts, hK, hn, hlo, hA, hR, hL9⟩ := cx
  exact fun H locs ls hP hD hS hl => by
    obtain ⟨kk, hkk⟩ := List.getElem?_of_mem (lz_mem (q := (i, .int x)).mpr hi)
    exact lv_iinc hx hb hd (lz_lv hl) hkk (by rw [hv]) (by rw [hL9]; exact hi2) rfl (fun ls h => k H locs ls hP hD hS (lz_back h hL))

theorem zz_iadd (cx : zx F X cc own rm ml) {x y : Int32} (hd : decode cc pc = .ok (.iadd, 1)) (k : zj F X cells slots ws (pc + 1) L (.int (x + y) :: st)) : zj F X cells slots ws pc L (.int y :: .int x :: st) := by
  obtain ⟨l, D, tys⟩ := F
  obtain ⟨p, e, R, s, m, args, below, meth, c, A, nL, Q⟩ := X
  obtain ⟨hx, hb, hml, hown, hts, hK, hn, hlo, hA, hR, hL9⟩ := cx
  exact fun H locs ls hP hD hS hl => lv_iadd hx hb hd (k H locs ls hP hD hS hl)

theorem zz_isub (cx : zx F X cc own rm ml) {x y : Int32} (hd : decode cc pc = .ok (.isub, 1)) (k : zj F X cells slots ws (pc + 1) L (.int (x - y) :: st)) : zj F X cells slots ws pc L (.int y :: .int x :: st) := by
  obtain ⟨l, D, tys⟩ := F
  obtain ⟨p, e, R, s, m, args, below, meth, c, A, nL, Q⟩ := X
  obtain ⟨hx, hb, hml, hown, hts, hK, hn, hlo, hA, hR, hL9⟩ := cx
  exact fun H locs ls hP hD hS hl => lv_isub hx hb hd (k H locs ls hP hD hS hl)

theorem zz_imul (cx : zx F X cc own rm ml) {x y : Int32} (hd : decode cc pc = .ok (.imul, 1)) (k : zj F X cells slots ws (pc + 1) L (.int (x * y) :: st)) : zj F X cells slots ws pc L (.int y :: .int x :: st) := by
  obtain ⟨l, D, tys⟩ := F
  obtain ⟨p, e, R, s, m, args, below, meth, c, A, nL, Q⟩ := X
  obtain ⟨hx, hb, hml, hown, hts, hK, hn, hlo, hA, hR, hL9⟩ := cx
  exact fun H locs ls hP hD hS hl => lv_imul hx hb hd (k H locs ls hP hD hS hl)

theorem zz_iand (cx : zx F X cc own rm ml) {x y : Int32} (hd : decode cc pc = .ok (.iand, 1)) (k : zj F X cells slots ws (pc + 1) L (.int (x &&& y) :: st)) : zj F X cells slots ws pc L (.int y :: .int x :: st) := by
  obtain ⟨l, D, tys⟩ := F
  obtain ⟨p, e, R, s, m, args, below, meth, c, A, nL, Q⟩ := X
  obtain ⟨hx, hb, hml, hown, hts, hK, hn, hlo, hA, hR, hL9⟩ := cx
  exact fun H locs ls hP hD hS hl => lv_iand hx hb hd (k H locs ls hP hD hS hl)

theorem zz_ior (cx : zx F X cc own rm ml) {x y : Int32} (hd : decode cc pc = .ok (.ior, 1)) (k : zj F X cells slots ws (pc + 1) L (.int (x ||| y) :: st)) : zj F X cells slots ws pc L (.int y :: .int x :: st) := by
  obtain ⟨l, D, tys⟩ := F
  obtain ⟨p, e, R, s, m, args, below, meth, c, A, nL, Q⟩ := X
  obtain ⟨hx, hb, hml, hown, hts, hK, hn, hlo, hA, hR, hL9⟩ := cx
  exact fun H locs ls hP hD hS hl => lv_ior hx hb hd (k H locs ls hP hD hS hl)

theorem zz_ixor (cx : zx F X cc own rm ml) {x y : Int32} (hd : decode cc pc = .ok (.ixor, 1)) (k : zj F X cells slots ws (pc + 1) L (.int (x ^^^ y) :: st)) : zj F X cells slots ws pc L (.int y :: .int x :: st) := by
  obtain ⟨l, D, tys⟩ := F
  obtain ⟨p, e, R, s, m, args, below, meth, c, A, nL, Q⟩ := X
  obtain ⟨hx, hb, hml, hown, hts, hK, hn, hlo, hA, hR, hL9⟩ := cx
  exact fun H locs ls hP hD hS hl => lv_ixor hx hb hd (k H locs ls hP hD hS hl)

theorem zz_ishl (cx : zx F X cc own rm ml) {x y : Int32} (hd : decode cc pc = .ok (.ishl, 1)) (k : zj F X cells slots ws (pc + 1) L (.int (x <<< (y &&& 31)) :: st)) : zj F X cells slots ws pc L (.int y :: .int x :: st) := by
  obtain ⟨l, D, tys⟩ := F
  obtain ⟨p, e, R, s, m, args, below, meth, c, A, nL, Q⟩ := X
  obtain ⟨hx, hb, hml, hown, hts, hK, hn, hlo, hA, hR, hL9⟩ := cx
  exact fun H locs ls hP hD hS hl => lv_ishl hx hb hd (k H locs ls hP hD hS hl)

theorem zz_ishr (cx : zx F X cc own rm ml) {x y : Int32} (hd : decode cc pc = .ok (.ishr, 1)) (k : zj F X cells slots ws (pc + 1) L (.int (x >>> (y &&& 31)) :: st)) : zj F X cells slots ws pc L (.int y :: .int x :: st) := by
  obtain ⟨l, D, tys⟩ := F
  obtain ⟨p, e, R, s, m, args, below, meth, c, A, nL, Q⟩ := X
  obtain ⟨hx, hb, hml, hown, hts, hK, hn, hlo, hA, hR, hL9⟩ := cx
  exact fun H locs ls hP hD hS hl => lv_ishr hx hb hd (k H locs ls hP hD hS hl)

theorem zz_ineg (cx : zx F X cc own rm ml) {x : Int32} (hd : decode cc pc = .ok (.ineg, 1)) (k : zj F X cells slots ws (pc + 1) L (.int (-x) :: st)) : zj F X cells slots ws pc L (.int x :: st) := by
  obtain ⟨l, D, tys⟩ := F
  obtain ⟨p, e, R, s, m, args, below, meth, c, A, nL, Q⟩ := X
  obtain ⟨hx, hb, hml, hown, hts, hK, hn, hlo, hA, hR, hL9⟩ := cx
  exact fun H locs ls hP hD hS hl => lv_ineg hx hb hd (k H locs ls hP hD hS hl)

theorem zz_dup (cx : zx F X cc own rm ml) {v : Value} (hd : decode cc pc = .ok (.dup, 1)) (hv : v.category = 1) (k : zj F X cells slots ws (pc + 1) L (v :: v :: st)) : zj F X cells slots ws pc L (v :: st) := by
  obtain ⟨l, D, tys⟩ := F
  obtain ⟨p, e, R, s, m, args, below, meth, c, A, nL, Q⟩ := X
  obtain ⟨hx, hb, hml, hown, hts, hK, hn, hlo, hA, hR, hL9⟩ := cx
  exact fun H locs ls hP hD hS hl => lv_dup hx hb hd hv (k H locs ls hP hD hS hl)

theorem zz_dup2 (cx : zx F X cc own rm ml) {v w : Value} (hd : decode cc pc = .ok (.dup2, 1)) (hv : v.category = 1) (hw : w.category = 1) (k : zj F X cells slots ws (pc + 1) L (v :: w :: v :: w :: st)) : zj F X cells slots ws pc L (v :: w :: st) := by
  obtain ⟨l, D, tys⟩ := F
  obtain ⟨p, e, R, s, m, args, below, meth, c, A, nL, Q⟩ := X
  obtain ⟨hx, hb, hml, hown, hts, hK, hn, hlo, hA, hR, hL9⟩ := cx
  exact fun H locs ls hP hD hS hl => lv_dup2_11 hx hb hd hv hw (k H locs ls hP hD hS hl)

theorem zz_dup_x1 (cx : zx F X cc own rm ml) {v w : Value} (hd : decode cc pc = .ok (.dup_x1, 1)) (hv : v.category = 1) (hw : w.category = 1) (k : zj F X cells slots ws (pc + 1) L (v :: w :: v :: st)) : zj F X cells slots ws pc L (v :: w :: st) := by
  obtain ⟨l, D, tys⟩ := F
  obtain ⟨p, e, R, s, m, args, below, meth, c, A, nL, Q⟩ := X
  obtain ⟨hx, hb, hml, hown, hts, hK, hn, hlo, hA, hR, hL9⟩ := cx
  exact fun H locs ls hP hD hS hl => lv_dup_x1 hx hb hd hv hw (k H locs ls hP hD hS hl)

theorem zz_pop (cx : zx F X cc own rm ml) {v : Value} (hd : decode cc pc = .ok (.pop, 1)) (hv : v.category = 1) (k : zj F X cells slots ws (pc + 1) L st) : zj F X cells slots ws pc L (v :: st) := by
  obtain ⟨l, D, tys⟩ := F
  obtain ⟨p, e, R, s, m, args, below, meth, c, A, nL, Q⟩ := X
  obtain ⟨hx, hb, hml, hown, hts, hK, hn, hlo, hA, hR, hL9⟩ := cx
  exact fun H locs ls hP hD hS hl => lv_pop hx hb hd hv (k H locs ls hP hD hS hl)

theorem zz_goto (cx : zx F X cc own rm ml) {off : Int} {tgt : Nat} (hd : decode cc pc = .ok (.goto off, 3)) (ht : (pc : Int) + off = (tgt : Int)) (k : zj F X cells slots ws tgt L st) : zj F X cells slots ws pc L st := by
  obtain ⟨l, D, tys⟩ := F
  obtain ⟨p, e, R, s, m, args, below, meth, c, A, nL, Q⟩ := X
  obtain ⟨hx, hb, hml, hown, hts, hK, hn, hlo, hA, hR, hL9⟩ := cx
  exact fun H locs ls hP hD hS hl => lv_goto hx hb hd ht (k H locs ls hP hD hS hl)

theorem zz_idiv (cx : zx F X cc own rm ml) {α : Type} {t : Option α} {r : α} {x y : Int32} (hd : decode cc pc = .ok (.idiv, 1)) (h : gs_nz y t = some r) (k : t = some r → zj F X cells slots ws (pc + 1) L (.int (x / y) :: st)) : zj F X cells slots ws pc L (.int y :: .int x :: st) := by
  obtain ⟨hne, h⟩ := gs_nz_some h
  have k := k h
  obtain ⟨l, D, tys⟩ := F
  obtain ⟨p, e, R, s, m, args, below, meth, c, A, nL, Q⟩ := X
  obtain ⟨hx, hb, hml, hown, hts, hK, hn, hlo, hA, hR, hL9⟩ := cx
  exact fun H locs ls hP hD hS hl => lv_idiv hx hb hd hne (k H locs ls hP hD hS hl)

theorem zz_irem (cx : zx F X cc own rm ml) {α : Type} {t : Option α} {r : α} {x y : Int32} (hd : decode cc pc = .ok (.irem, 1)) (h : gs_nz y t = some r) (k : t = some r → zj F X cells slots ws (pc + 1) L (.int (x - x / y * y) :: st)) : zj F X cells slots ws pc L (.int y :: .int x :: st) := by
  obtain ⟨hne, h⟩ := gs_nz_some h
  have k := k h
  obtain ⟨l, D, tys⟩ := F
  obtain ⟨p, e, R, s, m, args, below, meth, c, A, nL, Q⟩ := X
  obtain ⟨hx, hb, hml, hown, hts, hK, hn, hlo, hA, hR, hL9⟩ := cx
  exact fun H locs ls hP hD hS hl => lv_irem hx hb hd hne (k H locs ls hP hD hS hl)

theorem zz_icmp_eq (cx : zx F X cc own rm ml) {α : Type} {a b : Option α} {r : α} {x y : Int32} {off : Int} {tgt : Nat} {dc : Decidable (x = y)} (hd : decode cc pc = .ok (.if_icmp .eq off, 3)) (ht : (pc : Int) + off = (tgt : Int)) (h : @ite _ (x = y) dc a b = some r) (ka : a = some r → zj F X cells slots ws tgt L st) (kb : b = some r → zj F X cells slots ws (pc + 3) L st) : zj F X cells slots ws pc L (.int y :: .int x :: st) := by
  obtain ⟨l, D, tys⟩ := F
  obtain ⟨p, e, R, s, m, args, below, meth, c, A, nL, Q⟩ := X
  obtain ⟨hx, hb, hml, hown, hts, hK, hn, hlo, hA, hR, hL9⟩ := cx
  intro H locs ls hP hD hS hl
  refine gs_if h (fun hc h => ?_) (fun hc h => ?_)
  · exact lv_icmp_eq hx hb hd ht (fun _ => ka h H locs ls hP hD hS hl) (fun hc2 => absurd hc hc2)
  · exact lv_icmp_eq hx hb hd ht (fun hc2 => absurd hc2 hc) (fun _ => kb h H locs ls hP hD hS hl)

theorem zz_if_eq (cx : zx F X cc own rm ml) {α : Type} {a b : Option α} {r : α} {x : Int32} {off : Int} {tgt : Nat} {dc : Decidable (x = 0)} (hd : decode cc pc = .ok (.ifCond .eq off, 3)) (ht : (pc : Int) + off = (tgt : Int)) (h : @ite _ (x = 0) dc a b = some r) (ka : a = some r → zj F X cells slots ws tgt L st) (kb : b = some r → zj F X cells slots ws (pc + 3) L st) : zj F X cells slots ws pc L (.int x :: st) := by
  obtain ⟨l, D, tys⟩ := F
  obtain ⟨p, e, R, s, m, args, below, meth, c, A, nL, Q⟩ := X
  obtain ⟨hx, hb, hml, hown, hts, hK, hn, hlo, hA, hR, hL9⟩ := cx
  intro H locs ls hP hD hS hl
  refine gs_if h (fun hc h => ?_) (fun hc h => ?_)
  · exact lv_if_eq hx hb hd ht (fun _ => ka h H locs ls hP hD hS hl) (fun hc2 => absurd hc hc2)
  · exact lv_if_eq hx hb hd ht (fun hc2 => absurd hc2 hc) (fun _ => kb h H locs ls hP hD hS hl)

theorem zz_icmp_ne (cx : zx F X cc own rm ml) {α : Type} {a b : Option α} {r : α} {x y : Int32} {off : Int} {tgt : Nat} {dc : Decidable (x = y)} (hd : decode cc pc = .ok (.if_icmp .ne off, 3)) (ht : (pc : Int) + off = (tgt : Int)) (h : @ite _ (x = y) dc a b = some r) (ka : a = some r → zj F X cells slots ws (pc + 3) L st) (kb : b = some r → zj F X cells slots ws tgt L st) : zj F X cells slots ws pc L (.int y :: .int x :: st) := by
  obtain ⟨l, D, tys⟩ := F
  obtain ⟨p, e, R, s, m, args, below, meth, c, A, nL, Q⟩ := X
  obtain ⟨hx, hb, hml, hown, hts, hK, hn, hlo, hA, hR, hL9⟩ := cx
  intro H locs ls hP hD hS hl
  refine gs_if h (fun hc h => ?_) (fun hc h => ?_)
  · exact lv_icmp_ne hx hb hd ht (fun hc2 => absurd hc hc2) (fun _ => ka h H locs ls hP hD hS hl)
  · exact lv_icmp_ne hx hb hd ht (fun _ => kb h H locs ls hP hD hS hl) (fun hc2 => absurd hc2 hc)

theorem zz_if_ne (cx : zx F X cc own rm ml) {α : Type} {a b : Option α} {r : α} {x : Int32} {off : Int} {tgt : Nat} {dc : Decidable (x = 0)} (hd : decode cc pc = .ok (.ifCond .ne off, 3)) (ht : (pc : Int) + off = (tgt : Int)) (h : @ite _ (x = 0) dc a b = some r) (ka : a = some r → zj F X cells slots ws (pc + 3) L st) (kb : b = some r → zj F X cells slots ws tgt L st) : zj F X cells slots ws pc L (.int x :: st) := by
  obtain ⟨l, D, tys⟩ := F
  obtain ⟨p, e, R, s, m, args, below, meth, c, A, nL, Q⟩ := X
  obtain ⟨hx, hb, hml, hown, hts, hK, hn, hlo, hA, hR, hL9⟩ := cx
  intro H locs ls hP hD hS hl
  refine gs_if h (fun hc h => ?_) (fun hc h => ?_)
  · exact lv_if_ne hx hb hd ht (fun hc2 => absurd hc hc2) (fun _ => ka h H locs ls hP hD hS hl)
  · exact lv_if_ne hx hb hd ht (fun _ => kb h H locs ls hP hD hS hl) (fun hc2 => absurd hc2 hc)

theorem zz_icmp_lt (cx : zx F X cc own rm ml) {α : Type} {a b : Option α} {r : α} {x y : Int32} {off : Int} {tgt : Nat} {dc : Decidable (x < y)} (hd : decode cc pc = .ok (.if_icmp .lt off, 3)) (ht : (pc : Int) + off = (tgt : Int)) (h : @ite _ (x < y) dc a b = some r) (ka : a = some r → zj F X cells slots ws tgt L st) (kb : b = some r → zj F X cells slots ws (pc + 3) L st) : zj F X cells slots ws pc L (.int y :: .int x :: st) := by
  obtain ⟨l, D, tys⟩ := F
  obtain ⟨p, e, R, s, m, args, below, meth, c, A, nL, Q⟩ := X
  obtain ⟨hx, hb, hml, hown, hts, hK, hn, hlo, hA, hR, hL9⟩ := cx
  intro H locs ls hP hD hS hl
  refine gs_if h (fun hc h => ?_) (fun hc h => ?_)
  · exact lv_icmp_lt hx hb hd ht (fun _ => ka h H locs ls hP hD hS hl) (fun hc2 => absurd hc hc2)
  · exact lv_icmp_lt hx hb hd ht (fun hc2 => absurd hc2 hc) (fun _ => kb h H locs ls hP hD hS hl)

theorem zz_if_lt (cx : zx F X cc own rm ml) {α : Type} {a b : Option α} {r : α} {x : Int32} {off : Int} {tgt : Nat} {dc : Decidable (x < 0)} (hd : decode cc pc = .ok (.ifCond .lt off, 3)) (ht : (pc : Int) + off = (tgt : Int)) (h : @ite _ (x < 0) dc a b = some r) (ka : a = some r → zj F X cells slots ws tgt L st) (kb : b = some r → zj F X cells slots ws (pc + 3) L st) : zj F X cells slots ws pc L (.int x :: st) := by
  obtain ⟨l, D, tys⟩ := F
  obtain ⟨p, e, R, s, m, args, below, meth, c, A, nL, Q⟩ := X
  obtain ⟨hx, hb, hml, hown, hts, hK, hn, hlo, hA, hR, hL9⟩ := cx
  intro H locs ls hP hD hS hl
  refine gs_if h (fun hc h => ?_) (fun hc h => ?_)
  · exact lv_if_lt hx hb hd ht (fun _ => ka h H locs ls hP hD hS hl) (fun hc2 => absurd hc hc2)
  · exact lv_if_lt hx hb hd ht (fun hc2 => absurd hc2 hc) (fun _ => kb h H locs ls hP hD hS hl)

theorem zz_icmp_ge (cx : zx F X cc own rm ml) {α : Type} {a b : Option α} {r : α} {x y : Int32} {off : Int} {tgt : Nat} {dc : Decidable (y ≤ x)} (hd : decode cc pc = .ok (.if_icmp .ge off, 3)) (ht : (pc : Int) + off = (tgt : Int)) (h : @ite _ (y ≤ x) dc a b = some r) (ka : a = some r → zj F X cells slots ws tgt L st) (kb : b = some r → zj F X cells slots ws (pc + 3) L st) : zj F X cells slots ws pc L (.int y :: .int x :: st) := by
  obtain ⟨l, D, tys⟩ := F
  obtain ⟨p, e, R, s, m, args, below, meth, c, A, nL, Q⟩ := X
  obtain ⟨hx, hb, hml, hown, hts, hK, hn, hlo, hA, hR, hL9⟩ := cx
  intro H locs ls hP hD hS hl
  refine gs_if h (fun hc h => ?_) (fun hc h => ?_)
  · exact lv_icmp_ge hx hb hd ht (fun _ => ka h H locs ls hP hD hS hl) (fun hc2 => absurd hc hc2)
  · exact lv_icmp_ge hx hb hd ht (fun hc2 => absurd hc2 hc) (fun _ => kb h H locs ls hP hD hS hl)

theorem zz_if_ge (cx : zx F X cc own rm ml) {α : Type} {a b : Option α} {r : α} {x : Int32} {off : Int} {tgt : Nat} {dc : Decidable (0 ≤ x)} (hd : decode cc pc = .ok (.ifCond .ge off, 3)) (ht : (pc : Int) + off = (tgt : Int)) (h : @ite _ (0 ≤ x) dc a b = some r) (ka : a = some r → zj F X cells slots ws tgt L st) (kb : b = some r → zj F X cells slots ws (pc + 3) L st) : zj F X cells slots ws pc L (.int x :: st) := by
  obtain ⟨l, D, tys⟩ := F
  obtain ⟨p, e, R, s, m, args, below, meth, c, A, nL, Q⟩ := X
  obtain ⟨hx, hb, hml, hown, hts, hK, hn, hlo, hA, hR, hL9⟩ := cx
  intro H locs ls hP hD hS hl
  refine gs_if h (fun hc h => ?_) (fun hc h => ?_)
  · exact lv_if_ge hx hb hd ht (fun _ => ka h H locs ls hP hD hS hl) (fun hc2 => absurd hc hc2)
  · exact lv_if_ge hx hb hd ht (fun hc2 => absurd hc2 hc) (fun _ => kb h H locs ls hP hD hS hl)

theorem zz_icmp_gt (cx : zx F X cc own rm ml) {α : Type} {a b : Option α} {r : α} {x y : Int32} {off : Int} {tgt : Nat} {dc : Decidable (y < x)} (hd : decode cc pc = .ok (.if_icmp .gt off, 3)) (ht : (pc : Int) + off = (tgt : Int)) (h : @ite _ (y < x) dc a b = some r) (ka : a = some r → zj F X cells slots ws tgt L st) (kb : b = some r → zj F X cells slots ws (pc + 3) L st) : zj F X cells slots ws pc L (.int y :: .int x :: st) := by
  obtain ⟨l, D, tys⟩ := F
  obtain ⟨p, e, R, s, m, args, below, meth, c, A, nL, Q⟩ := X
  obtain ⟨hx, hb, hml, hown, hts, hK, hn, hlo, hA, hR, hL9⟩ := cx
  intro H locs ls hP hD hS hl
  refine gs_if h (fun hc h => ?_) (fun hc h => ?_)
  · exact lv_icmp_gt hx hb hd ht (fun _ => ka h H locs ls hP hD hS hl) (fun hc2 => absurd hc hc2)
  · exact lv_icmp_gt hx hb hd ht (fun hc2 => absurd hc2 hc) (fun _ => kb h H locs ls hP hD hS hl)

theorem zz_if_gt (cx : zx F X cc own rm ml) {α : Type} {a b : Option α} {r : α} {x : Int32} {off : Int} {tgt : Nat} {dc : Decidable (0 < x)} (hd : decode cc pc = .ok (.ifCond .gt off, 3)) (ht : (pc : Int) + off = (tgt : Int)) (h : @ite _ (0 < x) dc a b = some r) (ka : a = some r → zj F X cells slots ws tgt L st) (kb : b = some r → zj F X cells slots ws (pc + 3) L st) : zj F X cells slots ws pc L (.int x :: st) := by
  obtain ⟨l, D, tys⟩ := F
  obtain ⟨p, e, R, s, m, args, below, meth, c, A, nL, Q⟩ := X
  obtain ⟨hx, hb, hml, hown, hts, hK, hn, hlo, hA, hR, hL9⟩ := cx
  intro H locs ls hP hD hS hl
  refine gs_if h (fun hc h => ?_) (fun hc h => ?_)
  · exact lv_if_gt hx hb hd ht (fun _ => ka h H locs ls hP hD hS hl) (fun hc2 => absurd hc hc2)
  · exact lv_if_gt hx hb hd ht (fun hc2 => absurd hc2 hc) (fun _ => kb h H locs ls hP hD hS hl)

theorem zz_icmp_le (cx : zx F X cc own rm ml) {α : Type} {a b : Option α} {r : α} {x y : Int32} {off : Int} {tgt : Nat} {dc : Decidable (x ≤ y)} (hd : decode cc pc = .ok (.if_icmp .le off, 3)) (ht : (pc : Int) + off = (tgt : Int)) (h : @ite _ (x ≤ y) dc a b = some r) (ka : a = some r → zj F X cells slots ws tgt L st) (kb : b = some r → zj F X cells slots ws (pc + 3) L st) : zj F X cells slots ws pc L (.int y :: .int x :: st) := by
  obtain ⟨l, D, tys⟩ := F
  obtain ⟨p, e, R, s, m, args, below, meth, c, A, nL, Q⟩ := X
  obtain ⟨hx, hb, hml, hown, hts, hK, hn, hlo, hA, hR, hL9⟩ := cx
  intro H locs ls hP hD hS hl
  refine gs_if h (fun hc h => ?_) (fun hc h => ?_)
  · exact lv_icmp_le hx hb hd ht (fun _ => ka h H locs ls hP hD hS hl) (fun hc2 => absurd hc hc2)
  · exact lv_icmp_le hx hb hd ht (fun hc2 => absurd hc2 hc) (fun _ => kb h H locs ls hP hD hS hl)

theorem zz_if_le (cx : zx F X cc own rm ml) {α : Type} {a b : Option α} {r : α} {x : Int32} {off : Int} {tgt : Nat} {dc : Decidable (x ≤ 0)} (hd : decode cc pc = .ok (.ifCond .le off, 3)) (ht : (pc : Int) + off = (tgt : Int)) (h : @ite _ (x ≤ 0) dc a b = some r) (ka : a = some r → zj F X cells slots ws tgt L st) (kb : b = some r → zj F X cells slots ws (pc + 3) L st) : zj F X cells slots ws pc L (.int x :: st) := by
  obtain ⟨l, D, tys⟩ := F
  obtain ⟨p, e, R, s, m, args, below, meth, c, A, nL, Q⟩ := X
  obtain ⟨hx, hb, hml, hown, hts, hK, hn, hlo, hA, hR, hL9⟩ := cx
  intro H locs ls hP hD hS hl
  refine gs_if h (fun hc h => ?_) (fun hc h => ?_)
  · exact lv_if_le hx hb hd ht (fun _ => ka h H locs ls hP hD hS hl) (fun hc2 => absurd hc hc2)
  · exact lv_if_le hx hb hd ht (fun hc2 => absurd hc2 hc) (fun _ => kb h H locs ls hP hD hS hl)

theorem zz_icmp_eq_t (cx : zx F X cc own rm ml) {x y : Int32} {off : Int} {tgt : Nat} (hd : decode cc pc = .ok (.if_icmp .eq off, 3)) (ht : (pc : Int) + off = (tgt : Int)) (hc : x = y) (k : zj F X cells slots ws tgt L st) : zj F X cells slots ws pc L (.int y :: .int x :: st) := by
  obtain ⟨l, D, tys⟩ := F
  obtain ⟨p, e, R, s, m, args, below, meth, c, A, nL, Q⟩ := X
  obtain ⟨hx, hb, hml, hown, hts, hK, hn, hlo, hA, hR, hL9⟩ := cx
  exact fun H locs ls hP hD hS hl => lv_icmp_eq hx hb hd ht (fun _ => k H locs ls hP hD hS hl) (fun hc2 => absurd hc hc2)

theorem zz_icmp_eq_f (cx : zx F X cc own rm ml) {x y : Int32} {off : Int} {tgt : Nat} (hd : decode cc pc = .ok (.if_icmp .eq off, 3)) (ht : (pc : Int) + off = (tgt : Int)) (hc : ¬ x = y) (k : zj F X cells slots ws (pc + 3) L st) : zj F X cells slots ws pc L (.int y :: .int x :: st) := by
  obtain ⟨l, D, tys⟩ := F
  obtain ⟨p, e, R, s, m, args, below, meth, c, A, nL, Q⟩ := X
  obtain ⟨hx, hb, hml, hown, hts, hK, hn, hlo, hA, hR, hL9⟩ := cx
  intro H locs ls hP hD hS hl
  refine lv_icmp_eq hx hb hd ht (fun hc2 => ?_) (fun hc2 => ?_)
  · first | exact k H locs ls hP hD hS hl | exact absurd hc hc2 | exact absurd hc2 hc
  · first | exact k H locs ls hP hD hS hl | exact absurd hc hc2 | exact absurd hc2 hc

theorem zz_if_eq_t (cx : zx F X cc own rm ml) {x : Int32} {off : Int} {tgt : Nat} (hd : decode cc pc = .ok (.ifCond .eq off, 3)) (ht : (pc : Int) + off = (tgt : Int)) (hc : x = 0) (k : zj F X cells slots ws tgt L st) : zj F X cells slots ws pc L (.int x :: st) := by
  obtain ⟨l, D, tys⟩ := F
  obtain ⟨p, e, R, s, m, args, below, meth, c, A, nL, Q⟩ := X
  obtain ⟨hx, hb, hml, hown, hts, hK, hn, hlo, hA, hR, hL9⟩ := cx
  exact fun H locs ls hP hD hS hl => lv_if_eq hx hb hd ht (fun _ => k H locs ls hP hD hS hl) (fun hc2 => absurd hc hc2)

theorem zz_if_eq_f (cx : zx F X cc own rm ml) {x : Int32} {off : Int} {tgt : Nat} (hd : decode cc pc = .ok (.ifCond .eq off, 3)) (ht : (pc : Int) + off = (tgt : Int)) (hc : ¬ x = 0) (k : zj F X cells slots ws (pc + 3) L st) : zj F X cells slots ws pc L (.int x :: st) := by
  obtain ⟨l, D, tys⟩ := F
  obtain ⟨p, e, R, s, m, args, below, meth, c, A, nL, Q⟩ := X
  obtain ⟨hx, hb, hml, hown, hts, hK, hn, hlo, hA, hR, hL9⟩ := cx
  intro H locs ls hP hD hS hl
  refine lv_if_eq hx hb hd ht (fun hc2 => ?_) (fun hc2 => ?_)
  · first | exact k H locs ls hP hD hS hl | exact absurd hc hc2 | exact absurd hc2 hc
  · first | exact k H locs ls hP hD hS hl | exact absurd hc hc2 | exact absurd hc2 hc

theorem zz_icmp_ne_t (cx : zx F X cc own rm ml) {x y : Int32} {off : Int} {tgt : Nat} (hd : decode cc pc = .ok (.if_icmp .ne off, 3)) (ht : (pc : Int) + off = (tgt : Int)) (hc : ¬ x = y) (k : zj F X cells slots ws tgt L st) : zj F X cells slots ws pc L (.int y :: .int x :: st) := by
  obtain ⟨l, D, tys⟩ := F
  obtain ⟨p, e, R, s, m, args, below, meth, c, A, nL, Q⟩ := X
  obtain ⟨hx, hb, hml, hown, hts, hK, hn, hlo, hA, hR, hL9⟩ := cx
  intro H locs ls hP hD hS hl
  refine lv_icmp_ne hx hb hd ht (fun hc2 => ?_) (fun hc2 => ?_)
  · first | exact k H locs ls hP hD hS hl | exact absurd hc hc2 | exact absurd hc2 hc
  · first | exact k H locs ls hP hD hS hl | exact absurd hc hc2 | exact absurd hc2 hc

theorem zz_icmp_ne_f (cx : zx F X cc own rm ml) {x y : Int32} {off : Int} {tgt : Nat} (hd : decode cc pc = .ok (.if_icmp .ne off, 3)) (ht : (pc : Int) + off = (tgt : Int)) (hc : x = y) (k : zj F X cells slots ws (pc + 3) L st) : zj F X cells slots ws pc L (.int y :: .int x :: st) := by
  obtain ⟨l, D, tys⟩ := F
  obtain ⟨p, e, R, s, m, args, below, meth, c, A, nL, Q⟩ := X
  obtain ⟨hx, hb, hml, hown, hts, hK, hn, hlo, hA, hR, hL9⟩ := cx
  intro H locs ls hP hD hS hl
  refine lv_icmp_ne hx hb hd ht (fun hc2 => ?_) (fun hc2 => ?_)
  · first | exact k H locs ls hP hD hS hl | exact absurd hc hc2 | exact absurd hc2 hc
  · first | exact k H locs ls hP hD hS hl | exact absurd hc hc2 | exact absurd hc2 hc

theorem zz_if_ne_t (cx : zx F X cc own rm ml) {x : Int32} {off : Int} {tgt : Nat} (hd : decode cc pc = .ok (.ifCond .ne off, 3)) (ht : (pc : Int) + off = (tgt : Int)) (hc : ¬ x = 0) (k : zj F X cells slots ws tgt L st) : zj F X cells slots ws pc L (.int x :: st) := by
  obtain ⟨l, D, tys⟩ := F
  obtain ⟨p, e, R, s, m, args, below, meth, c, A, nL, Q⟩ := X
  obtain ⟨hx, hb, hml, hown, hts, hK, hn, hlo, hA, hR, hL9⟩ := cx
  intro H locs ls hP hD hS hl
  refine lv_if_ne hx hb hd ht (fun hc2 => ?_) (fun hc2 => ?_)
  · first | exact k H locs ls hP hD hS hl | exact absurd hc hc2 | exact absurd hc2 hc
  · first | exact k H locs ls hP hD hS hl | exact absurd hc hc2 | exact absurd hc2 hc

theorem zz_if_ne_f (cx : zx F X cc own rm ml) {x : Int32} {off : Int} {tgt : Nat} (hd : decode cc pc = .ok (.ifCond .ne off, 3)) (ht : (pc : Int) + off = (tgt : Int)) (hc : x = 0) (k : zj F X cells slots ws (pc + 3) L st) : zj F X cells slots ws pc L (.int x :: st) := by
  obtain ⟨l, D, tys⟩ := F
  obtain ⟨p, e, R, s, m, args, below, meth, c, A, nL, Q⟩ := X
  obtain ⟨hx, hb, hml, hown, hts, hK, hn, hlo, hA, hR, hL9⟩ := cx
  intro H locs ls hP hD hS hl
  refine lv_if_ne hx hb hd ht (fun hc2 => ?_) (fun hc2 => ?_)
  · first | exact k H locs ls hP hD hS hl | exact absurd hc hc2 | exact absurd hc2 hc
  · first | exact k H locs ls hP hD hS hl | exact absurd hc hc2 | exact absurd hc2 hc

theorem zz_icmp_lt_t (cx : zx F X cc own rm ml) {x y : Int32} {off : Int} {tgt : Nat} (hd : decode cc pc = .ok (.if_icmp .lt off, 3)) (ht : (pc : Int) + off = (tgt : Int)) (hc : x < y) (k : zj F X cells slots ws tgt L st) : zj F X cells slots ws pc L (.int y :: .int x :: st) := by
  obtain ⟨l, D, tys⟩ := F
  obtain ⟨p, e, R, s, m, args, below, meth, c, A, nL, Q⟩ := X
  obtain ⟨hx, hb, hml, hown, hts, hK, hn, hlo, hA, hR, hL9⟩ := cx
  exact fun H locs ls hP hD hS hl => lv_icmp_lt hx hb hd ht (fun _ => k H locs ls hP hD hS hl) (fun hc2 => absurd hc hc2)

theorem zz_icmp_lt_f (cx : zx F X cc own rm ml) {x y : Int32} {off : Int} {tgt : Nat} (hd : decode cc pc = .ok (.if_icmp .lt off, 3)) (ht : (pc : Int) + off = (tgt : Int)) (hc : ¬ x < y) (k : zj F X cells slots ws (pc + 3) L st) : zj F X cells slots ws pc L (.int y :: .int x :: st) := by
  obtain ⟨l, D, tys⟩ := F
  obtain ⟨p, e, R, s, m, args, below, meth, c, A, nL, Q⟩ := X
  obtain ⟨hx, hb, hml, hown, hts, hK, hn, hlo, hA, hR, hL9⟩ := cx
  intro H locs ls hP hD hS hl
  refine lv_icmp_lt hx hb hd ht (fun hc2 => ?_) (fun hc2 => ?_)
  · first | exact k H locs ls hP hD hS hl | exact absurd hc hc2 | exact absurd hc2 hc
  · first | exact k H locs ls hP hD hS hl | exact absurd hc hc2 | exact absurd hc2 hc

theorem zz_if_lt_t (cx : zx F X cc own rm ml) {x : Int32} {off : Int} {tgt : Nat} (hd : decode cc pc = .ok (.ifCond .lt off, 3)) (ht : (pc : Int) + off = (tgt : Int)) (hc : x < 0) (k : zj F X cells slots ws tgt L st) : zj F X cells slots ws pc L (.int x :: st) := by
  obtain ⟨l, D, tys⟩ := F
  obtain ⟨p, e, R, s, m, args, below, meth, c, A, nL, Q⟩ := X
  obtain ⟨hx, hb, hml, hown, hts, hK, hn, hlo, hA, hR, hL9⟩ := cx
  exact fun H locs ls hP hD hS hl => lv_if_lt hx hb hd ht (fun _ => k H locs ls hP hD hS hl) (fun hc2 => absurd hc hc2)

theorem zz_if_lt_f (cx : zx F X cc own rm ml) {x : Int32} {off : Int} {tgt : Nat} (hd : decode cc pc = .ok (.ifCond .lt off, 3)) (ht : (pc : Int) + off = (tgt : Int)) (hc : ¬ x < 0) (k : zj F X cells slots ws (pc + 3) L st) : zj F X cells slots ws pc L (.int x :: st) := by
  obtain ⟨l, D, tys⟩ := F
  obtain ⟨p, e, R, s, m, args, below, meth, c, A, nL, Q⟩ := X
  obtain ⟨hx, hb, hml, hown, hts, hK, hn, hlo, hA, hR, hL9⟩ := cx
  intro H locs ls hP hD hS hl
  refine lv_if_lt hx hb hd ht (fun hc2 => ?_) (fun hc2 => ?_)
  · first | exact k H locs ls hP hD hS hl | exact absurd hc hc2 | exact absurd hc2 hc
  · first | exact k H locs ls hP hD hS hl | exact absurd hc hc2 | exact absurd hc2 hc

theorem zz_icmp_ge_t (cx : zx F X cc own rm ml) {x y : Int32} {off : Int} {tgt : Nat} (hd : decode cc pc = .ok (.if_icmp .ge off, 3)) (ht : (pc : Int) + off = (tgt : Int)) (hc : y ≤ x) (k : zj F X cells slots ws tgt L st) : zj F X cells slots ws pc L (.int y :: .int x :: st) := by
  obtain ⟨l, D, tys⟩ := F
  obtain ⟨p, e, R, s, m, args, below, meth, c, A, nL, Q⟩ := X
  obtain ⟨hx, hb, hml, hown, hts, hK, hn, hlo, hA, hR, hL9⟩ := cx
  exact fun H locs ls hP hD hS hl => lv_icmp_ge hx hb hd ht (fun _ => k H locs ls hP hD hS hl) (fun hc2 => absurd hc hc2)

theorem zz_icmp_ge_f (cx : zx F X cc own rm ml) {x y : Int32} {off : Int} {tgt : Nat} (hd : decode cc pc = .ok (.if_icmp .ge off, 3)) (ht : (pc : Int) + off = (tgt : Int)) (hc : ¬ y ≤ x) (k : zj F X cells slots ws (pc + 3) L st) : zj F X cells slots ws pc L (.int y :: .int x :: st) := by
  obtain ⟨l, D, tys⟩ := F
  obtain ⟨p, e, R, s, m, args, below, meth, c, A, nL, Q⟩ := X
  obtain ⟨hx, hb, hml, hown, hts, hK, hn, hlo, hA, hR, hL9⟩ := cx
  intro H locs ls hP hD hS hl
  refine lv_icmp_ge hx hb hd ht (fun hc2 => ?_) (fun hc2 => ?_)
  · first | exact k H locs ls hP hD hS hl | exact absurd hc hc2 | exact absurd hc2 hc
  · first | exact k H locs ls hP hD hS hl | exact absurd hc hc2 | exact absurd hc2 hc

theorem zz_if_ge_t (cx : zx F X cc own rm ml) {x : Int32} {off : Int} {tgt : Nat} (hd : decode cc pc = .ok (.ifCond .ge off, 3)) (ht : (pc : Int) + off = (tgt : Int)) (hc : 0 ≤ x) (k : zj F X cells slots ws tgt L st) : zj F X cells slots ws pc L (.int x :: st) := by
  obtain ⟨l, D, tys⟩ := F
  obtain ⟨p, e, R, s, m, args, below, meth, c, A, nL, Q⟩ := X
  obtain ⟨hx, hb, hml, hown, hts, hK, hn, hlo, hA, hR, hL9⟩ := cx
  exact fun H locs ls hP hD hS hl => lv_if_ge hx hb hd ht (fun _ => k H locs ls hP hD hS hl) (fun hc2 => absurd hc hc2)

theorem zz_if_ge_f (cx : zx F X cc own rm ml) {x : Int32} {off : Int} {tgt : Nat} (hd : decode cc pc = .ok (.ifCond .ge off, 3)) (ht : (pc : Int) + off = (tgt : Int)) (hc : ¬ 0 ≤ x) (k : zj F X cells slots ws (pc + 3) L st) : zj F X cells slots ws pc L (.int x :: st) := by
  obtain ⟨l, D, tys⟩ := F
  obtain ⟨p, e, R, s, m, args, below, meth, c, A, nL, Q⟩ := X
  obtain ⟨hx, hb, hml, hown, hts, hK, hn, hlo, hA, hR, hL9⟩ := cx
  intro H locs ls hP hD hS hl
  refine lv_if_ge hx hb hd ht (fun hc2 => ?_) (fun hc2 => ?_)
  · first | exact k H locs ls hP hD hS hl | exact absurd hc hc2 | exact absurd hc2 hc
  · first | exact k H locs ls hP hD hS hl | exact absurd hc hc2 | exact absurd hc2 hc

theorem zz_icmp_gt_t (cx : zx F X cc own rm ml) {x y : Int32} {off : Int} {tgt : Nat} (hd : decode cc pc = .ok (.if_icmp .gt off, 3)) (ht : (pc : Int) + off = (tgt : Int)) (hc : y < x) (k : zj F X cells slots ws tgt L st) : zj F X cells slots ws pc L (.int y :: .int x :: st) := by
  obtain ⟨l, D, tys⟩ := F
  obtain ⟨p, e, R, s, m, args, below, meth, c, A, nL, Q⟩ := X
  obtain ⟨hx, hb, hml, hown, hts, hK, hn, hlo, hA, hR, hL9⟩ := cx
  exact fun H locs ls hP hD hS hl => lv_icmp_gt hx hb hd ht (fun _ => k H locs ls hP hD hS hl) (fun hc2 => absurd hc hc2)

theorem zz_icmp_gt_f (cx : zx F X cc own rm ml) {x y : Int32} {off : Int} {tgt : Nat} (hd : decode cc pc = .ok (.if_icmp .gt off, 3)) (ht : (pc : Int) + off = (tgt : Int)) (hc : ¬ y < x) (k : zj F X cells slots ws (pc + 3) L st) : zj F X cells slots ws pc L (.int y :: .int x :: st) := by
  obtain ⟨l, D, tys⟩ := F
  obtain ⟨p, e, R, s, m, args, below, meth, c, A, nL, Q⟩ := X
  obtain ⟨hx, hb, hml, hown, hts, hK, hn, hlo, hA, hR, hL9⟩ := cx
  intro H locs ls hP hD hS hl
  refine lv_icmp_gt hx hb hd ht (fun hc2 => ?_) (fun hc2 => ?_)
  · first | exact k H locs ls hP hD hS hl | exact absurd hc hc2 | exact absurd hc2 hc
  · first | exact k H locs ls hP hD hS hl | exact absurd hc hc2 | exact absurd hc2 hc

theorem zz_if_gt_t (cx : zx F X cc own rm ml) {x : Int32} {off : Int} {tgt : Nat} (hd : decode cc pc = .ok (.ifCond .gt off, 3)) (ht : (pc : Int) + off = (tgt : Int)) (hc : 0 < x) (k : zj F X cells slots ws tgt L st) : zj F X cells slots ws pc L (.int x :: st) := by
  obtain ⟨l, D, tys⟩ := F
  obtain ⟨p, e, R, s, m, args, below, meth, c, A, nL, Q⟩ := X
  obtain ⟨hx, hb, hml, hown, hts, hK, hn, hlo, hA, hR, hL9⟩ := cx
  exact fun H locs ls hP hD hS hl => lv_if_gt hx hb hd ht (fun _ => k H locs ls hP hD hS hl) (fun hc2 => absurd hc hc2)

theorem zz_if_gt_f (cx : zx F X cc own rm ml) {x : Int32} {off : Int} {tgt : Nat} (hd : decode cc pc = .ok (.ifCond .gt off, 3)) (ht : (pc : Int) + off = (tgt : Int)) (hc : ¬ 0 < x) (k : zj F X cells slots ws (pc + 3) L st) : zj F X cells slots ws pc L (.int x :: st) := by
  obtain ⟨l, D, tys⟩ := F
  obtain ⟨p, e, R, s, m, args, below, meth, c, A, nL, Q⟩ := X
  obtain ⟨hx, hb, hml, hown, hts, hK, hn, hlo, hA, hR, hL9⟩ := cx
  intro H locs ls hP hD hS hl
  refine lv_if_gt hx hb hd ht (fun hc2 => ?_) (fun hc2 => ?_)
  · first | exact k H locs ls hP hD hS hl | exact absurd hc hc2 | exact absurd hc2 hc
  · first | exact k H locs ls hP hD hS hl | exact absurd hc hc2 | exact absurd hc2 hc

theorem zz_icmp_le_t (cx : zx F X cc own rm ml) {x y : Int32} {off : Int} {tgt : Nat} (hd : decode cc pc = .ok (.if_icmp .le off, 3)) (ht : (pc : Int) + off = (tgt : Int)) (hc : x ≤ y) (k : zj F X cells slots ws tgt L st) : zj F X cells slots ws pc L (.int y :: .int x :: st) := by
  obtain ⟨l, D, tys⟩ := F
  obtain ⟨p, e, R, s, m, args, below, meth, c, A, nL, Q⟩ := X
  obtain ⟨hx, hb, hml, hown, hts, hK, hn, hlo, hA, hR, hL9⟩ := cx
  exact fun H locs ls hP hD hS hl => lv_icmp_le hx hb hd ht (fun _ => k H locs ls hP hD hS hl) (fun hc2 => absurd hc hc2)

theorem zz_icmp_le_f (cx : zx F X cc own rm ml) {x y : Int32} {off : Int} {tgt : Nat} (hd : decode cc pc = .ok (.if_icmp .le off, 3)) (ht : (pc : Int) + off = (tgt : Int)) (hc : ¬ x ≤ y) (k : zj F X cells slots ws (pc + 3) L st) : zj F X cells slots ws pc L (.int y :: .int x :: st) := by
  obtain ⟨l, D, tys⟩ := F
  obtain ⟨p, e, R, s, m, args, below, meth, c, A, nL, Q⟩ := X
  obtain ⟨hx, hb, hml, hown, hts, hK, hn, hlo, hA, hR, hL9⟩ := cx
  intro H locs ls hP hD hS hl
  refine lv_icmp_le hx hb hd ht (fun hc2 => ?_) (fun hc2 => ?_)
  · first | exact k H locs ls hP hD hS hl | exact absurd hc hc2 | exact absurd hc2 hc
  · first | exact k H locs ls hP hD hS hl | exact absurd hc hc2 | exact absurd hc2 hc

theorem zz_if_le_t (cx : zx F X cc own rm ml) {x : Int32} {off : Int} {tgt : Nat} (hd : decode cc pc = .ok (.ifCond .le off, 3)) (ht : (pc : Int) + off = (tgt : Int)) (hc : x ≤ 0) (k : zj F X cells slots ws tgt L st) : zj F X cells slots ws pc L (.int x :: st) := by
  obtain ⟨l, D, tys⟩ := F
  obtain ⟨p, e, R, s, m, args, below, meth, c, A, nL, Q⟩ := X
  obtain ⟨hx, hb, hml, hown, hts, hK, hn, hlo, hA, hR, hL9⟩ := cx
  exact fun H locs ls hP hD hS hl => lv_if_le hx hb hd ht (fun _ => k H locs ls hP hD hS hl) (fun hc2 => absurd hc hc2)

theorem zz_if_le_f (cx : zx F X cc own rm ml) {x : Int32} {off : Int} {tgt : Nat} (hd : decode cc pc = .ok (.ifCond .le off, 3)) (ht : (pc : Int) + off = (tgt : Int)) (hc : ¬ x ≤ 0) (k : zj F X cells slots ws (pc + 3) L st) : zj F X cells slots ws pc L (.int x :: st) := by
  obtain ⟨l, D, tys⟩ := F
  obtain ⟨p, e, R, s, m, args, below, meth, c, A, nL, Q⟩ := X
  obtain ⟨hx, hb, hml, hown, hts, hK, hn, hlo, hA, hR, hL9⟩ := cx
  intro H locs ls hP hD hS hl
  refine lv_if_le hx hb hd ht (fun hc2 => ?_) (fun hc2 => ?_)
  · first | exact k H locs ls hP hD hS hl | exact absurd hc hc2 | exact absurd hc2 hc
  · first | exact k H locs ls hP hD hS hl | exact absurd hc hc2 | exact absurd hc2 hc

theorem zz_get (cx : zx F X cc own rm ml) {C : String} {T : u_T} {N ci index a : Nat} {fs : List Value} {v : Value} (hin : ∀ w ∈ u_ws C T N, w ∈ zt_ws) (hc : vw_Cl[ci]? = some (C, T, N)) (q0 kf : Nat) (he : ws[q0]? = some (a, .inr (ci, fs))) (hk : kf < N) (hlink : Cond.fieldLink own index (T kf).1 (T kf).2.1 (T kf).2.2.1 ∈ zt_ws) (hv : fs[kf]? = some v) (hd : decode cc pc = .ok (.getfield index, 3)) (k : zj F X cells slots ws (pc + 3) L (v :: st)) : zj F X cells slots ws pc L (.ref a :: st) := by
  obtain ⟨l, D, tys⟩ := F
  obtain ⟨p, e, R, s, m, args, below, meth, c, A, nL, Q⟩ := X
  obtain ⟨hx, hb, hml, hown, hts, hK, hn, hlo, hA, hR, hL9⟩ := cx
  exact fun H locs ls hP hD hS hl => va_get (D := D) hx hb hts hin hown hK hP q0 he hc kf hk (hts _ hlink) (fun _ h9 => h9) hv hd (k H locs ls hP hD hS hl)

theorem zz_put (cx : zx F X cc own rm ml) {C : String} {T : u_T} {N ci index a : Nat} {fs : List Value} {v : Value} {ws2 : va_W} (hin : ∀ w ∈ u_ws C T N, w ∈ zt_ws) {ty0 : Nat → FieldType} (hty : ∀ k, k < N → parseFieldDescriptor (T k).2.2.1 = some (ty0 k)) (hnm : ∀ a, a < N → ∀ b, b < N → a ≠ b → (T a).2.1 ≠ (T b).2.1) (hc : vw_Cl[ci]? = some (C, T, N)) (q0 kf : Nat) (he : ws[q0]? = some (a, .inr (ci, fs))) (hk : kf < N) (hlink : Cond.fieldLink own index (T kf).1 (T kf).2.1 (T kf).2.2.1 ∈ zt_ws) (hfin : (T kf).2.2.2 = false) {ty : FieldType} (hpd : parseFieldDescriptor (T kf).2.2.1 = some ty) (hnr : narrow ty v = v) (hfit : fits ty v = true) (hlen : kf < fs.length) (hw : ws.set q0 (a, .inr (ci, fs.set kf v)) = ws2) (hd : decode cc pc = .ok (.putfield index, 3)) (k : zj F X cells slots ws2 (pc + 3) L st) : zj F X cells slots ws pc L (v :: .ref a :: st) := by
  obtain ⟨l, D, tys⟩ := F
  obtain ⟨p, e, R, s, m, args, below, meth, c, A, nL, Q⟩ := X
  obtain ⟨hx, hb, hml, hown, hts, hK, hn, hlo, hA, hR, hL9⟩ := cx
  subst hw
  exact fun H locs ls hP hD hS hl => va_put (D := D) hx hb hts hin ty0 hty hnm hown hK hP hD hS q0 he hc kf hk (hts _ hlink) (fun _ h9 => h9) hfin hpd hnr hfit hlen hd (fun H1 locs1 hP1 hD1 hS1 => k H1 locs1 ls hP1 hD1 hS1 hl)

theorem zz_getN (cx : zx F X cc own rm ml) {C : String} {T : u_T} {N ci index a : Nat} {fs : List Value} {v : Value} (hin : ∀ w ∈ u_ws C T N, w ∈ zt_ws) (hc : vw_Cl[ci]? = some (C, T, N)) (q0 kf : Nat) (he : ws[q0]? = some (a, .inr (ci, fs))) (hk : kf < N) {host : String} (hlink : Cond.fieldLinkNest own index (T kf).1 (T kf).2.1 (T kf).2.2.1 host ∈ zn_ws) (hv : fs[kf]? = some v) (hd : decode cc pc = .ok (.getfield index, 3)) (k : zj F X cells slots ws (pc + 3) L (v :: st)) : zj F X cells slots ws pc L (.ref a :: st) := by
  obtain ⟨l, D, tys⟩ := F
  obtain ⟨p, e, R, s, m, args, below, meth, c, A, nL, Q⟩ := X
  obtain ⟨hx, hb, hml, hown, hts, hK, hn, hlo, hA, hR, hL9⟩ := cx
  exact fun H locs ls hP hD hS hl => va_getN (D := D) hx hb hts hin hown hK hP q0 he hc kf hk (va_Nw.use rfl (hn _ hlink)) (fun _ h9 => h9) hv hd (k H locs ls hP hD hS hl)

theorem zz_putN (cx : zx F X cc own rm ml) {C : String} {T : u_T} {N ci index a : Nat} {fs : List Value} {v : Value} {ws2 : va_W} (hin : ∀ w ∈ u_ws C T N, w ∈ zt_ws) {ty0 : Nat → FieldType} (hty : ∀ k, k < N → parseFieldDescriptor (T k).2.2.1 = some (ty0 k)) (hnm : ∀ a, a < N → ∀ b, b < N → a ≠ b → (T a).2.1 ≠ (T b).2.1) (hc : vw_Cl[ci]? = some (C, T, N)) (q0 kf : Nat) (he : ws[q0]? = some (a, .inr (ci, fs))) (hk : kf < N) {host : String} (hlink : Cond.fieldLinkNest own index (T kf).1 (T kf).2.1 (T kf).2.2.1 host ∈ zn_ws) (hfin : (T kf).2.2.2 = false) {ty : FieldType} (hpd : parseFieldDescriptor (T kf).2.2.1 = some ty) (hnr : narrow ty v = v) (hfit : fits ty v = true) (hlen : kf < fs.length) (hw : ws.set q0 (a, .inr (ci, fs.set kf v)) = ws2) (hd : decode cc pc = .ok (.putfield index, 3)) (k : zj F X cells slots ws2 (pc + 3) L st) : zj F X cells slots ws pc L (v :: .ref a :: st) := by
  obtain ⟨l, D, tys⟩ := F
  obtain ⟨p, e, R, s, m, args, below, meth, c, A, nL, Q⟩ := X
  obtain ⟨hx, hb, hml, hown, hts, hK, hn, hlo, hA, hR, hL9⟩ := cx
  subst hw
  exact fun H locs ls hP hD hS hl => va_putN (D := D) hx hb hts hin ty0 hty hnm hown hK hP hD hS q0 he hc kf hk (va_Nw.use rfl (hn _ hlink)) (fun _ h9 => h9) hfin hpd hnr hfit hlen hd (fun H1 locs1 hP1 hD1 hS1 => k H1 locs1 ls hP1 hD1 hS1 hl)

theorem zz_iald (cx : zx F X cc own rm ml) {α : Type} {t : Option α} {r : α} {cA n a : Nat} {f : Nat → Int32} {i v : Int32} (q0 t0 : Nat) (ha : ws[q0]? = some (a, .inl (cA, n, .inl f))) (ht : F.2.2[t0]? = some (cA, .int)) (h : gs_ck i n t = some r) (hv : f i.toNatClampNeg = v) (hd : decode cc pc = .ok (.iaload, 1)) (k : t = some r → zj F X cells slots ws (pc + 1) L (.int v :: st)) : zj F X cells slots ws pc L (.int i :: .ref a :: st) := by
  obtain ⟨hin, h⟩ := gs_ck_some h
  have k := k h
  subst hv
  obtain ⟨l, D, tys⟩ := F
  obtain ⟨p, e, R, s, m, args, below, meth, c, A, nL, Q⟩ := X
  obtain ⟨hx, hb, hml, hown, hts, hK, hn, hlo, hA, hR, hL9⟩ := cx
  exact fun H locs ls hP hD hS hl => va_iald (D := D) hx hb hK hP q0 t0 ha ht hin hd (k H locs ls hP hD hS hl)

theorem zz_zald (cx : zx F X cc own rm ml) {α : Type} {t : Option α} {r : α} {cA n a : Nat} {f : Nat → Int32} {i v : Int32} (q0 t0 : Nat) (ha : ws[q0]? = some (a, .inl (cA, n, .inl f))) (ht : F.2.2[t0]? = some (cA, .boolean)) (h : gs_ck i n t = some r) (hv : f i.toNatClampNeg = v) (hd : decode cc pc = .ok (.baload, 1)) (k : t = some r → zj F X cells slots ws (pc + 1) L (.int v :: st)) : zj F X cells slots ws pc L (.int i :: .ref a :: st) := by
  obtain ⟨hin, h⟩ := gs_ck_some h
  have k := k h
  subst hv
  obtain ⟨l, D, tys⟩ := F
  obtain ⟨p, e, R, s, m, args, below, meth, c, A, nL, Q⟩ := X
  obtain ⟨hx, hb, hml, hown, hts, hK, hn, hlo, hA, hR, hL9⟩ := cx
  exact fun H locs ls hP hD hS hl => va_zald (D := D) hx hb hK hP q0 t0 ha ht hin hd (k H locs ls hP hD hS hl)

theorem zz_iast (cx : zx F X cc own rm ml) {α : Type} {t : Option α} {r : α} {cA n a : Nat} {f : Nat → Int32} {i x : Int32} {ws2 : va_W} (q0 t0 : Nat) (ha : ws[q0]? = some (a, .inl (cA, n, .inl f))) (ht : F.2.2[t0]? = some (cA, .int)) (h : gs_ck i n t = some r) (hw : ws.set q0 (a, .inl (cA, n, .inl (upd f i.toNatClampNeg x))) = ws2) (hd : decode cc pc = .ok (.iastore, 1)) (k : t = some r → zj F X cells slots ws2 (pc + 1) L st) : zj F X cells slots ws pc L (.int x :: .int i :: .ref a :: st) := by
  obtain ⟨hin, h⟩ := gs_ck_some h
  have k := k h
  subst hw
  obtain ⟨l, D, tys⟩ := F
  obtain ⟨p, e, R, s, m, args, below, meth, c, A, nL, Q⟩ := X
  obtain ⟨hx, hb, hml, hown, hts, hK, hn, hlo, hA, hR, hL9⟩ := cx
  exact fun H locs ls hP hD hS hl => va_iast (D := D) hx hb hK hP hD hS q0 t0 ha ht hin hd (fun H1 locs1 hP1 hD1 hS1 => k H1 locs1 ls hP1 hD1 hS1 hl)

theorem zz_zast (cx : zx F X cc own rm ml) {α : Type} {t : Option α} {r : α} {cA n a : Nat} {f : Nat → Int32} {i x : Int32} {ws2 : va_W} (q0 t0 : Nat) (ha : ws[q0]? = some (a, .inl (cA, n, .inl f))) (ht : F.2.2[t0]? = some (cA, .boolean)) (h : gs_ck i n t = some r) (hw : ws.set q0 (a, .inl (cA, n, .inl (upd f i.toNatClampNeg (vp_nar .boolean x)))) = ws2) (hd : decode cc pc = .ok (.bastore, 1)) (k : t = some r → zj F X cells slots ws2 (pc + 1) L st) : zj F X cells slots ws pc L (.int x :: .int i :: .ref a :: st) := by
  obtain ⟨hin, h⟩ := gs_ck_some h
  have k := k h
  subst hw
  obtain ⟨l, D, tys⟩ := F
  obtain ⟨p, e, R, s, m, args, below, meth, c, A, nL, Q⟩ := X
  obtain ⟨hx, hb, hml, hown, hts, hK, hn, hlo, hA, hR, hL9⟩ := cx
  exact fun H locs ls hP hD hS hl => va_zast (D := D) hx hb hK hP hD hS q0 t0 ha ht hin hd (fun H1 locs1 hP1 hD1 hS1 => k H1 locs1 ls hP1 hD1 hS1 hl)

theorem zz_alen (cx : zx F X cc own rm ml) {cA a : Nat} {x : vp_A} {ty : FieldType} {v : Int32} (q0 t0 : Nat) (ha : ws[q0]? = some (a, .inl (cA, x))) (ht : F.2.2[t0]? = some (cA, ty)) (hv : Int32.ofNat x.1 = v) (hd : decode cc pc = .ok (.arraylength, 1)) (k : zj F X cells slots ws (pc + 1) L (.int v :: st)) : zj F X cells slots ws pc L (.ref a :: st) := by
  obtain ⟨l, D, tys⟩ := F
  obtain ⟨p, e, R, s, m, args, below, meth, c, A, nL, Q⟩ := X
  obtain ⟨hx, hb, hml, hown, hts, hK, hn, hlo, hA, hR, hL9⟩ := cx
  exact fun H locs ls hP hD hS hl => va_alen (D := D) hx hb hK hP q0 t0 ha ht hv hd (k H locs ls hP hD hS hl)
/-- fewer locals -/
theorem zz_less {L2 : List (Option Value)} (hl : lz_le L2 L) (k : zj F X cells slots ws pc L2 st) : zj F X cells slots ws pc L st := by
  obtain ⟨l, D, tys⟩ := F
  obtain ⟨p, e, R, s, m, args, below, meth, c, A, nL, Q⟩ := X
  exact fun H locs ls hP hD hS h => k H locs ls hP hD hS (lz_drop h (lz_le_at hl))
theorem zz_wid {c2 s2 : Nat} (h1 : cells ≤ c2) (h2 : slots ≤ s2) (k : zj F X c2 s2 ws pc L st) : zj F X cells slots ws pc L st := by
  obtain ⟨l, D, tys⟩ := F
  obtain ⟨p, e, R, s, m, args, below, meth, c, A, nL, Q⟩ := X
  exact fun H locs ls hP hD hS h => W.widen h1 h2 (k H locs ls hP hD hS h)
end ZR
/-! ===== contracts ===== -/
def zc_pre (F : zf_T) (w1 : va_W) (sz : Nat) (U : State) : Prop := U.heap.size = sz ∧ va_P F.2.1 vw_Cl w1 U.heap ∧ va_K F.2.1 vw_Cl F.2.2 U ∧ va_D (fun _ => True) w1 ∧ zn_ok U
/-- an int (or boolean) comes back, the world w1 becomes w2 -/
def zc_i (F : zf_T) (w1 w2 : va_W) (y : MethodName) (cc : ByteArray) (maxL : Nat) (rt : FieldType) (rm : Room) (as : List Value) (r : Int32) : Prop :=
  ∀ sz : Nat, Met F.1 y (Cond.code y cc maxL (some rt) :: zt_ws) rm (va_Pc as (zc_pre F w1 sz)) (va_Qi (fun r' (_ : Unit) => r' = r) (fun _ t => va_P F.2.1 vw_Cl w2 t.heap) (va_A w1 sz)) rm.cells rm.slots (va_A w1 sz)
def zc_v (F : zf_T) (w1 w2 : va_W) (y : MethodName) (cc : ByteArray) (maxL : Nat) (rm : Room) (as : List Value) : Prop :=
  ∀ sz : Nat, Met F.1 y (Cond.code y cc maxL none :: zt_ws) rm (va_Pc as (zc_pre F w1 sz)) (va_Qv (fun (_ : Unit) => True) (fun _ t => va_P F.2.1 vw_Cl w2 t.heap) (va_A w1 sz)) rm.cells rm.slots (va_A w1 sz)
def zq_i (F : zf_T) (X : zx_T) (w2 : va_W) (rt : FieldType) (r : Int32) : Prop :=
  match F, X with
  | (_, D, _), (_, _, R, s, _, args, below, meth, _, A, _, Q) => meth.sig.returnType = some rt ∧ Q = MQ below (va_Qi (fun r' (_ : Unit) => r' = r) (fun _ t => va_P D vw_Cl w2 t.heap) A) args s R.cells R.slots A
def zq_v (F : zf_T) (X : zx_T) (w2 : va_W) : Prop :=
  match F, X with
  | (_, D, _), (_, _, R, s, _, args, below, meth, _, A, _, Q) => meth.sig.returnType = none ∧ Q = MQ below (va_Qv (fun (_ : Unit) => True) (fun _ t => va_P D vw_Cl w2 t.heap) A) args s R.cells R.slots A
section ZC
variable {F : zf_T} {X : zx_T} {cc : ByteArray} {own : String} {rm : Room} {cells slots pc ml : Nat} {ws : va_W} {L : List (Option Value)} {st : List Value}
theorem zz_iret (cx : zx F X cc own rm ml) {r : Int32} (cq : zq_i F X ws .int r) (h1 : cells ≤ rm.cells) (h2 : slots ≤ rm.slots) (hd : decode cc pc = .ok (.ireturn, 1)) : zj F X cells slots ws pc L [.int r] := by
  obtain ⟨l, D, tys⟩ := F
  obtain ⟨p, e, R, s, m, args, below, meth, c, A, nL, Q⟩ := X
  obtain ⟨hx, hb, hml, hown, hts, hK, hn, hlo, hA, hR, hL9⟩ := cx
  obtain ⟨hr, hq⟩ := cq
  subst hR; subst hq
  exact fun H locs ls hP hD hS hl => W.widen h1 h2 (W.iret hx hb hr (fun t ht hW => ⟨⟨_, (), rfl, rfl, by show va_P D vw_Cl ws t.heap; rw [ht]; exact hP⟩, hS.F ht⟩) hS.2.2 hd hlo)
theorem zz_zret (cx : zx F X cc own rm ml) {r : Int32} (cq : zq_i F X ws .boolean r) (hz : narrow .boolean (.int r) = .int r) (h1 : cells ≤ rm.cells) (h2 : slots ≤ rm.slots) (hd : decode cc pc = .ok (.ireturn, 1)) : zj F X cells slots ws pc L [.int r] := by
  obtain ⟨l, D, tys⟩ := F
  obtain ⟨p, e, R, s, m, args, below, meth, c, A, nL, Q⟩ := X
  obtain ⟨hx, hb, hml, hown, hts, hK, hn, hlo, hA, hR, hL9⟩ := cx
  obtain ⟨hr, hq⟩ := cq
  subst hR; subst hq
  exact fun H locs ls hP hD hS hl => W.widen h1 h2 (W.zret hx hb hr hz (fun t ht hW => ⟨⟨_, (), rfl, rfl, by show va_P D vw_Cl ws t.heap; rw [ht]; exact hP⟩, hS.F ht⟩) hS.2.2 hd hlo)
theorem zz_vret (cx : zx F X cc own rm ml) (cq : zq_v F X ws) (h1 : cells ≤ rm.cells) (h2 : slots ≤ rm.slots) (hd : decode cc pc = .ok (.return_, 1)) : zj F X cells slots ws pc L [] := by
  obtain ⟨l, D, tys⟩ := F
  obtain ⟨p, e, R, s, m, args, below, meth, c, A, nL, Q⟩ := X
  obtain ⟨hx, hb, hml, hown, hts, hK, hn, hlo, hA, hR, hL9⟩ := cx
  obtain ⟨hr, hq⟩ := cq
  subst hR; subst hq
  exact fun H locs ls hP hD hS hl => W.widen h1 h2 (W.vret hx hb hr (fun t ht hW => ⟨⟨(), rfl, trivial, by show va_P D vw_Cl ws t.heap; rw [ht]; exact hP⟩, hS.F ht⟩) hS.2.2 hd hlo)
end ZC

theorem lz_sl (as : List Value) (hc : as.all (fun v => v.category == 1) = true) : lg_sl as = as.map Slot.val := by
  induction as with
  | nil => rfl
  | cons a t ih =>
    rw [List.all_cons, Bool.and_eq_true] at hc
    have h1 : a.category = 1 := by simpa using hc.1
    have ih := ih hc.2
    unfold lg_sl at ih ⊢
    rw [List.flatMap_cons, ih, if_neg (by omega)]
    rfl
theorem lz_args_has (as : List Value) (n : Nat) (hc : as.all (fun v => v.category == 1) = true) (h : as.length ≤ n) : lz_has ((lg_sl as ++ List.replicate (n - (lg_sl as).length) Slot.unset).toArray) n (as.map some ++ List.replicate (n - as.length) none) := by
  have hs := lz_sl as hc
  have hl : (lg_sl as).length = as.length := by rw [hs, List.length_map]
  have e := lv_entry as (n := n) (by rw [hl]; exact h)
  refine ⟨e.1, e.2.1, fun i v hi => ?_⟩
  by_cases hia : i < as.length
  · rw [List.getElem?_append_left (by rw [List.length_map]; exact hia), List.getElem?_map] at hi
    rw [hs, List.getElem?_toArray, List.getElem?_append_left (by rw [List.length_map]; exact hia), List.getElem?_map]
    cases ha : as[i]? with
    | none => rw [ha] at hi; cases hi
    | some w =>
      rw [ha] at hi
      have hwv : w = v := by simpa using hi
      subst hwv
      rfl
  · rw [List.getElem?_append_right (by rw [List.length_map]; omega)] at hi
    have hm := List.mem_of_getElem? hi
    rw [List.mem_replicate] at hm
    cases hm.2
theorem zc_i_of {F : zf_T} {w1 w2 : va_W} {y : MethodName} {cc : ByteArray} {maxL : Nat} {rt : FieldType} {rm : Room} {as : List Value} {r : Int32} (hy : plainName y.cls = true) (hc : as.all (fun v => v.category == 1) = true) (hl : as.length ≤ maxL)
    (body : ∀ X : zx_T, zx F X cc y.cls rm maxL → zq_i F X w2 rt r → zj F X 0 0 w1 0 (as.map some ++ List.replicate (maxL - as.length) none) []) : zc_i F w1 w2 y cc maxL rt rm as r := by
  obtain ⟨l, D, tys⟩ := F
  intro sz
  refine Met.ofW (cc := cc) (maxL := maxL) (ret := some rt) hy rfl ?_
  intro p e s m args below meth c s₁ B hml hv
  obtain ⟨rfl, hsz, hP, hK, hD0, hn⟩ := hv
  have hts := atoms_spec (ws := Cond.code y cc maxL (some rt) :: zt_ws) B.pre
  subst hsz
  have hD := hD0.self (sz := s.heap.size)
  rw [lg_entry_eq]
  exact body (p, e, _, s, m, as.toArray, below, meth, c, va_A w1 s.heap.size, maxL, _) ⟨B.exec, B.bytes, hml, findClass_of_methodNamed B.named, fun w hw => hts w (List.mem_cons_of_mem _ hw), hK, hn, B.notSynchronized, fun q h => Or.inr h, rfl, rfl⟩ ⟨B.returns, rfl⟩ s.heap [] _ hP hD va_S.rf (lz_args_has as maxL hc hl)
theorem zc_v_of {F : zf_T} {w1 w2 : va_W} {y : MethodName} {cc : ByteArray} {maxL : Nat} {rm : Room} {as : List Value} (hy : plainName y.cls = true) (hc : as.all (fun v => v.category == 1) = true) (hl : as.length ≤ maxL)
    (body : ∀ X : zx_T, zx F X cc y.cls rm maxL → zq_v F X w2 → zj F X 0 0 w1 0 (as.map some ++ List.replicate (maxL - as.length) none) []) : zc_v F w1 w2 y cc maxL rm as := by
  obtain ⟨l, D, tys⟩ := F
  intro sz
  refine Met.ofW (cc := cc) (maxL := maxL) (ret := none) hy rfl ?_
  intro p e s m args below meth c s₁ B hml hv
  obtain ⟨rfl, hsz, hP, hK, hD0, hn⟩ := hv
  have hts := atoms_spec (ws := Cond.code y cc maxL none :: zt_ws) B.pre
  subst hsz
  have hD := hD0.self (sz := s.heap.size)
  rw [lg_entry_eq]
  exact body (p, e, _, s, m, as.toArray, below, meth, c, va_A w1 s.heap.size, maxL, _) ⟨B.exec, B.bytes, hml, findClass_of_methodNamed B.named, fun w hw => hts w (List.mem_cons_of_mem _ hw), hK, hn, B.notSynchronized, fun q h => Or.inr h, rfl, rfl⟩ ⟨B.returns, rfl⟩ s.heap [] _ hP hD va_S.rf (lz_args_has as maxL hc hl)
/-! ===== calls: the callee's world is the whole world ===== -/
theorem za_addr {A : Nat → Prop} {w1 w2 : va_W} (he : w2.map Prod.fst = w1.map Prod.fst) (hD : va_D A w1) : va_D A w2 := by
  have key : ∀ (k : Nat) (q : Nat × va_E), w2[k]? = some q → ∃ q0, w1[k]? = some q0 ∧ q0.1 = q.1 := by
    intro k q hk
    have h1 : (w2.map Prod.fst)[k]? = some q.1 := by rw [List.getElem?_map, hk]; rfl
    rw [he, List.getElem?_map] at h1
    cases h2 : w1[k]? with
    | none => rw [h2] at h1; cases h1
    | some q0 => rw [h2] at h1; exact ⟨q0, rfl, Option.some.inj h1⟩
  refine ⟨fun i j x y hi hj hxy => ?_, fun k q hk => ?_⟩
  · obtain ⟨x0, a1, a2⟩ := key i x hi
    obtain ⟨y0, b1, b2⟩ := key j y hj
    exact hD.1 i j x0 y0 a1 b1 (a2.trans (hxy.trans b2.symm))
  · obtain ⟨q0, a1, a2⟩ := key k q hk
    rw [← a2]
    exact hD.2 k q0 a1
theorem za_free {A : Nat → Prop} {ws : va_W} {H0 H : Heap} {locs : List Loc} (hD : va_D A ws) (hS : va_S A H0 H locs) (hA : ∀ q, H0.size ≤ q → A q) : ∀ q, va_A ws H.size q → A q := by
  intro q h
  rcases h with ⟨k, e, h⟩ | h
  · exact hD.2 k (q, e) h
  · exact hA q (Nat.le_trans hS.1 h)
theorem zc_blind {F : zf_T} {w1 : va_W} {sz : Nat} {as : List Value} : FrameBlind (va_Pc as (zc_pre F w1 sz)) := by
  intro a U g mk q
  obtain ⟨q0, q1, qP, qK, qD, qn⟩ := q
  exact ⟨q0, q1, qP, va_K.moved (u := U) (U := U.calling g mk a) (Vm.Alike.refl U.vm) qK, qD, zn_same (s := U) (U := U.calling g mk a) rfl qn⟩
theorem zt_gi {w : List Cond} (h : ∀ x ∈ w, x ∈ zt_ws) : GoodIn zt_ws w := fun x hx => ⟨h x hx, good_of_word (List.all_eq_true.mp zt_good x (h x hx))⟩
/-- a method's own words -/
def zw_m (y : MethodName) (cb : ByteArray) (maxL : Nat) (ret : Option FieldType) (n : Nat) : Prop := Cond.initialized y.cls ∈ zt_ws ∧ Cond.code y cb maxL ret ∈ zt_ws ∧ y.cls ≠ "java/lang/invoke/MethodHandle" ∧ y.cls ≠ "java/lang/invoke/VarHandle" ∧ (parseMethodDescriptor y.desc).map (fun d => d.parameters.length) = some n
def zw_v (y : MethodName) : Prop := Cond.instanceMethod y ∈ zt_ws ∧ Cond.selects y.cls y y ∈ zt_ws
section ZD
variable {F : zf_T} {X : zx_T} {cc : ByteArray} {own : String} {rm : Room} {cells slots pc ml : Nat} {ws : va_W} {L : List (Option Value)}

theorem zz_callVi (cx : zx F X cc own rm ml) {w2 : va_W} {y : MethodName} {cb : ByteArray} {maxL n index b : Nat} {ty : FieldType} {rm2 : Room} {As rest : List Value} {r : Int32} (hM : zc_i F ws w2 y cb maxL ty rm2 (.ref b :: As) r) (hwm : zw_m y cb maxL (some ty) n) (hl : Cond.methodLink own index y ∈ zt_ws) (hwv : zw_v y) (q0 : Nat) {ci N : Nat} {T : u_T} {fs : List Value} (hq0 : ws[q0]? = some (b, .inr (ci, fs))) (hci : vw_Cl[ci]? = some (y.cls, T, N)) (hrm : rm2.frames + 1 ≤ rm.frames ∧ 8 + (maxL + 11) + rm2.locals ≤ rm.locals) (hln : As.length = n) (hrest : (rest.map fun v => v.category).sum ≤ 8) {c2 s2 : Nat} (hc2 : cells + rm2.cells = c2) (hs2 : slots + rm2.slots = s2) (hf : c2 ≤ rm.cells ∧ s2 ≤ rm.slots) (had : w2.map Prod.fst = ws.map Prod.fst) (hd : decode cc pc = .ok (.invokevirtual index, 3)) (k : zj F X c2 s2 w2 (pc + 3) L (.int r :: rest)) : zj F X cells slots ws pc L (As.reverse ++ .ref b :: rest) := by
  have zg : ∀ w ∈ wsV own index y.cls y (Cond.code y cb maxL (some ty) :: zt_ws), w ∈ zt_ws := by
    intro w hw
    unfold wsV at hw
    simp only [List.cons_append, List.nil_append, List.mem_cons] at hw
    rcases hw with rfl | rfl | rfl | rfl | rfl | hw
    · exact hl
    · exact hwv.1
    · exact hwv.2
    · exact hwm.1
    · exact hwm.2.1
    · exact hw
  obtain ⟨l, D, tys⟩ := F
  obtain ⟨p, e, R, s, m, args, below, meth, c, A, nL, Q⟩ := X
  obtain ⟨hx, hb, hml, hown, hts, hK, hn, hlo, hA, hR, hL9⟩ := cx
  subst hR; subst hc2; subst hs2
  intro H locs ls hP hD hS hl1
  have hFc := za_free hD hS hA
  exact va_calli (va_runV (As := As) (rest := rest) ⟨hx, hb, hml, hown, hts⟩ (hM H.size) (cwV n hts (zt_gi zg) rfl rfl rfl ⟨rfl, hwm.2.2⟩ hrm) ⟨zc_blind, va_recv hK hP hci hq0, fun U hU hW => ⟨rfl, by rw [hU], by rw [hU]; exact hP, va_K.moved hW.alike hK, hD.weaken (fun _ _ _ _ => trivial), zn_warm hW hn⟩⟩ rfl hln hl1.1 rfl (lv_room hrest) hd hf) hS (fun q _ h => hFc q h) hFc (fun r_ u t H1 locs1 ht hvm hw hB hz1 hk1 hS1 => by subst hw; exact k H1 locs1 ls (by rw [← ht]; exact hB) (za_addr had hD) hS1 hl1)

theorem zz_callVv (cx : zx F X cc own rm ml) {w2 : va_W} {y : MethodName} {cb : ByteArray} {maxL n index b : Nat} {rm2 : Room} {As rest : List Value} (hM : zc_v F ws w2 y cb maxL rm2 (.ref b :: As)) (hwm : zw_m y cb maxL none n) (hl : Cond.methodLink own index y ∈ zt_ws) (hwv : zw_v y) (q0 : Nat) {ci N : Nat} {T : u_T} {fs : List Value} (hq0 : ws[q0]? = some (b, .inr (ci, fs))) (hci : vw_Cl[ci]? = some (y.cls, T, N)) (hrm : rm2.frames + 1 ≤ rm.frames ∧ 8 + (maxL + 11) + rm2.locals ≤ rm.locals) (hln : As.length = n) (hrest : (rest.map fun v => v.category).sum ≤ 8) {c2 s2 : Nat} (hc2 : cells + rm2.cells = c2) (hs2 : slots + rm2.slots = s2) (hf : c2 ≤ rm.cells ∧ s2 ≤ rm.slots) (had : w2.map Prod.fst = ws.map Prod.fst) (hd : decode cc pc = .ok (.invokevirtual index, 3)) (k : zj F X c2 s2 w2 (pc + 3) L rest) : zj F X cells slots ws pc L (As.reverse ++ .ref b :: rest) := by
  have zg : ∀ w ∈ wsV own index y.cls y (Cond.code y cb maxL none :: zt_ws), w ∈ zt_ws := by
    intro w hw
    unfold wsV at hw
    simp only [List.cons_append, List.nil_append, List.mem_cons] at hw
    rcases hw with rfl | rfl | rfl | rfl | rfl | hw
    · exact hl
    · exact hwv.1
    · exact hwv.2
    · exact hwm.1
    · exact hwm.2.1
    · exact hw
  obtain ⟨l, D, tys⟩ := F
  obtain ⟨p, e, R, s, m, args, below, meth, c, A, nL, Q⟩ := X
  obtain ⟨hx, hb, hml, hown, hts, hK, hn, hlo, hA, hR, hL9⟩ := cx
  subst hR; subst hc2; subst hs2
  intro H locs ls hP hD hS hl1
  have hFc := za_free hD hS hA
  exact va_callv (va_runV (As := As) (rest := rest) ⟨hx, hb, hml, hown, hts⟩ (hM H.size) (cwV n hts (zt_gi zg) rfl rfl rfl ⟨rfl, hwm.2.2⟩ hrm) ⟨zc_blind, va_recv hK hP hci hq0, fun U hU hW => ⟨rfl, by rw [hU], by rw [hU]; exact hP, va_K.moved hW.alike hK, hD.weaken (fun _ _ _ _ => trivial), zn_warm hW hn⟩⟩ rfl hln hl1.1 rfl (lv_room hrest) hd hf) hS (fun q _ h => hFc q h) hFc (fun u t H1 locs1 ht hvm hw hB hz1 hk1 hS1 => k H1 locs1 ls (by rw [← ht]; exact hB) (za_addr had hD) hS1 hl1)

theorem zz_callVNi (cx : zx F X cc own rm ml) {w2 : va_W} {y : MethodName} {cb : ByteArray} {maxL n index b : Nat} {ty : FieldType} {rm2 : Room} {As rest : List Value} {r : Int32} (hM : zc_i F ws w2 y cb maxL ty rm2 (.ref b :: As) r) (hwm : zw_m y cb maxL (some ty) n) {host : String} (hl : Cond.methodLinkNest own index y host ∈ zn_ws) (hwv : zw_v y) (q0 : Nat) {ci N : Nat} {T : u_T} {fs : List Value} (hq0 : ws[q0]? = some (b, .inr (ci, fs))) (hci : vw_Cl[ci]? = some (y.cls, T, N)) (hrm : rm2.frames + 1 ≤ rm.frames ∧ 8 + (maxL + 11) + rm2.locals ≤ rm.locals) (hln : As.length = n) (hrest : (rest.map fun v => v.category).sum ≤ 8) {c2 s2 : Nat} (hc2 : cells + rm2.cells = c2) (hs2 : slots + rm2.slots = s2) (hf : c2 ≤ rm.cells ∧ s2 ≤ rm.slots) (had : w2.map Prod.fst = ws.map Prod.fst) (hd : decode cc pc = .ok (.invokevirtual index, 3)) (k : zj F X c2 s2 w2 (pc + 3) L (.int r :: rest)) : zj F X cells slots ws pc L (As.reverse ++ .ref b :: rest) := by
  have zg : ∀ w ∈ (Cond.code y cb maxL (some ty) :: zt_ws), w ∈ zt_ws := by
    intro w hw
    rcases List.mem_cons.mp hw with rfl | hw
    · exact hwm.2.1
    · exact hw
  obtain ⟨l, D, tys⟩ := F
  obtain ⟨p, e, R, s, m, args, below, meth, c, A, nL, Q⟩ := X
  obtain ⟨hx, hb, hml, hown, hts, hK, hn, hlo, hA, hR, hL9⟩ := cx
  subst hR; subst hc2; subst hs2
  intro H locs ls hP hD hS hl1
  have hFc := za_free hD hS hA
  exact va_calli (va_runVN (As := As) (rest := rest) ⟨hx, hb, hml, hown, hts⟩ (hM H.size) ⟨va_cnB n hts (zt_gi zg) rfl rfl rfl (hn _ hl) (hts _ hwm.1) hwm.2.2 hrm, hts _ hwv.1, hts _ hwv.2⟩ ⟨zc_blind, va_recv hK hP hci hq0, fun U hU hW => ⟨rfl, by rw [hU], by rw [hU]; exact hP, va_K.moved hW.alike hK, hD.weaken (fun _ _ _ _ => trivial), zn_warm hW hn⟩⟩ rfl hln hl1.1 rfl (lv_room hrest) hd hf) hS (fun q _ h => hFc q h) hFc (fun r_ u t H1 locs1 ht hvm hw hB hz1 hk1 hS1 => by subst hw; exact k H1 locs1 ls (by rw [← ht]; exact hB) (za_addr had hD) hS1 hl1)

theorem zz_callVNv (cx : zx F X cc own rm ml) {w2 : va_W} {y : MethodName} {cb : ByteArray} {maxL n index b : Nat} {rm2 : Room} {As rest : List Value} (hM : zc_v F ws w2 y cb maxL rm2 (.ref b :: As)) (hwm : zw_m y cb maxL none n) {host : String} (hl : Cond.methodLinkNest own index y host ∈ zn_ws) (hwv : zw_v y) (q0 : Nat) {ci N : Nat} {T : u_T} {fs : List Value} (hq0 : ws[q0]? = some (b, .inr (ci, fs))) (hci : vw_Cl[ci]? = some (y.cls, T, N)) (hrm : rm2.frames + 1 ≤ rm.frames ∧ 8 + (maxL + 11) + rm2.locals ≤ rm.locals) (hln : As.length = n) (hrest : (rest.map fun v => v.category).sum ≤ 8) {c2 s2 : Nat} (hc2 : cells + rm2.cells = c2) (hs2 : slots + rm2.slots = s2) (hf : c2 ≤ rm.cells ∧ s2 ≤ rm.slots) (had : w2.map Prod.fst = ws.map Prod.fst) (hd : decode cc pc = .ok (.invokevirtual index, 3)) (k : zj F X c2 s2 w2 (pc + 3) L rest) : zj F X cells slots ws pc L (As.reverse ++ .ref b :: rest) := by
  have zg : ∀ w ∈ (Cond.code y cb maxL none :: zt_ws), w ∈ zt_ws := by
    intro w hw
    rcases List.mem_cons.mp hw with rfl | hw
    · exact hwm.2.1
    · exact hw
  obtain ⟨l, D, tys⟩ := F
  obtain ⟨p, e, R, s, m, args, below, meth, c, A, nL, Q⟩ := X
  obtain ⟨hx, hb, hml, hown, hts, hK, hn, hlo, hA, hR, hL9⟩ := cx
  subst hR; subst hc2; subst hs2
  intro H locs ls hP hD hS hl1
  have hFc := za_free hD hS hA
  exact va_callv (va_runVN (As := As) (rest := rest) ⟨hx, hb, hml, hown, hts⟩ (hM H.size) ⟨va_cnB n hts (zt_gi zg) rfl rfl rfl (hn _ hl) (hts _ hwm.1) hwm.2.2 hrm, hts _ hwv.1, hts _ hwv.2⟩ ⟨zc_blind, va_recv hK hP hci hq0, fun U hU hW => ⟨rfl, by rw [hU], by rw [hU]; exact hP, va_K.moved hW.alike hK, hD.weaken (fun _ _ _ _ => trivial), zn_warm hW hn⟩⟩ rfl hln hl1.1 rfl (lv_room hrest) hd hf) hS (fun q _ h => hFc q h) hFc (fun u t H1 locs1 ht hvm hw hB hz1 hk1 hS1 => k H1 locs1 ls (by rw [← ht]; exact hB) (za_addr had hD) hS1 hl1)

theorem zz_callSi (cx : zx F X cc own rm ml) {w2 : va_W} {y : MethodName} {cb : ByteArray} {maxL n index : Nat} {ty : FieldType} {rm2 : Room} {As rest : List Value} {r : Int32} (hM : zc_i F ws w2 y cb maxL ty rm2 As r) (hwm : zw_m y cb maxL (some ty) n) (hl : Cond.methodLink own index y ∈ zt_ws) (hst : Cond.static y ∈ zt_ws) (hrm : rm2.frames + 1 ≤ rm.frames ∧ 8 + (maxL + 11) + rm2.locals ≤ rm.locals) (hln : As.length = n) (hrest : (rest.map fun v => v.category).sum ≤ 8) {c2 s2 : Nat} (hc2 : cells + rm2.cells = c2) (hs2 : slots + rm2.slots = s2) (hf : c2 ≤ rm.cells ∧ s2 ≤ rm.slots) (had : w2.map Prod.fst = ws.map Prod.fst) (hd : decode cc pc = .ok (.invokestatic index, 3)) (k : zj F X c2 s2 w2 (pc + 3) L (.int r :: rest)) : zj F X cells slots ws pc L (As.reverse ++ rest) := by
  have zg : ∀ w ∈ va_wsS own index y (Cond.code y cb maxL (some ty) :: zt_ws), w ∈ zt_ws := by
    intro w hw
    unfold va_wsS at hw
    simp only [List.cons_append, List.nil_append, List.mem_cons] at hw
    rcases hw with rfl | rfl | rfl | rfl | hw
    · exact hl
    · exact hst
    · exact hwm.1
    · exact hwm.2.1
    · exact hw
  obtain ⟨l, D, tys⟩ := F
  obtain ⟨p, e, R, s, m, args, below, meth, c, A, nL, Q⟩ := X
  obtain ⟨hx, hb, hml, hown, hts, hK, hn, hlo, hA, hR, hL9⟩ := cx
  subst hR; subst hc2; subst hs2
  intro H locs ls hP hD hS hl1
  have hFc := za_free hD hS hA
  exact va_calli (va_runS (As := As) (rest := rest) ⟨hx, hb, hml, hown, hts⟩ (hM H.size) (va_cwS n hts (zt_gi zg) rfl rfl rfl hwm.2.2 hrm) ⟨zc_blind, fun U hU hW => ⟨rfl, by rw [hU], by rw [hU]; exact hP, va_K.moved hW.alike hK, hD.weaken (fun _ _ _ _ => trivial), zn_warm hW hn⟩⟩ rfl hln hl1.1 rfl (lv_room hrest) hd hf) hS (fun q _ h => hFc q h) hFc (fun r_ u t H1 locs1 ht hvm hw hB hz1 hk1 hS1 => by subst hw; exact k H1 locs1 ls (by rw [← ht]; exact hB) (za_addr had hD) hS1 hl1)

theorem zz_callSv (cx : zx F X cc own rm ml) {w2 : va_W} {y : MethodName} {cb : ByteArray} {maxL n index : Nat} {rm2 : Room} {As rest : List Value} (hM : zc_v F ws w2 y cb maxL rm2 As) (hwm : zw_m y cb maxL none n) (hl : Cond.methodLink own index y ∈ zt_ws) (hst : Cond.static y ∈ zt_ws) (hrm : rm2.frames + 1 ≤ rm.frames ∧ 8 + (maxL + 11) + rm2.locals ≤ rm.locals) (hln : As.length = n) (hrest : (rest.map fun v => v.category).sum ≤ 8) {c2 s2 : Nat} (hc2 : cells + rm2.cells = c2) (hs2 : slots + rm2.slots = s2) (hf : c2 ≤ rm.cells ∧ s2 ≤ rm.slots) (had : w2.map Prod.fst = ws.map Prod.fst) (hd : decode cc pc = .ok (.invokestatic index, 3)) (k : zj F X c2 s2 w2 (pc + 3) L rest) : zj F X cells slots ws pc L (As.reverse ++ rest) := by
  have zg : ∀ w ∈ va_wsS own index y (Cond.code y cb maxL none :: zt_ws), w ∈ zt_ws := by
    intro w hw
    unfold va_wsS at hw
    simp only [List.cons_append, List.nil_append, List.mem_cons] at hw
    rcases hw with rfl | rfl | rfl | rfl | hw
    · exact hl
    · exact hst
    · exact hwm.1
    · exact hwm.2.1
    · exact hw
  obtain ⟨l, D, tys⟩ := F
  obtain ⟨p, e, R, s, m, args, below, meth, c, A, nL, Q⟩ := X
  obtain ⟨hx, hb, hml, hown, hts, hK, hn, hlo, hA, hR, hL9⟩ := cx
  subst hR; subst hc2; subst hs2
  intro H locs ls hP hD hS hl1
  have hFc := za_free hD hS hA
  exact va_callv (va_runS (As := As) (rest := rest) ⟨hx, hb, hml, hown, hts⟩ (hM H.size) (va_cwS n hts (zt_gi zg) rfl rfl rfl hwm.2.2 hrm) ⟨zc_blind, fun U hU hW => ⟨rfl, by rw [hU], by rw [hU]; exact hP, va_K.moved hW.alike hK, hD.weaken (fun _ _ _ _ => trivial), zn_warm hW hn⟩⟩ rfl hln hl1.1 rfl (lv_room hrest) hd hf) hS (fun q _ h => hFc q h) hFc (fun u t H1 locs1 ht hvm hw hB hz1 hk1 hS1 => k H1 locs1 ls (by rw [← ht]; exact hB) (za_addr had hD) hS1 hl1)

end ZD
/-! ===== an array's places beyond its length don't matter ===== -/
theorem zr_cell {cA n : Nat} {f g : Nat → Int32} (h : ∀ j, j < n → f j = g j) : vp_cell cA (n, .inl f) = vp_cell cA (n, .inl g) := by
  have e : arrV cA n (fun j => Value.int (f j)) = arrV cA n (fun j => Value.int (g j)) := by
    unfold arrV
    congr 1
    apply Array.ext
    · simp
    · intro j h1 h2
      simp only [Array.getElem_ofFn]
      rw [h j (by simpa using h1)]
  exact e
theorem zr_set {D : va_G} {ws : va_W} {H : Heap} {q0 a cA n : Nat} {f g : Nat → Int32} (h : ∀ j, j < n → f j = g j) (hP : va_P D vw_Cl (ws.set q0 (a, .inl (cA, n, .inl f))) H) : va_P D vw_Cl (ws.set q0 (a, .inl (cA, n, .inl g))) H := by
  intro i q hi
  by_cases hq : i = q0
  · subst hq
    by_cases hl : i < ws.length
    · rw [List.getElem?_set_self hl] at hi
      cases hi
      have h1 := hP i (a, .inl (cA, n, .inl f)) (List.getElem?_set_self hl)
      show H[a]? = some (vp_cell cA (n, .inl g))
      rw [← zr_cell h]
      exact h1
    · rw [List.getElem?_eq_none (by rw [List.length_set]; omega)] at hi
      cases hi
  · rw [List.getElem?_set_ne (Ne.symm hq)] at hi
    exact hP i q (by rw [List.getElem?_set_ne (Ne.symm hq)]; exact hi)
theorem zr_addr {ws : va_W} {q0 a : Nat} {e1 e2 : va_E} : (ws.set q0 (a, e1)).map Prod.fst = (ws.set q0 (a, e2)).map Prod.fst := by
  rw [List.map_set, List.map_set]
theorem zr_addr0 {ws : va_W} {q0 a : Nat} {e1 e2 : va_E} (h : ws[q0]? = some (a, e1)) : (ws.set q0 (a, e2)).map Prod.fst = ws.map Prod.fst := by
  rw [List.map_set]
  obtain ⟨hl, he⟩ := List.getElem?_eq_some_iff.mp h
  apply List.ext_getElem?
  intro i
  by_cases hq : i = q0
  · subst hq
    rw [List.getElem?_set_self (by rw [List.length_map]; exact hl), List.getElem?_map, h]
    rfl
  · rw [List.getElem?_set_ne (Ne.symm hq)]
theorem zr_self {ws : va_W} {q0 : Nat} {e : Nat × va_E} (h : ws[q0]? = some e) : ws.set q0 e = ws := by
  apply List.ext_getElem?
  intro i
  by_cases hq : i = q0
  · subst hq
    rw [List.getElem?_set_self (List.getElem?_eq_some_iff.mp h).1, h]
  · rw [List.getElem?_set_ne (Ne.symm hq)]
theorem zz_arrx {F : zf_T} {X : zx_T} {cells slots pc : Nat} {ws : va_W} {L : List (Option Value)} {st : List Value} {q0 a cA n : Nat} {f g : Nat → Int32} (hfg : ∀ j, j < n → f j = g j) (k : zj F X cells slots (ws.set q0 (a, .inl (cA, n, .inl g))) pc L st) : zj F X cells slots (ws.set q0 (a, .inl (cA, n, .inl f))) pc L st := by
  obtain ⟨l, D, tys⟩ := F
  obtain ⟨p, e, R, s, m, args, below, meth, c, A, nL, Q⟩ := X
  exact fun H locs ls hP hD hS hl => k H locs ls (zr_set hfg hP) (za_addr zr_addr hD) hS hl
