/-! ===== own base: the state of a side, in pure words ===== -/
abbrev gs_T : Type := (Nat → Int32) × (Nat → Nat → Int32)
def gs_sv (G : gs_T) (k : Nat) (x : Int32) : gs_T := (va_up G.1 k x, G.2)
def gs_a (G : gs_T) (k : Nat) (i : Int32) : Int32 := G.2 k i.toNatClampNeg
def gs_sa (G : gs_T) (k : Nat) (i x : Int32) : gs_T := (G.1, va_up G.2 k (upd (G.2 k) i.toNatClampNeg x))
def gs_sf (G : gs_T) (k : Nat) (x : Int32) : gs_T := (G.1, va_up G.2 k (fun _ => x))
def gs_ck {α : Type} (i : Int32) (n : Nat) (t : Option α) : Option α := if i < 0 ∨ n ≤ i.toNatClampNeg then none else t
def gs_nz {α : Type} (d : Int32) (t : Option α) : Option α := if d = 0 then none else t
def gs_bz {α : Type} (x : Int32) (t : Option α) : Option α := if x = 0 ∨ x = 1 then t else none
theorem gs_ck_some {α : Type} {i : Int32} {n : Nat} {t : Option α} {r : α} (h : gs_ck i n t = some r) : vp_in i n ∧ t = some r := by
  unfold gs_ck at h
  by_cases hc : i < 0 ∨ n ≤ i.toNatClampNeg
  · rw [if_pos hc] at h; cases h
  · rw [if_neg hc] at h; exact ⟨hc, h⟩
theorem gs_nz_some {α : Type} {d : Int32} {t : Option α} {r : α} (h : gs_nz d t = some r) : ¬ d = 0 ∧ t = some r := by
  unfold gs_nz at h
  by_cases hc : d = 0
  · rw [if_pos hc] at h; cases h
  · rw [if_neg hc] at h; exact ⟨hc, h⟩
theorem gs_bz_some {α : Type} {x : Int32} {t : Option α} {r : α} (h : gs_bz x t = some r) : (x = 0 ∨ x = 1) ∧ t = some r := by
  unfold gs_bz at h
  by_cases hc : x = 0 ∨ x = 1
  · rw [if_pos hc] at h; exact ⟨hc, h⟩
  · rw [if_neg hc] at h; cases h
theorem gs_if {α : Type} {c : Prop} {dc : Decidable c} {a b : Option α} {r : α} {P : Prop} (h : @ite _ c dc a b = some r) (ha : c → a = some r → P) (hb : ¬ c → b = some r → P) : P := by
  by_cases hc : c
  · rw [if_pos hc] at h; exact ha hc h
  · rw [if_neg hc] at h; exact hb hc h
theorem gs_bind {α β : Type} {o : Option α} {f : α → Option β} {r : β} {P : Prop} (h : o.bind f = some r) (k : ∀ q, o = some q → f q = some r → P) : P := by
  cases o with
  | none => cases h
  | some q => exact k q rfl h
theorem gs_narz {x : Int32} (h : x = 0 ∨ x = 1) : narrow .boolean (.int x) = .int x := by
  rcases h with rfl | rfl <;> rfl
/-! ===== locals, by place ===== -/
def lz_c1 : Option Value → Bool
  | some v => v.category == 1
  | none => true
def lz_has (ls : Array Slot) (nL : Nat) (L : List (Option Value)) : Prop := ls.size = nL ∧ lv_wf ls ∧ ∀ (i : Nat) (v : Value), L[i]? = some (some v) → ls[i]? = some (.val v)
def lz_l (L : List (Option Value)) : List (Nat × Value) := (List.range L.length).filterMap (fun i => (L[i]?).bind (fun o => o.map (fun v => (i, v))))
theorem lz_mem {L : List (Option Value)} {q : Nat × Value} : q ∈ lz_l L ↔ L[q.1]? = some (some q.2) := by
  unfold lz_l
  rw [List.mem_filterMap]
  constructor
  · rintro ⟨i, -, hi⟩
    cases hL : L[i]? with
    | none => rw [hL] at hi; cases hi
    | some o =>
      rw [hL] at hi
      cases o with
      | none => cases hi
      | some v => cases hi; exact hL
  · intro h
    refine ⟨q.1, List.mem_range.mpr (List.getElem?_eq_some_iff.mp h).1, ?_⟩
    rw [h]
    rfl
theorem lz_lv {ls : Array Slot} {nL : Nat} {L : List (Option Value)} (h : lz_has ls nL L) : lv_has ls nL (lz_l L) := ⟨h.1, h.2.1, fun q hq => h.2.2 q.1 q.2 (lz_mem.mp hq)⟩
theorem lz_back {ls : Array Slot} {nL : Nat} {L : List (Option Value)} {i : Nat} {v : Value} (h : lv_has ls nL ((i, v) :: (lz_l L).filter (fun q => !(q.1 == i) && !(q.1 + 1 == i && q.2.category == 2)))) (hL : L.all lz_c1 = true) : lz_has ls nL (L.set i (some v)) := by
  refine ⟨h.1, h.2.1, fun j w hj => ?_⟩
  by_cases hji : j = i
  · subst hji
    by_cases hl : j < L.length
    · rw [List.getElem?_set_self hl] at hj
      cases hj
      exact h.2.2 (j, v) List.mem_cons_self
    · rw [List.getElem?_eq_none (by rw [List.length_set]; omega)] at hj
      cases hj
  · rw [List.getElem?_set_ne (Ne.symm hji)] at hj
    refine h.2.2 (j, w) (List.mem_cons_of_mem _ (List.mem_filter.mpr ⟨lz_mem.mpr hj, ?_⟩))
    have hc : lz_c1 (some w) = true := List.all_eq_true.mp hL _ (List.mem_of_getElem? hj)
    have hc1 : w.category = 1 := by simpa [lz_c1] using hc
    simp [hji, hc1]
theorem lz_drop {ls : Array Slot} {nL : Nat} {L L' : List (Option Value)} (h : lz_has ls nL L) (hd : ∀ (i : Nat) (v : Value), L'[i]? = some (some v) → L[i]? = some (some v)) : lz_has ls nL L' := ⟨h.1, h.2.1, fun i v hi => h.2.2 i v (hd i v hi)⟩
/-- fewer values -/
def lz_le : List (Option Value) → List (Option Value) → Prop
  | [], _ => True
  | none :: a, _ :: b => lz_le a b
  | some v :: a, some w :: b => v = w ∧ lz_le a b
  | none :: a, [] => lz_le a []
  | some _ :: _, none :: _ => False
  | some _ :: _, [] => False
theorem lz_le_at : ∀ {L' L : List (Option Value)}, lz_le L' L → ∀ (i : Nat) (v : Value), L'[i]? = some (some v) → L[i]? = some (some v)
  | [], _, _, i, v, h => by simp at h
  | none :: a, b :: c, hl, i, v, h => by
    cases i with
    | zero => simp at h
    | succ i => exact lz_le_at (L' := a) (L := c) hl i v h
  | none :: a, [], hl, i, v, h => by
    cases i with
    | zero => simp at h
    | succ i => have := lz_le_at (L' := a) (L := []) hl i v h; simp at this
  | some x :: a, some y :: c, hl, i, v, h => by
    cases i with
    | zero => rw [← hl.1]; exact h
    | succ i => exact lz_le_at (L' := a) (L := c) hl.2 i v h
  | some x :: a, none :: c, hl, i, v, h => hl.elim
  | some x :: a, [], hl, i, v, h => hl.elim
