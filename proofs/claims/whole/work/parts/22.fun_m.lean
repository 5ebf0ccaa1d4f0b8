/-! ===== the reference as functions (printed by gen.py from its bytecode) ===== -/
def mM_thrown (G : gs_T) : Option Int32 :=
  some (G.1 0)
def mM_refuses (G : gs_T) (x1 x2 x3 : Int32) : Option (Int32 × gs_T) :=
  if x1 = 0 then
    if x2 = 0 then
      if x3 = 0 then
        some ((0 : Int32), (gs_sv G 0 (0 : Int32)))
      else
        some ((1 : Int32), (gs_sv G 0 (3 : Int32)))
    else
      some ((1 : Int32), (gs_sv G 0 (2 : Int32)))
  else
    some ((1 : Int32), (gs_sv G 0 (1 : Int32)))
def mM_isBar (G : gs_T) (x1 : Int32) : Option Int32 :=
  if x1 < 0 then
    some (0 : Int32)
  else
    if (G.1 1) ≤ x1 then
      some (0 : Int32)
    else
      some (1 : Int32)
def mM_bar_j15 (G : gs_T) (x1 s0 : Int32) : Option (Int32 × gs_T) :=
  (mM_refuses G s0 (0 : Int32) (0 : Int32)).bind fun q1 =>
  if q1.1 = 0 then
    gs_ck (q1.2.1 1) 60 (
    some ((((q1.2.1 1) + (1 : Int32)) - (1 : Int32)), (gs_sv (gs_sa q1.2 0 (q1.2.1 1) x1) 1 ((q1.2.1 1) + (1 : Int32)))))
  else
    some ((0 : Int32), q1.2)
def mM_bar (G : gs_T) (x1 : Int32) : Option (Int32 × gs_T) :=
  if (G.1 1) = (60 : Int32) then
    mM_bar_j15 G x1 (1 : Int32)
  else
    mM_bar_j15 G x1 (0 : Int32)
def mM_isApart (G : gs_T) (x0 x1 x2 x3 : Int32) : Option Int32 :=
  if x1 < x2 then
    some (1 : Int32)
  else
    if x0 ≤ x3 then
      some (0 : Int32)
    else
      some (1 : Int32)
def mM_isWithin (G : gs_T) (x0 x1 x2 x3 : Int32) : Option Int32 :=
  if x0 < x2 then
    some (0 : Int32)
  else
    if x3 < x1 then
      some (0 : Int32)
    else
      some (1 : Int32)
def mM_liesWell (G : gs_T) (x0 x1 x2 x3 : Int32) : Option Int32 :=
  (mM_isApart G x0 x1 x2 x3).bind fun q1 =>
  if q1 = 0 then
    (mM_isWithin G x0 x1 x2 x3).bind fun q2 =>
    if q2 = 0 then
      (mM_isWithin G x2 x3 x0 x1).bind fun q3 =>
      if q3 = 0 then
        some (0 : Int32)
      else
        some (1 : Int32)
    else
      some (1 : Int32)
  else
    some (1 : Int32)
def mM_isAround (G : gs_T) (x1 x2 : Int32) : Option Int32 :=
  gs_ck x1 20 (
  if x2 < (gs_a G 1 x1) then
    some (0 : Int32)
  else
    gs_ck x1 20 (
    if (gs_a G 2 x1) < x2 then
      some (0 : Int32)
    else
      some (1 : Int32)))
def mM_mayRepeat_121 (n : Nat) (G : gs_T) (x2 x3 : Int32) (K : Int32 → Option Int32) : Nat → Int32 → Int32 → Option Int32
  | 0, _, _ => none
  | k + 1, x4, x5 =>
    if (G.1 2) ≤ x5 then
      K x4
    else
      (mM_isAround G x5 x3).bind fun q1 =>
      if q1 = 0 then
        mM_mayRepeat_121 n G x2 x3 K k (x4 + (0 : Int32)) (x5 + (1 : Int32))
      else
        mM_mayRepeat_121 n G x2 x3 K k (x4 + (1 : Int32)) (x5 + (1 : Int32))
def mM_mayRepeat_72 (n : Nat) (G : gs_T) (x1 x2 : Int32) (K : Unit → Option Int32) : Nat → Int32 → Option Int32
  | 0, _ => none
  | k + 1, x3 =>
    if (G.1 3) ≤ x3 then
      K ()
    else
      gs_ck x3 20 (
      gs_ck x3 20 (
      (mM_liesWell G x1 x2 (gs_a G 5 x3) (gs_a G 6 x3)).bind fun q1 =>
      if q1 = 0 then
        some (0 : Int32)
      else
        mM_mayRepeat_72 n G x1 x2 K k (x3 + (1 : Int32))))
def mM_mayRepeat_110 (n : Nat) (G : gs_T) (x2 : Int32) : Nat → Int32 → Option Int32
  | 0, _ => none
  | k + 1, x3 =>
    if x2 < x3 then
      if (20 : Int32) ≤ (G.1 2) then
        some (0 : Int32)
      else
        some (1 : Int32)
    else
      mM_mayRepeat_121 n G x2 x3 (fun y4_0 =>
        if y4_0 ≤ (3 : Int32) then
          mM_mayRepeat_110 n G x2 k (x3 + (1 : Int32))
        else
          some (0 : Int32)) n (1 : Int32) (0 : Int32)
def mM_mayRepeat_2 (n : Nat) (G : gs_T) (x1 x2 : Int32) (K : Unit → Option Int32) : Nat → Int32 → Option Int32
  | 0, _ => none
  | k + 1, x3 =>
    if (G.1 2) ≤ x3 then
      K ()
    else
      gs_ck x3 20 (
      if (gs_a G 1 x3) = x1 then
        gs_ck x3 20 (
        if (gs_a G 2 x3) = x2 then
          some (0 : Int32)
        else
          gs_ck x3 20 (
          gs_ck x3 20 (
          (mM_liesWell G x1 x2 (gs_a G 1 x3) (gs_a G 2 x3)).bind fun q2 =>
          if q2 = 0 then
            some (0 : Int32)
          else
            mM_mayRepeat_2 n G x1 x2 K k (x3 + (1 : Int32)))))
      else
        gs_ck x3 20 (
        gs_ck x3 20 (
        (mM_liesWell G x1 x2 (gs_a G 1 x3) (gs_a G 2 x3)).bind fun q1 =>
        if q1 = 0 then
          some (0 : Int32)
        else
          mM_mayRepeat_2 n G x1 x2 K k (x3 + (1 : Int32)))))
def mM_mayRepeat (n : Nat) (G : gs_T) (x1 x2 : Int32) : Option Int32 :=
  mM_mayRepeat_2 n G x1 x2 (fun _ =>
    mM_mayRepeat_72 n G x1 x2 (fun _ =>
      mM_mayRepeat_110 n G x2 n x1) n (0 : Int32)) n (0 : Int32)
def mM_repeat_j90 (n : Nat) (G : gs_T) (x1 x2 x3 s0 s1 s2 : Int32) : Option (Int32 × gs_T) :=
  (mM_refuses G s0 s1 s2).bind fun q1 =>
  if q1.1 = 0 then
    gs_ck (q1.2.1 2) 20 (
    gs_ck (q1.2.1 2) 20 (
    gs_ck (q1.2.1 2) 20 (
    some ((((q1.2.1 2) + (1 : Int32)) - (1 : Int32)), (gs_sv (gs_sa (gs_sa (gs_sa q1.2 1 (q1.2.1 2) x1) 2 (q1.2.1 2) x2) 3 (q1.2.1 2) x3) 2 ((q1.2.1 2) + (1 : Int32)))))))
  else
    some ((0 : Int32), q1.2)
def mM_repeat_j89 (n : Nat) (G : gs_T) (x1 x2 x3 s0 s1 : Int32) : Option (Int32 × gs_T) :=
  mM_repeat_j90 n G x1 x2 x3 s0 s1 (0 : Int32)
def mM_repeat_j66 (n : Nat) (G : gs_T) (x1 x2 x3 x4 x5 s0 s1 : Int32) : Option (Int32 × gs_T) :=
  if x4 = 0 then
    mM_repeat_j89 n G x1 x2 x3 s0 s1
  else
    if x5 = 0 then
      mM_repeat_j89 n G x1 x2 x3 s0 s1
    else
      (mM_mayRepeat n G x1 x2).bind fun q1 =>
      if q1 = 0 then
        mM_repeat_j90 n G x1 x2 x3 s0 s1 (1 : Int32)
      else
        mM_repeat_j89 n G x1 x2 x3 s0 s1
def mM_repeat_j56 (n : Nat) (G : gs_T) (x1 x2 x3 x4 x5 s0 : Int32) : Option (Int32 × gs_T) :=
  if x5 = 0 then
    mM_repeat_j66 n G x1 x2 x3 x4 x5 s0 (1 : Int32)
  else
    mM_repeat_j66 n G x1 x2 x3 x4 x5 s0 (0 : Int32)
def mM_repeat_j43 (n : Nat) (G : gs_T) (x1 x2 x3 x4 s0 : Int32) : Option (Int32 × gs_T) :=
  if x4 = 0 then
    mM_repeat_j56 n G x1 x2 x3 x4 s0 (1 : Int32)
  else
    mM_repeat_j56 n G x1 x2 x3 x4 s0 (0 : Int32)
def mM_repeat_j42 (n : Nat) (G : gs_T) (x1 x2 x3 x4 : Int32) : Option (Int32 × gs_T) :=
  mM_repeat_j43 n G x1 x2 x3 x4 (0 : Int32)
def mM_repeat_j21 (n : Nat) (G : gs_T) (x1 x2 x3 s0 : Int32) : Option (Int32 × gs_T) :=
  if x3 < (2 : Int32) then
    mM_repeat_j42 n G x1 x2 x3 s0
  else
    if (4 : Int32) < x3 then
      mM_repeat_j42 n G x1 x2 x3 s0
    else
      if x2 < x1 then
        mM_repeat_j42 n G x1 x2 x3 s0
      else
        mM_repeat_j43 n G x1 x2 x3 s0 (1 : Int32)
def mM_repeat_j20 (n : Nat) (G : gs_T) (x1 x2 x3 : Int32) : Option (Int32 × gs_T) :=
  mM_repeat_j21 n G x1 x2 x3 (0 : Int32)
def mM_repeat (n : Nat) (G : gs_T) (x1 x2 x3 : Int32) : Option (Int32 × gs_T) :=
  (mM_isBar G x1).bind fun q1 =>
  if q1 = 0 then
    mM_repeat_j20 n G x1 x2 x3
  else
    (mM_isBar G x2).bind fun q2 =>
    if q2 = 0 then
      mM_repeat_j20 n G x1 x2 x3
    else
      mM_repeat_j21 n G x1 x2 x3 (1 : Int32)
def mM_mayEnd_25 (n : Nat) (G : gs_T) (x2 x3 : Int32) (K : Unit → Option Int32) : Nat → Int32 → Option Int32
  | 0, _ => none
  | k + 1, x4 =>
    if (G.1 3) ≤ x4 then
      K ()
    else
      gs_ck x4 20 (
      gs_ck x4 20 (
      (mM_isApart G x2 x3 (gs_a G 5 x4) (gs_a G 6 x4)).bind fun q1 =>
      if q1 = 0 then
        some (0 : Int32)
      else
        mM_mayEnd_25 n G x2 x3 K k (x4 + (1 : Int32))))
def mM_mayEnd_67 (n : Nat) (G : gs_T) (x2 x3 : Int32) : Nat → Int32 → Option Int32
  | 0, _ => none
  | k + 1, x4 =>
    if (G.1 2) ≤ x4 then
      if (20 : Int32) ≤ (G.1 3) then
        some (0 : Int32)
      else
        some (1 : Int32)
    else
      gs_ck x4 20 (
      gs_ck x4 20 (
      (mM_liesWell G x2 x3 (gs_a G 1 x4) (gs_a G 2 x4)).bind fun q1 =>
      if q1 = 0 then
        some (0 : Int32)
      else
        mM_mayEnd_67 n G x2 x3 k (x4 + (1 : Int32))))
def mM_mayEnd (n : Nat) (G : gs_T) (x1 x2 x3 : Int32) : Option Int32 :=
  gs_ck x1 20 (
  gs_ck x1 20 (
  (mM_isWithin G x2 x3 (gs_a G 1 x1) (gs_a G 2 x1)).bind fun q1 =>
  if q1 = 0 then
    some (0 : Int32)
  else
    mM_mayEnd_25 n G x2 x3 (fun _ =>
      mM_mayEnd_67 n G x2 x3 n (0 : Int32)) n (0 : Int32)))
def mM_ending_j111 (n : Nat) (G : gs_T) (x1 x2 x3 x4 s0 s1 s2 : Int32) : Option (Int32 × gs_T) :=
  (mM_refuses G s0 s1 s2).bind fun q1 =>
  if q1.1 = 0 then
    gs_ck (q1.2.1 3) 20 (
    gs_ck (q1.2.1 3) 20 (
    gs_ck (q1.2.1 3) 20 (
    gs_ck (q1.2.1 3) 20 (
    some ((((q1.2.1 3) + (1 : Int32)) - (1 : Int32)), (gs_sv (gs_sa (gs_sa (gs_sa (gs_sa q1.2 4 (q1.2.1 3) x1) 5 (q1.2.1 3) x2) 6 (q1.2.1 3) x3) 7 (q1.2.1 3) x4) 3 ((q1.2.1 3) + (1 : Int32))))))))
  else
    some ((0 : Int32), q1.2)
def mM_ending_j110 (n : Nat) (G : gs_T) (x1 x2 x3 x4 s0 s1 : Int32) : Option (Int32 × gs_T) :=
  mM_ending_j111 n G x1 x2 x3 x4 s0 s1 (0 : Int32)
def mM_ending_j91 (n : Nat) (G : gs_T) (x1 x2 x3 x4 x6 s0 s1 : Int32) : Option (Int32 × gs_T) :=
  if x6 = 0 then
    mM_ending_j110 n G x1 x2 x3 x4 s0 s1
  else
    (mM_mayEnd n G x1 x2 x3).bind fun q1 =>
    if q1 = 0 then
      mM_ending_j111 n G x1 x2 x3 x4 s0 s1 (1 : Int32)
    else
      mM_ending_j110 n G x1 x2 x3 x4 s0 s1
def mM_ending_j81 (n : Nat) (G : gs_T) (x1 x2 x3 x4 x6 s0 : Int32) : Option (Int32 × gs_T) :=
  if x6 = 0 then
    mM_ending_j91 n G x1 x2 x3 x4 x6 s0 (1 : Int32)
  else
    mM_ending_j91 n G x1 x2 x3 x4 x6 s0 (0 : Int32)
def mM_ending_j68 (n : Nat) (G : gs_T) (x1 x2 x3 x4 x5 s0 : Int32) : Option (Int32 × gs_T) :=
  if x5 = 0 then
    mM_ending_j81 n G x1 x2 x3 x4 s0 (1 : Int32)
  else
    mM_ending_j81 n G x1 x2 x3 x4 s0 (0 : Int32)
def mM_ending_j67 (n : Nat) (G : gs_T) (x1 x2 x3 x4 x5 : Int32) : Option (Int32 × gs_T) :=
  mM_ending_j68 n G x1 x2 x3 x4 x5 (0 : Int32)
def mM_ending_j33 (n : Nat) (G : gs_T) (x1 x2 x3 x4 s0 : Int32) : Option (Int32 × gs_T) :=
  if s0 = 0 then
    mM_ending_j67 n G x1 x2 x3 x4 s0
  else
    if x3 < x2 then
      mM_ending_j67 n G x1 x2 x3 x4 s0
    else
      if x4 ≤ 0 then
        mM_ending_j67 n G x1 x2 x3 x4 s0
      else
        gs_ck x1 20 (
        if ((1 : Int32) <<< ((gs_a G 3 x1) &&& 31)) ≤ x4 then
          mM_ending_j67 n G x1 x2 x3 x4 s0
        else
          mM_ending_j68 n G x1 x2 x3 x4 s0 (1 : Int32))
def mM_ending_j32 (n : Nat) (G : gs_T) (x1 x2 x3 x4 : Int32) : Option (Int32 × gs_T) :=
  mM_ending_j33 n G x1 x2 x3 x4 (0 : Int32)
def mM_ending (n : Nat) (G : gs_T) (x1 x2 x3 x4 : Int32) : Option (Int32 × gs_T) :=
  if x1 < 0 then
    mM_ending_j32 n G x1 x2 x3 x4
  else
    if (G.1 2) ≤ x1 then
      mM_ending_j32 n G x1 x2 x3 x4
    else
      (mM_isBar G x2).bind fun q1 =>
      if q1 = 0 then
        mM_ending_j32 n G x1 x2 x3 x4
      else
        (mM_isBar G x3).bind fun q2 =>
        if q2 = 0 then
          mM_ending_j32 n G x1 x2 x3 x4
        else
          mM_ending_j33 n G x1 x2 x3 x4 (1 : Int32)
def mM_sign_j33 (G : gs_T) (x1 x2 s0 s1 : Int32) : Option (Int32 × gs_T) :=
  (mM_refuses G s0 s1 (0 : Int32)).bind fun q1 =>
  if q1.1 = 0 then
    gs_ck x1 4 (
    gs_ck x1 4 (
    some ((gs_a q1.2 8 x1), (gs_sa q1.2 8 x1 x2))))
  else
    some ((0 : Int32), q1.2)
def mM_sign_j32 (G : gs_T) (x1 x2 s0 : Int32) : Option (Int32 × gs_T) :=
  mM_sign_j33 G x1 x2 s0 (0 : Int32)
def mM_sign_j15 (G : gs_T) (x1 x2 s0 : Int32) : Option (Int32 × gs_T) :=
  if x2 = (-1 : Int32) then
    mM_sign_j32 G x1 x2 s0
  else
    (mM_isBar G x2).bind fun q1 =>
    if q1 = 0 then
      mM_sign_j33 G x1 x2 s0 (1 : Int32)
    else
      mM_sign_j32 G x1 x2 s0
def mM_sign_j10 (G : gs_T) (x1 x2 : Int32) : Option (Int32 × gs_T) :=
  mM_sign_j15 G x1 x2 (1 : Int32)
def mM_sign (G : gs_T) (x1 x2 : Int32) : Option (Int32 × gs_T) :=
  if x1 < 0 then
    mM_sign_j10 G x1 x2
  else
    if x1 ≤ (3 : Int32) then
      mM_sign_j15 G x1 x2 (0 : Int32)
    else
      mM_sign_j10 G x1 x2
def mM_jump_j37 (G : gs_T) (x1 x2 x3 x4 s0 s1 : Int32) : Option gs_T :=
  (mM_refuses G s0 s1 (0 : Int32)).bind fun q1 =>
  if q1.1 = 0 then
    gs_ck x1 60 (
    gs_ck x1 60 (
    gs_ck x1 60 (
    gs_ck x1 60 (
    some (gs_sa (gs_sa (gs_sa (gs_sa q1.2 9 x1 (vp_nar .boolean (1 : Int32))) 10 x1 x2) 11 x1 x3) 12 x1 (vp_nar .boolean x4))))))
  else
    some q1.2
def mM_jump_j32 (G : gs_T) (x1 x2 x3 x4 s0 : Int32) : Option gs_T :=
  mM_jump_j37 G x1 x2 x3 x4 s0 (1 : Int32)
def mM_jump_j14 (G : gs_T) (x1 x2 x3 x4 s0 : Int32) : Option gs_T :=
  if x2 < 0 then
    mM_jump_j32 G x1 x2 x3 x4 s0
  else
    if (1 : Int32) < x2 then
      mM_jump_j32 G x1 x2 x3 x4 s0
    else
      if x3 < 0 then
        mM_jump_j32 G x1 x2 x3 x4 s0
      else
        if x3 ≤ (2 : Int32) then
          mM_jump_j37 G x1 x2 x3 x4 s0 (0 : Int32)
        else
          mM_jump_j32 G x1 x2 x3 x4 s0
def mM_jump (G : gs_T) (x1 x2 x3 x4 : Int32) : Option gs_T :=
  (mM_isBar G x1).bind fun q1 =>
  if q1 = 0 then
    mM_jump_j14 G x1 x2 x3 x4 (1 : Int32)
  else
    mM_jump_j14 G x1 x2 x3 x4 (0 : Int32)
def mM_plain_j14 (G : gs_T) (x1 s0 : Int32) : Option gs_T :=
  (mM_isBar G x1).bind fun q1 =>
  if q1 = 0 then
    (mM_refuses G s0 (0 : Int32) (0 : Int32)).bind fun q2 =>
    if q2.1 = 0 then
      gs_ck x1 60 (
      some (gs_sa q2.2 9 x1 (vp_nar .boolean (0 : Int32))))
    else
      some q2.2
  else
    gs_ck x1 60 (
    if (gs_a G 9 x1) = 0 then
      (mM_refuses G s0 (1 : Int32) (0 : Int32)).bind fun q4 =>
      if q4.1 = 0 then
        gs_ck x1 60 (
        some (gs_sa q4.2 9 x1 (vp_nar .boolean (0 : Int32))))
      else
        some q4.2
    else
      (mM_refuses G s0 (0 : Int32) (0 : Int32)).bind fun q3 =>
      if q3.1 = 0 then
        gs_ck x1 60 (
        some (gs_sa q3.2 9 x1 (vp_nar .boolean (0 : Int32))))
      else
        some q3.2)
def mM_plain (G : gs_T) (x1 : Int32) : Option gs_T :=
  (mM_isBar G x1).bind fun q1 =>
  if q1 = 0 then
    mM_plain_j14 G x1 (1 : Int32)
  else
    mM_plain_j14 G x1 (0 : Int32)
def mM_missing_j44 (G : gs_T) (x1 : Int32) : Option Int32 :=
  gs_ck x1 60 (
  if (gs_a G 11 x1) = (2 : Int32) then
    gs_ck (2 : Int32) 4 (
    if (gs_a G 8 (2 : Int32)) = (-1 : Int32) then
      some (3 : Int32)
    else
      gs_ck (1 : Int32) 4 (
      if (gs_a G 8 (1 : Int32)) = (-1 : Int32) then
        some (3 : Int32)
      else
        some (0 : Int32)))
  else
    some (0 : Int32))
def mM_missing_j22 (G : gs_T) (x1 : Int32) : Option Int32 :=
  gs_ck x1 60 (
  if (gs_a G 11 x1) = (1 : Int32) then
    gs_ck (3 : Int32) 4 (
    if (gs_a G 8 (3 : Int32)) = (-1 : Int32) then
      some (2 : Int32)
    else
      mM_missing_j44 G x1)
  else
    mM_missing_j44 G x1)
def mM_missing (G : gs_T) (x1 : Int32) : Option Int32 :=
  gs_ck x1 60 (
  if (gs_a G 10 x1) = (1 : Int32) then
    gs_ck (0 : Int32) 4 (
    if (gs_a G 8 (0 : Int32)) = (-1 : Int32) then
      some (1 : Int32)
    else
      mM_missing_j22 G x1)
  else
    mM_missing_j22 G x1)
def mM_leaveAll_2 (n : Nat) : Nat → Int32 → gs_T → Option gs_T
  | 0, _, _ => none
  | k + 1, x1, G =>
    if (20 : Int32) ≤ x1 then
      some G
    else
      gs_ck x1 20 (
      mM_leaveAll_2 n k (x1 + (1 : Int32)) (gs_sa G 18 x1 (0 : Int32)))
def mM_leaveAll (n : Nat) (G : gs_T) : Option gs_T :=
  mM_leaveAll_2 n n (0 : Int32) G
def mM_forget_32 (n : Nat) : Nat → Int32 → gs_T → Option gs_T
  | 0, _, _ => none
  | k + 1, x1, G =>
    if (60 : Int32) ≤ x1 then
      (mM_leaveAll n G).bind fun q1 =>
      some q1
    else
      gs_ck x1 60 (
      gs_ck x1 60 (
      mM_forget_32 n k (x1 + (1 : Int32)) (gs_sa (gs_sa G 17 x1 (0 : Int32)) 19 x1 (vp_nar .boolean (0 : Int32)))))
def mM_forget (n : Nat) (G : gs_T) : Option gs_T :=
  mM_forget_32 n n (0 : Int32) (gs_sv (gs_sv (gs_sv (gs_sv (gs_sv (gs_sv G 4 (-1 : Int32)) 5 (0 : Int32)) 6 (0 : Int32)) 7 (-1 : Int32)) 8 (0 : Int32)) 10 (0 : Int32))
def mM_leaveWithin_3 (n : Nat) (x1 x2 x3 : Int32) : Nat → Int32 → gs_T → Option gs_T
  | 0, _, _ => none
  | k + 1, x4, G =>
    if (G.1 2) ≤ x4 then
      some G
    else
      if x4 = x3 then
        mM_leaveWithin_3 n x1 x2 x3 k (x4 + (1 : Int32)) G
      else
        gs_ck x4 20 (
        gs_ck x4 20 (
        (mM_isWithin G (gs_a G 1 x4) (gs_a G 2 x4) x1 x2).bind fun q1 =>
        if q1 = 0 then
          mM_leaveWithin_3 n x1 x2 x3 k (x4 + (1 : Int32)) G
        else
          gs_ck x4 20 (
          mM_leaveWithin_3 n x1 x2 x3 k (x4 + (1 : Int32)) (gs_sa G 18 x4 (0 : Int32)))))
def mM_leaveWithin (n : Nat) (G : gs_T) (x1 x2 x3 : Int32) : Option gs_T :=
  mM_leaveWithin_3 n x1 x2 x3 n (0 : Int32) G
def mM_theEnd_10 (n : Nat) (x1 x2 : Int32) (K : gs_T → Option gs_T) : Nat → Int32 → gs_T → Option gs_T
  | 0, _, _ => none
  | k + 1, x3, G =>
    if (G.1 2) ≤ x3 then
      K G
    else
      gs_ck x3 20 (
      if (gs_a G 18 x3) ≤ 0 then
        mM_theEnd_10 n x1 x2 K k (x3 + (1 : Int32)) G
      else
        gs_ck x3 20 (
        if (gs_a G 2 x3) = x1 then
          gs_ck x3 20 (
          gs_ck x3 20 (
          if ((gs_a G 2 x3) - (gs_a G 1 x3)) = x2 then
            gs_ck x3 20 (
            gs_ck x3 20 (
            if (gs_a G 3 x3) ≤ (gs_a G 18 x3) then
              gs_ck x3 20 (
              mM_theEnd_10 n x1 x2 K k (x3 + (1 : Int32)) (gs_sa G 18 x3 (0 : Int32)))
            else
              gs_ck x3 20 (
              gs_ck x3 20 (
              gs_ck x3 20 (
              gs_ck x3 20 (
              (mM_leaveWithin n (gs_sa G 18 x3 ((gs_a G 18 x3) + (1 : Int32))) (gs_a G 1 x3) (gs_a G 2 x3) x3).bind fun q1 =>
              gs_ck x3 20 (
              some (gs_sv q1 9 (gs_a q1 1 x3)))))))))
          else
            mM_theEnd_10 n x1 x2 K k (x3 + (1 : Int32)) G))
        else
          mM_theEnd_10 n x1 x2 K k (x3 + (1 : Int32)) G))
def mM_theEnd_2 (n : Nat) (x1 : Int32) : Nat → Int32 → gs_T → Option gs_T
  | 0, _, _ => none
  | k + 1, x2, G =>
    if (60 : Int32) ≤ x2 then
      if (G.1 1) ≤ (x1 + (1 : Int32)) then
        some (gs_sv G 9 (-1 : Int32))
      else
        some (gs_sv G 9 (x1 + (1 : Int32)))
    else
      mM_theEnd_10 n x1 x2 (fun G0 =>
        mM_theEnd_2 n x1 k (x2 + (1 : Int32)) G0) n (0 : Int32) G
def mM_theEnd (n : Nat) (G : gs_T) (x1 : Int32) : Option gs_T :=
  mM_theEnd_2 n x1 n (0 : Int32) G
def mM_aroundIt_5 (n : Nat) (G : gs_T) (x1 x2 : Int32) : Nat → Int32 → Int32 → Option Int32
  | 0, _, _ => none
  | k + 1, x3, x4 =>
    if (G.1 2) ≤ x4 then
      some x3
    else
      (mM_isAround G x4 x1).bind fun q1 =>
      if q1 = 0 then
        mM_aroundIt_5 n G x1 x2 k x3 (x4 + (1 : Int32))
      else
        if x3 = (-1 : Int32) then
          mM_aroundIt_5 n G x1 x2 k x4 (x4 + (1 : Int32))
        else
          gs_ck x4 20 (
          gs_ck x4 20 (
          gs_ck x3 20 (
          gs_ck x3 20 (
          if ((gs_a G 2 x3) - (gs_a G 1 x3)) ≤ ((gs_a G 2 x4) - (gs_a G 1 x4)) then
            if x2 = (0 : Int32) then
              mM_aroundIt_5 n G x1 x2 k x4 (x4 + (1 : Int32))
            else
              mM_aroundIt_5 n G x1 x2 k x3 (x4 + (1 : Int32))
          else
            if x2 = (1 : Int32) then
              mM_aroundIt_5 n G x1 x2 k x4 (x4 + (1 : Int32))
            else
              mM_aroundIt_5 n G x1 x2 k x3 (x4 + (1 : Int32))))))
def mM_aroundIt (n : Nat) (G : gs_T) (x1 x2 : Int32) : Option Int32 :=
  mM_aroundIt_5 n G x1 x2 n (-1 : Int32) (0 : Int32)
def mM_play_101 (n : Nat) (G : gs_T) (x1 : Int32) (K : Int32 → Option gs_T) : Nat → Int32 → Int32 → Option gs_T
  | 0, _, _ => none
  | k + 1, x4, x5 =>
    if (G.1 2) ≤ x5 then
      K x4
    else
      if x4 = 0 then
        mM_play_101 n G x1 K k (0 : Int32) (x5 + (1 : Int32))
      else
        (mM_isAround G x5 x1).bind fun q1 =>
        if q1 = 0 then
          mM_play_101 n G x1 K k (1 : Int32) (x5 + (1 : Int32))
        else
          gs_ck x5 20 (
          gs_ck x5 20 (
          if (gs_a G 18 x5) = (gs_a G 3 x5) then
            mM_play_101 n G x1 K k (1 : Int32) (x5 + (1 : Int32))
          else
            mM_play_101 n G x1 K k (0 : Int32) (x5 + (1 : Int32))))
def mM_play_j257 (n : Nat) (G : gs_T) (x1 x4 : Int32) : Option gs_T :=
  if x4 = 0 then
    (mM_theEnd n G x1).bind fun q1 =>
    some q1
  else
    gs_ck x1 60 (
    if (gs_a G 9 x1) = 0 then
      (mM_theEnd n G x1).bind fun q2 =>
      some q2
    else
      gs_ck x1 60 (
      if (gs_a G 19 x1) = 0 then
        gs_ck x1 60 (
        (mM_leaveAll n (gs_sv (gs_sv (gs_sv (gs_sa G 19 x1 (vp_nar .boolean (1 : Int32))) 6 ((G.1 6) + (1 : Int32))) 7 x1) 8 (0 : Int32))).bind fun q4 =>
        gs_ck x1 60 (
        if (gs_a q4 10 x1) = (1 : Int32) then
          gs_ck (0 : Int32) 4 (
          some (gs_sv q4 9 (gs_a q4 8 (0 : Int32))))
        else
          some (gs_sv q4 9 (0 : Int32))))
      else
        (mM_theEnd n G x1).bind fun q3 =>
        some q3))
def mM_play_j207 (n : Nat) (G : gs_T) (x1 x4 x5 : Int32) : Option gs_T :=
  if x4 = 0 then
    mM_play_j257 n G x1 x4
  else
    gs_ck (2 : Int32) 4 (
    if (gs_a G 8 (2 : Int32)) = x1 then
      if x5 = (2 : Int32) then
        if (G.1 8) = 0 then
          (mM_leaveAll n (gs_sv G 8 (1 : Int32))).bind fun q1 =>
          gs_ck (1 : Int32) 4 (
          some (gs_sv q1 9 (gs_a q1 8 (1 : Int32))))
        else
          mM_play_j257 n G x1 x4
      else
        mM_play_j257 n G x1 x4
    else
      mM_play_j257 n G x1 x4)
def mM_play_j176 (n : Nat) (G : gs_T) (x1 x4 s0 : Int32) : Option gs_T :=
  if x4 = 0 then
    mM_play_j207 n G x1 x4 s0
  else
    gs_ck (3 : Int32) 4 (
    if (gs_a G 8 (3 : Int32)) = x1 then
      if s0 = (1 : Int32) then
        some (gs_sv G 9 (-1 : Int32))
      else
        mM_play_j207 n G x1 x4 s0
    else
      mM_play_j207 n G x1 x4 s0)
def mM_play_j84 (n : Nat) (G : gs_T) (x1 s0 s1 : Int32) : Option gs_T :=
  gs_ck s0 1000 (
  mM_play_101 n (gs_sv (gs_sa G 16 s0 s1) 5 ((G.1 5) + (1 : Int32))) x1 (fun y4_0 =>
    if (G.1 7) = (-1 : Int32) then
      mM_play_j176 n (gs_sv (gs_sa G 16 s0 s1) 5 ((G.1 5) + (1 : Int32))) x1 y4_0 (0 : Int32)
    else
      gs_ck (G.1 7) 60 (
      mM_play_j176 n (gs_sv (gs_sa G 16 s0 s1) 5 ((G.1 5) + (1 : Int32))) x1 y4_0 (gs_a G 11 (G.1 7)))) n (1 : Int32) (0 : Int32))
def mM_play_j60 (n : Nat) (G : gs_T) (x1 x3 s0 s1 : Int32) : Option gs_T :=
  gs_ck s0 1000 (
  if x3 = (-1 : Int32) then
    mM_play_j84 n (gs_sa G 15 s0 s1) x1 (G.1 5) (0 : Int32)
  else
    gs_ck x3 20 (
    mM_play_j84 n (gs_sa G 15 s0 s1) x1 (G.1 5) (gs_a G 18 x3)))
def mM_play (n : Nat) (G : gs_T) (x1 : Int32) : Option gs_T :=
  (mM_aroundIt n G x1 (1 : Int32)).bind fun q1 =>
  (mM_aroundIt n G x1 (0 : Int32)).bind fun q2 =>
  gs_ck (G.1 5) 1000 (
  gs_ck (G.1 5) 1000 (
  if q1 = (-1 : Int32) then
    mM_play_j60 n (gs_sa (gs_sa G 13 (G.1 5) x1) 14 (G.1 5) (G.1 6)) x1 q2 (G.1 5) (0 : Int32)
  else
    gs_ck q1 20 (
    mM_play_j60 n (gs_sa (gs_sa G 13 (G.1 5) x1) 14 (G.1 5) (G.1 6)) x1 q2 (G.1 5) (gs_a G 18 q1))))
def mM_comeTo_92 (n : Nat) (G : gs_T) (x1 : Int32) (K : Int32 → Option gs_T) : Nat → Int32 → Option gs_T
  | 0, _ => none
  | k + 1, x3 =>
    if (G.1 3) ≤ x3 then
      K x3
    else
      gs_ck x3 20 (
      if (gs_a G 5 x3) = x1 then
        K x3
      else
        mM_comeTo_92 n G x1 K k (x3 + (1 : Int32)))
def mM_comeTo_38 (n : Nat) (x1 x2 : Int32) (K : gs_T → Option gs_T) : Nat → Int32 → gs_T → Option gs_T
  | 0, _, _ => none
  | k + 1, x3, G =>
    if (G.1 2) ≤ x3 then
      K G
    else
      (mM_isAround G x3 x1).bind fun q1 =>
      if q1 = 0 then
        mM_comeTo_38 n x1 x2 K k (x3 + (1 : Int32)) G
      else
        gs_ck x3 20 (
        if (gs_a G 18 x3) = 0 then
          if x2 = 0 then
            gs_ck x3 20 (
            mM_comeTo_38 n x1 x2 K k (x3 + (1 : Int32)) (gs_sa G 18 x3 (1 : Int32)))
          else
            gs_ck x3 20 (
            gs_ck x3 20 (
            mM_comeTo_38 n x1 x2 K k (x3 + (1 : Int32)) (gs_sa G 18 x3 (gs_a G 3 x3))))
        else
          mM_comeTo_38 n x1 x2 K k (x3 + (1 : Int32)) G)
def mM_comeTo_j184 (n : Nat) (G : gs_T) (x1 : Int32) : Option gs_T :=
  if (G.1 5) = (1000 : Int32) then
    some (gs_sv (gs_sv (gs_sv G 10 (1 : Int32)) 4 x1) 9 (-1 : Int32))
  else
    (mM_play n G x1).bind fun q1 =>
    some q1
def mM_comeTo_j116 (n : Nat) (G : gs_T) (x1 x3 : Int32) : Option gs_T :=
  if (G.1 3) ≤ x3 then
    mM_comeTo_j184 n G x1
  else
    gs_ck x3 20 (
    gs_ck x3 20 (
    gs_ck (gs_a G 4 x3) 20 (
    if (((gs_a G 7 x3) >>> (((gs_a G 18 (gs_a G 4 x3)) - (1 : Int32)) &&& 31)) &&& (1 : Int32)) = 0 then
      gs_ck x3 20 (
      gs_ck x3 20 (
      gs_ck x3 20 (
      (mM_leaveWithin n G (gs_a G 5 x3) (gs_a G 6 x3) (gs_a G 4 x3)).bind fun q1 =>
      gs_ck x3 20 (
      (mM_theEnd n q1 (gs_a q1 6 x3)).bind fun q2 =>
      some q2))))
    else
      mM_comeTo_j184 n G x1)))
def mM_comeTo_j35 (n : Nat) (G : gs_T) (x1 s0 : Int32) : Option gs_T :=
  mM_comeTo_38 n x1 s0 (fun G0 =>
    mM_comeTo_92 n G0 x1 (fun y3_1 =>
      mM_comeTo_j116 n G0 x1 y3_1) n (0 : Int32)) n (0 : Int32) G
def mM_comeTo_j34 (n : Nat) (G : gs_T) (x1 : Int32) : Option gs_T :=
  mM_comeTo_j35 n G x1 (0 : Int32)
def mM_comeTo (n : Nat) (G : gs_T) (x1 : Int32) : Option gs_T :=
  gs_ck x1 60 (
  gs_ck x1 60 (
  if (G.1 7) = (-1 : Int32) then
    mM_comeTo_j34 n (gs_sa G 17 x1 ((gs_a G 17 x1) + (1 : Int32))) x1
  else
    gs_ck (G.1 7) 60 (
    if (gs_a G 12 (G.1 7)) = 0 then
      mM_comeTo_j35 n (gs_sa G 17 x1 ((gs_a G 17 x1) + (1 : Int32))) x1 (1 : Int32)
    else
      mM_comeTo_j34 n (gs_sa G 17 x1 ((gs_a G 17 x1) + (1 : Int32))) x1)))
def mM_unfold_71 (n : Nat) (K : gs_T → Option (Int32 × gs_T)) : Nat → gs_T → Option (Int32 × gs_T)
  | 0, _ => none
  | k + 1, G =>
    if (G.1 9) = (-1 : Int32) then
      K G
    else
      (mM_comeTo n G (G.1 9)).bind fun q1 =>
      mM_unfold_71 n K k q1
def mM_unfold_11 (n : Nat) (G : gs_T) (K : Unit → Option (Int32 × gs_T)) : Nat → Int32 → Option (Int32 × gs_T)
  | 0, _ => none
  | k + 1, x1 =>
    if (G.1 1) ≤ x1 then
      K ()
    else
      gs_ck x1 60 (
      if (gs_a G 9 x1) = 0 then
        mM_unfold_11 n G K k (x1 + (1 : Int32))
      else
        (mM_missing G x1).bind fun q1 =>
        if q1 ≤ 0 then
          mM_unfold_11 n G K k (x1 + (1 : Int32))
        else
          (mM_missing (gs_sv G 4 x1) x1).bind fun q2 =>
          some (((-1 : Int32) - q2), (gs_sv G 4 x1)))
def mM_unfold_j68 (n : Nat) (G : gs_T) (s0 : Int32) : Option (Int32 × gs_T) :=
  mM_unfold_71 n (fun G0 =>
    if (G0.1 10) = 0 then
      some ((G0.1 5), G0)
    else
      (mM_forget n G0).bind fun q2 =>
      some ((-5 : Int32), (gs_sv q2 4 (G0.1 4)))) n (gs_sv G 9 s0)
def mM_unfold (n : Nat) (G : gs_T) : Option (Int32 × gs_T) :=
  (mM_forget n (gs_sv G 0 (0 : Int32))).bind fun q1 =>
  mM_unfold_11 n q1 (fun _ =>
    if (q1.1 1) ≤ 0 then
      mM_unfold_j68 n q1 (-1 : Int32)
    else
      mM_unfold_j68 n q1 (0 : Int32)) n (0 : Int32)
def mM_fault (G : gs_T) : Option (Int32 × gs_T) :=
  some ((G.1 4), (gs_sv G 0 (0 : Int32)))
def mM_played_j32 (G : gs_T) (x1 x2 s0 s1 : Int32) : Option (Int32 × gs_T) :=
  (mM_refuses G s0 s1 (0 : Int32)).bind fun q1 =>
  if q1.1 = 0 then
    if x2 = 0 then
      gs_ck x1 1000 (
      some ((gs_a q1.2 13 x1), q1.2))
    else
      if x2 = (1 : Int32) then
        gs_ck x1 1000 (
        gs_ck (gs_a q1.2 13 x1) 60 (
        some ((gs_a q1.2 0 (gs_a q1.2 13 x1)), q1.2)))
      else
        if x2 = (2 : Int32) then
          gs_ck x1 1000 (
          some ((gs_a q1.2 14 x1), q1.2))
        else
          if x2 = (3 : Int32) then
            gs_ck x1 1000 (
            some ((gs_a q1.2 15 x1), q1.2))
          else
            gs_ck x1 1000 (
            some ((gs_a q1.2 16 x1), q1.2))
  else
    some ((0 : Int32), q1.2)
def mM_played_j27 (G : gs_T) (x1 x2 s0 : Int32) : Option (Int32 × gs_T) :=
  mM_played_j32 G x1 x2 s0 (1 : Int32)
def mM_played_j18 (G : gs_T) (x1 x2 s0 : Int32) : Option (Int32 × gs_T) :=
  if x2 < 0 then
    mM_played_j27 G x1 x2 s0
  else
    if x2 ≤ (4 : Int32) then
      mM_played_j32 G x1 x2 s0 (0 : Int32)
    else
      mM_played_j27 G x1 x2 s0
def mM_played_j13 (G : gs_T) (x1 x2 : Int32) : Option (Int32 × gs_T) :=
  mM_played_j18 G x1 x2 (1 : Int32)
def mM_played (G : gs_T) (x1 x2 : Int32) : Option (Int32 × gs_T) :=
  if x1 < 0 then
    mM_played_j13 G x1 x2
  else
    if x1 < (G.1 5) then
      mM_played_j18 G x1 x2 (0 : Int32)
    else
      mM_played_j13 G x1 x2
def mM_times_28 (n : Nat) (G : gs_T) (x1 : Int32) : Nat → Int32 → Int32 → Option (Int32 × gs_T)
  | 0, _, _ => none
  | k + 1, x2, x3 =>
    if (G.1 5) ≤ x3 then
      some (x2, G)
    else
      gs_ck x3 1000 (
      if (gs_a G 13 x3) = x1 then
        mM_times_28 n G x1 k (x2 + (1 : Int32)) (x3 + (1 : Int32))
      else
        mM_times_28 n G x1 k (x2 + (0 : Int32)) (x3 + (1 : Int32)))
def mM_times_j14 (n : Nat) (G : gs_T) (x1 s0 : Int32) : Option (Int32 × gs_T) :=
  (mM_refuses G s0 (0 : Int32) (0 : Int32)).bind fun q1 =>
  if q1.1 = 0 then
    mM_times_28 n q1.2 x1 n (0 : Int32) (0 : Int32)
  else
    some ((0 : Int32), q1.2)
def mM_times (n : Nat) (G : gs_T) (x1 : Int32) : Option (Int32 × gs_T) :=
  (mM_isBar G x1).bind fun q1 =>
  if q1 = 0 then
    mM_times_j14 n G x1 (1 : Int32)
  else
    mM_times_j14 n G x1 (0 : Int32)
def mM_comes (G : gs_T) (x1 : Int32) : Option (Int32 × gs_T) :=
  (mM_isBar G x1).bind fun q1 =>
  if q1 = 0 then
    (mM_refuses G (1 : Int32) (0 : Int32) (0 : Int32)).bind fun q3 =>
    if q3.1 = 0 then
      gs_ck x1 60 (
      some ((gs_a q3.2 17 x1), q3.2))
    else
      some ((0 : Int32), q3.2)
  else
    (mM_refuses G (0 : Int32) (0 : Int32) (0 : Int32)).bind fun q2 =>
    if q2.1 = 0 then
      gs_ck x1 60 (
      some ((gs_a q2.2 17 x1), q2.2))
    else
      some ((0 : Int32), q2.2)
def mM_isAgain_16 (n : Nat) (G : gs_T) (x1 x2 x3 : Int32) : Nat → Int32 → Int32 → Option Int32
  | 0, _, _ => none
  | k + 1, x4, x5 =>
    if x2 ≤ x5 then
      gs_bz x4 (some x4)
    else
      if x4 = 0 then
        gs_bz x4 (some x4)
      else
        gs_ck (x1 + x5) 40 (
        gs_ck ((x1 + x5) - x3) 40 (
        if (gs_a G 20 (x1 + x5)) = (gs_a G 20 ((x1 + x5) - x3)) then
          mM_isAgain_16 n G x1 x2 x3 k (1 : Int32) (x5 + (1 : Int32))
        else
          mM_isAgain_16 n G x1 x2 x3 k (0 : Int32) (x5 + (1 : Int32))))
def mM_isAgain_j11 (n : Nat) (G : gs_T) (x1 x2 x3 s0 : Int32) : Option Int32 :=
  mM_isAgain_16 n G x1 x2 x3 n s0 x3
def mM_isAgain (n : Nat) (G : gs_T) (x1 x2 x3 : Int32) : Option Int32 :=
  gs_nz x3 (
  if (x2 - x2 / x3 * x3) = 0 then
    mM_isAgain_j11 n G x1 x2 x3 (1 : Int32)
  else
    mM_isAgain_j11 n G x1 x2 x3 (0 : Int32))
def mM_findWay_42 (n : Nat) (x1 x2 x3 : Int32) (K : gs_T → Option gs_T) : Nat → Int32 → gs_T → Option gs_T
  | 0, _, _ => none
  | k + 1, x4, G =>
    if x2 < ((2 : Int32) * x4) then
      K G
    else
      (mM_isAgain n G x1 x2 x4).bind fun q1 =>
      if q1 = 0 then
        mM_findWay_42 n x1 x2 x3 K k (x4 + (1 : Int32)) G
      else
        gs_ck (((41 : Int32) * x1) + x4) 1640 (
        gs_ck x3 1640 (
        if (gs_a G 21 x3) ≤ (gs_a G 21 (((41 : Int32) * x1) + x4)) then
          mM_findWay_42 n x1 x2 x3 K k (x4 + (1 : Int32)) G
        else
          gs_ck (((41 : Int32) * x1) + x4) 1640 (
          gs_ck x3 1640 (
          gs_ck x3 1640 (
          mM_findWay_42 n x1 x2 x3 K k (x4 + (1 : Int32)) (gs_sa (gs_sa G 21 x3 (gs_a G 21 (((41 : Int32) * x1) + x4))) 22 x3 x4))))))
def mM_findWay_117 (n : Nat) (x1 x2 x3 : Int32) : Nat → Int32 → gs_T → Option gs_T
  | 0, _, _ => none
  | k + 1, x4, G =>
    if x2 ≤ x4 then
      some G
    else
      gs_ck (((41 : Int32) * x1) + x4) 1640 (
      gs_ck ((((41 : Int32) * (x1 + x4)) + x2) - x4) 1640 (
      gs_ck x3 1640 (
      if (gs_a G 21 x3) ≤ ((gs_a G 21 (((41 : Int32) * x1) + x4)) + (gs_a G 21 ((((41 : Int32) * (x1 + x4)) + x2) - x4))) then
        mM_findWay_117 n x1 x2 x3 k (x4 + (1 : Int32)) G
      else
        gs_ck x3 1640 (
        gs_ck x3 1640 (
        gs_ck x3 1640 (
        mM_findWay_117 n x1 x2 x3 k (x4 + (1 : Int32)) (gs_sa (gs_sa (gs_sa G 21 x3 ((gs_a G 21 (((41 : Int32) * x1) + x4)) + (gs_a G 21 ((((41 : Int32) * (x1 + x4)) + x2) - x4)))) 22 x3 (0 : Int32)) 23 x3 x4)))))))
def mM_findWay_j24 (n : Nat) (G : gs_T) (x1 x2 x3 s0 s1 : Int32) : Option gs_T :=
  gs_ck s0 1640 (
  gs_ck x3 1640 (
  gs_ck x3 1640 (
  mM_findWay_42 n x1 x2 x3 (fun G0 =>
    mM_findWay_117 n x1 x2 x3 n (1 : Int32) G0) n (1 : Int32) (gs_sa (gs_sa (gs_sa G 21 s0 s1) 22 x3 (0 : Int32)) 23 x3 (0 : Int32)))))
def mM_findWay (n : Nat) (G : gs_T) (x1 x2 : Int32) : Option gs_T :=
  if x2 = (1 : Int32) then
    mM_findWay_j24 n G x1 x2 (((41 : Int32) * x1) + x2) (((41 : Int32) * x1) + x2) (1 : Int32)
  else
    mM_findWay_j24 n G x1 x2 (((41 : Int32) * x1) + x2) (((41 : Int32) * x1) + x2) (1000 : Int32)
def mM_item (G : gs_T) (x1 x2 : Int32) : Option gs_T :=
  gs_ck (G.1 11) 200 (
  gs_ck (G.1 11) 200 (
  some (gs_sv (gs_sa (gs_sa G 24 (G.1 11) x1) 25 (G.1 11) x2) 11 ((G.1 11) + (1 : Int32)))))
def mM_write_16 (n : Nat) : Nat → Int32 → gs_T → Option gs_T
  | 0, _, _ => none
  | k + 1, x2, G =>
    if x2 ≤ 0 then
      some G
    else
      gs_ck (x2 + (-1 : Int32)) 200 (
      gs_ck (x2 + (-1 : Int32)) 200 (
      if (gs_a G 27 (x2 + (-1 : Int32))) = 0 then
        (mM_item G (2 : Int32) (0 : Int32)).bind fun q3 =>
        mM_write_16 n k (x2 + (-1 : Int32)) q3
      else
        if (gs_a G 27 (x2 + (-1 : Int32))) = (1 : Int32) then
          gs_ck (gs_a G 26 (x2 + (-1 : Int32))) 40 (
          (mM_item G (0 : Int32) (gs_a G 20 (gs_a G 26 (x2 + (-1 : Int32))))).bind fun q2 =>
          mM_write_16 n k (x2 + (-1 : Int32)) (gs_sv q2 12 ((q2.1 12) + (1 : Int32))))
        else
          gs_ck (((41 : Int32) * (gs_a G 26 (x2 + (-1 : Int32)))) + (gs_a G 27 (x2 + (-1 : Int32)))) 1640 (
          if (gs_a G 22 (((41 : Int32) * (gs_a G 26 (x2 + (-1 : Int32)))) + (gs_a G 27 (x2 + (-1 : Int32))))) ≤ 0 then
            gs_ck (((41 : Int32) * (gs_a G 26 (x2 + (-1 : Int32)))) + (gs_a G 27 (x2 + (-1 : Int32)))) 1640 (
            gs_ck (x2 + (-1 : Int32)) 200 (
            gs_ck (((41 : Int32) * (gs_a G 26 (x2 + (-1 : Int32)))) + (gs_a G 27 (x2 + (-1 : Int32)))) 1640 (
            gs_ck (x2 + (-1 : Int32)) 200 (
            gs_ck ((x2 + (-1 : Int32)) + (1 : Int32)) 200 (
            gs_ck (((41 : Int32) * (gs_a G 26 (x2 + (-1 : Int32)))) + (gs_a G 27 (x2 + (-1 : Int32)))) 1640 (
            gs_ck ((x2 + (-1 : Int32)) + (1 : Int32)) 200 (
            mM_write_16 n k ((x2 + (-1 : Int32)) + (2 : Int32)) (gs_sa (gs_sa (gs_sa (gs_sa G 26 (x2 + (-1 : Int32)) ((gs_a G 26 (x2 + (-1 : Int32))) + (gs_a G 23 (((41 : Int32) * (gs_a G 26 (x2 + (-1 : Int32)))) + (gs_a G 27 (x2 + (-1 : Int32))))))) 27 (x2 + (-1 : Int32)) ((gs_a G 27 (x2 + (-1 : Int32))) - (gs_a G 23 (((41 : Int32) * (gs_a G 26 (x2 + (-1 : Int32)))) + (gs_a G 27 (x2 + (-1 : Int32))))))) 26 ((x2 + (-1 : Int32)) + (1 : Int32)) (gs_a G 26 (x2 + (-1 : Int32)))) 27 ((x2 + (-1 : Int32)) + (1 : Int32)) (gs_a G 23 (((41 : Int32) * (gs_a G 26 (x2 + (-1 : Int32)))) + (gs_a G 27 (x2 + (-1 : Int32)))))))))))))
          else
            gs_ck (((41 : Int32) * (gs_a G 26 (x2 + (-1 : Int32)))) + (gs_a G 27 (x2 + (-1 : Int32)))) 1640 (
            gs_nz (gs_a G 22 (((41 : Int32) * (gs_a G 26 (x2 + (-1 : Int32)))) + (gs_a G 27 (x2 + (-1 : Int32))))) (
            (mM_item G (1 : Int32) ((gs_a G 27 (x2 + (-1 : Int32))) / (gs_a G 22 (((41 : Int32) * (gs_a G 26 (x2 + (-1 : Int32)))) + (gs_a G 27 (x2 + (-1 : Int32))))))).bind fun q1 =>
            gs_ck (x2 + (-1 : Int32)) 200 (
            gs_ck (x2 + (-1 : Int32)) 200 (
            gs_ck ((x2 + (-1 : Int32)) + (1 : Int32)) 200 (
            gs_ck (((41 : Int32) * (gs_a G 26 (x2 + (-1 : Int32)))) + (gs_a G 27 (x2 + (-1 : Int32)))) 1640 (
            gs_ck ((x2 + (-1 : Int32)) + (1 : Int32)) 200 (
            mM_write_16 n k ((x2 + (-1 : Int32)) + (2 : Int32)) (gs_sa (gs_sa (gs_sa (gs_sa q1 26 (x2 + (-1 : Int32)) (gs_a G 26 (x2 + (-1 : Int32)))) 27 (x2 + (-1 : Int32)) (0 : Int32)) 26 ((x2 + (-1 : Int32)) + (1 : Int32)) (gs_a G 26 (x2 + (-1 : Int32)))) 27 ((x2 + (-1 : Int32)) + (1 : Int32)) (gs_a q1 22 (((41 : Int32) * (gs_a G 26 (x2 + (-1 : Int32)))) + (gs_a G 27 (x2 + (-1 : Int32))))))))))))))))
def mM_write (n : Nat) (G : gs_T) (x1 : Int32) : Option gs_T :=
  gs_ck (0 : Int32) 200 (
  gs_ck (0 : Int32) 200 (
  mM_write_16 n n (1 : Int32) (gs_sa (gs_sa G 26 (0 : Int32) (0 : Int32)) 27 (0 : Int32) x1)))
def mM_fold_107 (n : Nat) (x2 x4 : Int32) (K : gs_T → Option (Int32 × gs_T)) : Nat → Int32 → gs_T → Option (Int32 × gs_T)
  | 0, _, _ => none
  | k + 1, x5, G =>
    if x2 < (x5 + x4) then
      K G
    else
      (mM_findWay n G x5 x4).bind fun q1 =>
      mM_fold_107 n x2 x4 K k (x5 + (1 : Int32)) q1
def mM_fold_62 (n : Nat) (x1 x2 : Int32) (K : gs_T → Option (Int32 × gs_T)) : Nat → Int32 → gs_T → Option (Int32 × gs_T)
  | 0, _, _ => none
  | k + 1, x4, G =>
    if x2 ≤ x4 then
      K G
    else
      gs_ck (x1 + x4) 1000 (
      gs_ck (gs_a G 13 (x1 + x4)) 60 (
      gs_ck x4 40 (
      mM_fold_62 n x1 x2 K k (x4 + (1 : Int32)) (gs_sa G 20 x4 (gs_a G 0 (gs_a G 13 (x1 + x4)))))))
def mM_fold_98 (n : Nat) (x2 : Int32) : Nat → Int32 → gs_T → Option (Int32 × gs_T)
  | 0, _, _ => none
  | k + 1, x4, G =>
    if x2 < x4 then
      (mM_write n (gs_sv (gs_sv G 11 (0 : Int32)) 12 (0 : Int32)) x2).bind fun q1 =>
      some ((q1.1 12), q1)
    else
      mM_fold_107 n x2 x4 (fun G1 =>
        mM_fold_98 n x2 k (x4 + (1 : Int32)) G1) n (0 : Int32) G
def mM_fold_j50 (n : Nat) (G : gs_T) (x1 x2 s0 s1 : Int32) : Option (Int32 × gs_T) :=
  (mM_refuses G s0 s1 (0 : Int32)).bind fun q1 =>
  if q1.1 = 0 then
    mM_fold_62 n x1 x2 (fun G1 =>
      mM_fold_98 n x2 n (1 : Int32) G1) n (0 : Int32) q1.2
  else
    some ((0 : Int32), q1.2)
def mM_fold_j49 (n : Nat) (G : gs_T) (x1 x2 s0 : Int32) : Option (Int32 × gs_T) :=
  mM_fold_j50 n G x1 x2 s0 (0 : Int32)
def mM_fold_j45 (n : Nat) (G : gs_T) (x1 x2 s0 : Int32) : Option (Int32 × gs_T) :=
  mM_fold_j50 n G x1 x2 s0 (1 : Int32)
def mM_fold_j27 (n : Nat) (G : gs_T) (x1 x2 x3 s0 : Int32) : Option (Int32 × gs_T) :=
  if x3 = 0 then
    mM_fold_j49 n G x1 x2 s0
  else
    if x1 < 0 then
      mM_fold_j45 n G x1 x2 s0
    else
      if x1 ≤ ((G.1 5) - x2) then
        mM_fold_j49 n G x1 x2 s0
      else
        mM_fold_j45 n G x1 x2 s0
def mM_fold_j16 (n : Nat) (G : gs_T) (x1 x2 s0 : Int32) : Option (Int32 × gs_T) :=
  if s0 = 0 then
    mM_fold_j27 n G x1 x2 s0 (1 : Int32)
  else
    mM_fold_j27 n G x1 x2 s0 (0 : Int32)
def mM_fold_j15 (n : Nat) (G : gs_T) (x1 x2 : Int32) : Option (Int32 × gs_T) :=
  mM_fold_j16 n G x1 x2 (0 : Int32)
def mM_fold (n : Nat) (G : gs_T) (x1 x2 : Int32) : Option (Int32 × gs_T) :=
  if x2 < (1 : Int32) then
    mM_fold_j15 n G x1 x2
  else
    if (40 : Int32) < x2 then
      mM_fold_j15 n G x1 x2
    else
      mM_fold_j16 n G x1 x2 (1 : Int32)
def mM_folded_j32 (G : gs_T) (x1 x2 s0 s1 : Int32) : Option (Int32 × gs_T) :=
  (mM_refuses G s0 s1 (0 : Int32)).bind fun q1 =>
  if q1.1 = 0 then
    if x2 = 0 then
      gs_ck x1 200 (
      some ((gs_a q1.2 24 x1), q1.2))
    else
      gs_ck x1 200 (
      some ((gs_a q1.2 25 x1), q1.2))
  else
    some ((0 : Int32), q1.2)
def mM_folded_j27 (G : gs_T) (x1 x2 s0 : Int32) : Option (Int32 × gs_T) :=
  mM_folded_j32 G x1 x2 s0 (1 : Int32)
def mM_folded_j18 (G : gs_T) (x1 x2 s0 : Int32) : Option (Int32 × gs_T) :=
  if x2 < 0 then
    mM_folded_j27 G x1 x2 s0
  else
    if x2 ≤ (1 : Int32) then
      mM_folded_j32 G x1 x2 s0 (0 : Int32)
    else
      mM_folded_j27 G x1 x2 s0
def mM_folded_j13 (G : gs_T) (x1 x2 : Int32) : Option (Int32 × gs_T) :=
  mM_folded_j18 G x1 x2 (1 : Int32)
def mM_folded (G : gs_T) (x1 x2 : Int32) : Option (Int32 × gs_T) :=
  if x1 < 0 then
    mM_folded_j13 G x1 x2
  else
    if x1 < (G.1 11) then
      mM_folded_j18 G x1 x2 (0 : Int32)
    else
      mM_folded_j13 G x1 x2
def mM_told_30 (n : Nat) (G : gs_T) (x1 : Int32) (K : Int32 → Option (Int32 × gs_T)) : Nat → Int32 → Int32 → Option (Int32 × gs_T)
  | 0, _, _ => none
  | k + 1, x2, x3 =>
    if (G.1 1) ≤ x3 then
      K x2
    else
      gs_ck x3 60 (
      if (gs_a G 9 x3) = 0 then
        mM_told_30 n G x1 K k (x2 + (0 : Int32)) (x3 + (1 : Int32))
      else
        mM_told_30 n G x1 K k (x2 + (1 : Int32)) (x3 + (1 : Int32)))
def mM_told_j16 (n : Nat) (G : gs_T) (x1 s0 : Int32) : Option (Int32 × gs_T) :=
  (mM_refuses G s0 (0 : Int32) (0 : Int32)).bind fun q1 =>
  if q1.1 = 0 then
    mM_told_30 n q1.2 x1 (fun y2_1 =>
      if x1 = 0 then
        some ((q1.2.1 1), q1.2)
      else
        if x1 = (1 : Int32) then
          some ((q1.2.1 2), q1.2)
        else
          if x1 = (2 : Int32) then
            some ((q1.2.1 3), q1.2)
          else
            if x1 = (3 : Int32) then
              some (y2_1, q1.2)
            else
              if x1 = (4 : Int32) then
                some ((q1.2.1 5), q1.2)
              else
                if x1 = (5 : Int32) then
                  some ((q1.2.1 6), q1.2)
                else
                  if x1 = (6 : Int32) then
                    some ((q1.2.1 11), q1.2)
                  else
                    some ((q1.2.1 12), q1.2)) n (0 : Int32) (0 : Int32)
  else
    some ((0 : Int32), q1.2)
def mM_told_j11 (n : Nat) (G : gs_T) (x1 : Int32) : Option (Int32 × gs_T) :=
  mM_told_j16 n G x1 (1 : Int32)
def mM_told (n : Nat) (G : gs_T) (x1 : Int32) : Option (Int32 × gs_T) :=
  if x1 < 0 then
    mM_told_j11 n G x1
  else
    if x1 ≤ (7 : Int32) then
      mM_told_j16 n G x1 (0 : Int32)
    else
      mM_told_j11 n G x1
