/-! ===== the class as functions (printed by gen.py from its bytecode) ===== -/
def cS_addBar (G : gs_T) (x1 : Int32) : Option (Int32 × gs_T) :=
  gs_ck (G.1 6) 60 (
  some ((G.1 6), (gs_sv (gs_sa G 0 (G.1 6) x1) 6 ((G.1 6) + (1 : Int32)))))
def cR_bar (G : gs_T) (x1 : Int32) : Option ((Int32 ⊕ Nat) × gs_T) :=
  if (G.1 6) < (60 : Int32) then
    (cS_addBar G x1).bind fun q1 =>
    some ((.inl q1.1), q1.2)
  else
    some (.inr 0, G)
def cS_hasBar (G : gs_T) (x1 : Int32) : Option Int32 :=
  if x1 < 0 then
    some (0 : Int32)
  else
    if (G.1 6) ≤ x1 then
      some (0 : Int32)
    else
      some (1 : Int32)
def cS_liesWithin (G : gs_T) (x0 x1 x2 x3 : Int32) : Option Int32 :=
  if x0 < x2 then
    some (0 : Int32)
  else
    if x3 < x1 then
      some (0 : Int32)
    else
      some (1 : Int32)
def cS_liesWell (G : gs_T) (x0 x1 x2 x3 : Int32) : Option Int32 :=
  if x1 < x2 then
    some (1 : Int32)
  else
    if x3 < x0 then
      some (1 : Int32)
    else
      (cS_liesWithin G x0 x1 x2 x3).bind fun q1 =>
      if q1 = 0 then
        (cS_liesWithin G x2 x3 x0 x1).bind fun q2 =>
        if q2 = 0 then
          some (0 : Int32)
        else
          some (1 : Int32)
      else
        some (1 : Int32)
def cS_liesWellByRepeats_2 (n : Nat) (G : gs_T) (x1 x2 : Int32) : Nat → Int32 → Option Int32
  | 0, _ => none
  | k + 1, x3 =>
    if (G.1 7) ≤ x3 then
      some (1 : Int32)
    else
      gs_ck x3 20 (
      gs_ck x3 20 (
      (cS_liesWell G x1 x2 (gs_a G 1 x3) (gs_a G 2 x3)).bind fun q1 =>
      if q1 = 0 then
        some (0 : Int32)
      else
        cS_liesWellByRepeats_2 n G x1 x2 k (x3 + (1 : Int32))))
def cS_liesWellByRepeats (n : Nat) (G : gs_T) (x1 x2 : Int32) : Option Int32 :=
  cS_liesWellByRepeats_2 n G x1 x2 n (0 : Int32)
def cS_hasSameRepeat_2 (n : Nat) (G : gs_T) (x1 x2 : Int32) : Nat → Int32 → Option Int32
  | 0, _ => none
  | k + 1, x3 =>
    if (G.1 7) ≤ x3 then
      some (0 : Int32)
    else
      gs_ck x3 20 (
      if (gs_a G 1 x3) = x1 then
        gs_ck x3 20 (
        if (gs_a G 2 x3) = x2 then
          some (1 : Int32)
        else
          cS_hasSameRepeat_2 n G x1 x2 k (x3 + (1 : Int32)))
      else
        cS_hasSameRepeat_2 n G x1 x2 k (x3 + (1 : Int32)))
def cS_hasSameRepeat (n : Nat) (G : gs_T) (x1 x2 : Int32) : Option Int32 :=
  cS_hasSameRepeat_2 n G x1 x2 n (0 : Int32)
def cS_liesWellByEndings_2 (n : Nat) (G : gs_T) (x1 x2 : Int32) : Nat → Int32 → Option Int32
  | 0, _ => none
  | k + 1, x3 =>
    if (G.1 8) ≤ x3 then
      some (1 : Int32)
    else
      gs_ck x3 20 (
      gs_ck x3 20 (
      (cS_liesWell G x1 x2 (gs_a G 5 x3) (gs_a G 6 x3)).bind fun q1 =>
      if q1 = 0 then
        some (0 : Int32)
      else
        cS_liesWellByEndings_2 n G x1 x2 k (x3 + (1 : Int32))))
def cS_liesWellByEndings (n : Nat) (G : gs_T) (x1 x2 : Int32) : Option Int32 :=
  cS_liesWellByEndings_2 n G x1 x2 n (0 : Int32)
def cS_isDepthLeft_2 (n : Nat) (G : gs_T) (x2 : Int32) : Nat → Int32 → Option Int32
  | 0, _ => none
  | k + 1, x3 =>
    if x2 < x3 then
      some (1 : Int32)
    else
      gs_ck x3 60 (
      if (gs_a G 13 x3) < (3 : Int32) then
        cS_isDepthLeft_2 n G x2 k (x3 + (1 : Int32))
      else
        some (0 : Int32))
def cS_isDepthLeft (n : Nat) (G : gs_T) (x1 x2 : Int32) : Option Int32 :=
  cS_isDepthLeft_2 n G x2 n x1
def cS_takesRepeat (n : Nat) (G : gs_T) (x1 x2 : Int32) : Option Int32 :=
  if (20 : Int32) ≤ (G.1 7) then
    some (0 : Int32)
  else
    (cS_liesWellByRepeats n G x1 x2).bind fun q1 =>
    if q1 = 0 then
      some (0 : Int32)
    else
      (cS_hasSameRepeat n G x1 x2).bind fun q2 =>
      if q2 = 0 then
        (cS_liesWellByEndings n G x1 x2).bind fun q3 =>
        if q3 = 0 then
          some (0 : Int32)
        else
          (cS_isDepthLeft n G x1 x2).bind fun q4 =>
          if q4 = 0 then
            some (0 : Int32)
          else
            some (1 : Int32)
      else
        some (0 : Int32)
def cS_isRepeatWithin (G : gs_T) (x1 x2 : Int32) : Option Int32 :=
  gs_ck x1 20 (
  gs_ck x1 20 (
  gs_ck x2 20 (
  gs_ck x2 20 (
  (cS_liesWithin G (gs_a G 1 x1) (gs_a G 2 x1) (gs_a G 1 x2) (gs_a G 2 x2)).bind fun q1 =>
  gs_bz q1 (some q1)))))
def cS_putAround_14 (n : Nat) (x1 x2 x3 : Int32) : Nat → Int32 → gs_T → Option gs_T
  | 0, _, _ => none
  | k + 1, x4, G =>
    if x4 ≤ x3 then
      gs_ck x4 180 (
      gs_ck x1 60 (
      gs_ck x1 60 (
      some (gs_sa (gs_sa G 12 x4 x2) 13 x1 ((gs_a G 13 x1) + (1 : Int32))))))
    else
      gs_ck (x4 - (1 : Int32)) 180 (
      (cS_isRepeatWithin G (gs_a G 12 (x4 - (1 : Int32))) x2).bind fun q1 =>
      if q1 = 0 then
        gs_ck x4 180 (
        gs_ck x1 60 (
        gs_ck x1 60 (
        some (gs_sa (gs_sa G 12 x4 x2) 13 x1 ((gs_a G 13 x1) + (1 : Int32))))))
      else
        gs_ck (x4 - (1 : Int32)) 180 (
        gs_ck x4 180 (
        cS_putAround_14 n x1 x2 x3 k (x4 + (-1 : Int32)) (gs_sa G 12 x4 (gs_a G 12 (x4 - (1 : Int32)))))))
def cS_putAround_j59 (n : Nat) (G : gs_T) (x1 x2 x4 : Int32) : Option gs_T :=
  gs_ck x4 180 (
  gs_ck x1 60 (
  gs_ck x1 60 (
  some (gs_sa (gs_sa G 12 x4 x2) 13 x1 ((gs_a G 13 x1) + (1 : Int32))))))
def cS_putAround (n : Nat) (G : gs_T) (x1 x2 : Int32) : Option gs_T :=
  gs_ck x1 60 (
  cS_putAround_14 n x1 x2 (x1 * (3 : Int32)) n ((x1 * (3 : Int32)) + (gs_a G 13 x1)) G)
def cS_addRepeat_33 (n : Nat) (x2 : Int32) : Nat → Int32 → gs_T → Option (Int32 × gs_T)
  | 0, _, _ => none
  | k + 1, x4, G =>
    if x2 < x4 then
      some ((G.1 7), (gs_sv G 7 ((G.1 7) + (1 : Int32))))
    else
      (cS_putAround n G x4 (G.1 7)).bind fun q1 =>
      cS_addRepeat_33 n x2 k (x4 + (1 : Int32)) q1
def cS_addRepeat (n : Nat) (G : gs_T) (x1 x2 x3 : Int32) : Option (Int32 × gs_T) :=
  gs_ck (G.1 7) 20 (
  gs_ck (G.1 7) 20 (
  gs_ck (G.1 7) 20 (
  cS_addRepeat_33 n x2 n x1 (gs_sa (gs_sa (gs_sa G 1 (G.1 7) x1) 2 (G.1 7) x2) 3 (G.1 7) x3))))
def cR_repeat (n : Nat) (G : gs_T) (x1 x2 x3 : Int32) : Option ((Int32 ⊕ Nat) × gs_T) :=
  (cS_hasBar G x1).bind fun q1 =>
  if q1 = 0 then
    some (.inr 1, G)
  else
    (cS_hasBar G x2).bind fun q2 =>
    if q2 = 0 then
      some (.inr 1, G)
    else
      if x3 < (2 : Int32) then
        some (.inr 2, G)
      else
        if (4 : Int32) < x3 then
          some (.inr 2, G)
        else
          if x1 ≤ x2 then
            (cS_takesRepeat n G x1 x2).bind fun q3 =>
            if q3 = 0 then
              some (.inr 0, G)
            else
              (cS_addRepeat n G x1 x2 x3).bind fun q4 =>
              some ((.inl q4.1), q4.2)
          else
            some (.inr 2, G)
def cS_hasRepeat (G : gs_T) (x1 : Int32) : Option Int32 :=
  if x1 < 0 then
    some (0 : Int32)
  else
    if (G.1 7) ≤ x1 then
      some (0 : Int32)
    else
      some (1 : Int32)
def cS_hasPasses (G : gs_T) (x1 x2 : Int32) : Option Int32 :=
  gs_ck x1 20 (
  if x2 = 0 then
    some (0 : Int32)
  else
    if (x2 &&& ((((1 : Int32) <<< ((gs_a G 3 x1) &&& 31)) - (1 : Int32)) ^^^ (-1 : Int32))) = 0 then
      some (1 : Int32)
    else
      some (0 : Int32))
def cS_isApartFromEndings_2 (n : Nat) (G : gs_T) (x1 x2 : Int32) : Nat → Int32 → Option Int32
  | 0, _ => none
  | k + 1, x3 =>
    if (G.1 8) ≤ x3 then
      some (1 : Int32)
    else
      gs_ck x3 20 (
      if (gs_a G 6 x3) < x1 then
        cS_isApartFromEndings_2 n G x1 x2 k (x3 + (1 : Int32))
      else
        gs_ck x3 20 (
        if x2 < (gs_a G 5 x3) then
          cS_isApartFromEndings_2 n G x1 x2 k (x3 + (1 : Int32))
        else
          some (0 : Int32)))
def cS_isApartFromEndings (n : Nat) (G : gs_T) (x1 x2 : Int32) : Option Int32 :=
  cS_isApartFromEndings_2 n G x1 x2 n (0 : Int32)
def cS_takesEnding (n : Nat) (G : gs_T) (x1 x2 x3 : Int32) : Option Int32 :=
  if (20 : Int32) ≤ (G.1 8) then
    some (0 : Int32)
  else
    gs_ck x1 20 (
    gs_ck x1 20 (
    (cS_liesWithin G x2 x3 (gs_a G 1 x1) (gs_a G 2 x1)).bind fun q1 =>
    if q1 = 0 then
      some (0 : Int32)
    else
      (cS_liesWellByRepeats n G x2 x3).bind fun q2 =>
      if q2 = 0 then
        some (0 : Int32)
      else
        (cS_isApartFromEndings n G x2 x3).bind fun q3 =>
        if q3 = 0 then
          some (0 : Int32)
        else
          some (1 : Int32)))
def cS_addEnding (G : gs_T) (x1 x2 x3 x4 : Int32) : Option (Int32 × gs_T) :=
  gs_ck (G.1 8) 20 (
  gs_ck (G.1 8) 20 (
  gs_ck (G.1 8) 20 (
  gs_ck (G.1 8) 20 (
  gs_ck x2 60 (
  some ((G.1 8), (gs_sv (gs_sa (gs_sa (gs_sa (gs_sa (gs_sa G 4 (G.1 8) x1) 5 (G.1 8) x2) 6 (G.1 8) x3) 7 (G.1 8) x4) 14 x2 (G.1 8)) 8 ((G.1 8) + (1 : Int32)))))))))
def cR_ending (n : Nat) (G : gs_T) (x1 x2 x3 x4 : Int32) : Option ((Int32 ⊕ Nat) × gs_T) :=
  (cS_hasRepeat G x1).bind fun q1 =>
  if q1 = 0 then
    some (.inr 1, G)
  else
    (cS_hasBar G x2).bind fun q2 =>
    if q2 = 0 then
      some (.inr 1, G)
    else
      (cS_hasBar G x3).bind fun q3 =>
      if q3 = 0 then
        some (.inr 1, G)
      else
        if x3 < x2 then
          some (.inr 2, G)
        else
          (cS_hasPasses G x1 x4).bind fun q4 =>
          if q4 = 0 then
            some (.inr 2, G)
          else
            (cS_takesEnding n G x1 x2 x3).bind fun q5 =>
            if q5 = 0 then
              some (.inr 0, G)
            else
              (cS_addEnding G x1 x2 x3 x4).bind fun q6 =>
              some ((.inl q6.1), q6.2)
def cS_moveSign (G : gs_T) (x1 x2 : Int32) : Option (Int32 × gs_T) :=
  gs_ck x1 4 (
  gs_ck x1 4 (
  some ((gs_a G 8 x1), (gs_sa G 8 x1 x2))))
def cR_sign (G : gs_T) (x1 x2 : Int32) : Option ((Int32 ⊕ Nat) × gs_T) :=
  if x1 < 0 then
    some (.inr 2, G)
  else
    if x1 < (4 : Int32) then
      if x2 = (-1 : Int32) then
        (cS_moveSign G x1 x2).bind fun q1 =>
        some ((.inl q1.1), q1.2)
      else
        (cS_hasBar G x2).bind fun q2 =>
        if q2 = 0 then
          some (.inr 1, G)
        else
          (cS_moveSign G x1 x2).bind fun q3 =>
          some ((.inl q3.1), q3.2)
    else
      some (.inr 2, G)
def cS_hasJump (G : gs_T) (x1 : Int32) : Option Int32 :=
  gs_ck x1 60 (
  if (gs_a G 9 x1) = (-1 : Int32) then
    some (0 : Int32)
  else
    some (1 : Int32))
def cS_putJump_j18 (G : gs_T) (x1 x2 x3 x4 : Int32) : Option gs_T :=
  gs_ck x1 60 (
  gs_ck x1 60 (
  gs_ck x1 60 (
  some (gs_sa (gs_sa (gs_sa G 9 x1 x2) 10 x1 x3) 11 x1 (vp_nar .boolean x4)))))
def cS_putJump (G : gs_T) (x1 x2 x3 x4 : Int32) : Option gs_T :=
  (cS_hasJump G x1).bind fun q1 =>
  if q1 = 0 then
    cS_putJump_j18 (gs_sv G 9 ((G.1 9) + (1 : Int32))) x1 x2 x3 x4
  else
    cS_putJump_j18 G x1 x2 x3 x4
def cR_jump (G : gs_T) (x1 x2 x3 x4 : Int32) : Option ((Unit ⊕ Nat) × gs_T) :=
  (cS_hasBar G x1).bind fun q1 =>
  if q1 = 0 then
    some (.inr 1, G)
  else
    if x2 < 0 then
      some (.inr 2, G)
    else
      if (1 : Int32) < x2 then
        some (.inr 2, G)
      else
        if x3 < 0 then
          some (.inr 2, G)
        else
          if x3 ≤ (2 : Int32) then
            (cS_putJump G x1 x2 x3 x4).bind fun q2 =>
            some ((.inl ()), q2)
          else
            some (.inr 2, G)
def cS_takeJump (G : gs_T) (x1 : Int32) : Option gs_T :=
  gs_ck x1 60 (
  some (gs_sv (gs_sa G 9 x1 (-1 : Int32)) 9 ((G.1 9) - (1 : Int32))))
def cR_plain (G : gs_T) (x1 : Int32) : Option ((Unit ⊕ Nat) × gs_T) :=
  (cS_hasBar G x1).bind fun q1 =>
  if q1 = 0 then
    some (.inr 1, G)
  else
    (cS_hasJump G x1).bind fun q2 =>
    if q2 = 0 then
      some (.inr 0, G)
    else
      (cS_takeJump G x1).bind fun q3 =>
      some ((.inl ()), q3)
def cW_leaveAll (G : gs_T) : Option gs_T :=
  some (gs_sf G 21 (0 : Int32))
def cW_forget_38 (n : Nat) : Nat → Int32 → gs_T → Option gs_T
  | 0, _, _ => none
  | k + 1, x1, G =>
    if (60 : Int32) ≤ x1 then
      (cW_leaveAll G).bind fun q1 =>
      some q1
    else
      gs_ck x1 60 (
      cW_forget_38 n k (x1 + (1 : Int32)) (gs_sa G 22 x1 (vp_nar .boolean (0 : Int32))))
def cW_forget (n : Nat) (G : gs_T) : Option gs_T :=
  cW_forget_38 n n (0 : Int32) (gs_sf (gs_sf (gs_sv (gs_sv (gs_sv (gs_sv G 0 (0 : Int32)) 1 (0 : Int32)) 2 (-1 : Int32)) 3 (0 : Int32)) 19 (0 : Int32)) 20 (0 : Int32))
def cW_setFault (G : gs_T) (x1 x2 : Int32) : Option gs_T :=
  some (gs_sv (gs_sv G 4 x1) 5 x2)
def cS_lacksSign (G : gs_T) (x1 : Int32) : Option Int32 :=
  gs_ck x1 4 (
  if (gs_a G 8 x1) = (-1 : Int32) then
    some (1 : Int32)
  else
    some (0 : Int32))
def cS_faultOfJump_j40 (G : gs_T) (x1 : Int32) : Option Int32 :=
  gs_ck x1 60 (
  if (gs_a G 10 x1) = (2 : Int32) then
    (cS_lacksSign G (2 : Int32)).bind fun q1 =>
    if q1 = 0 then
      (cS_lacksSign G (1 : Int32)).bind fun q2 =>
      if q2 = 0 then
        some (0 : Int32)
      else
        some (3 : Int32)
    else
      some (3 : Int32)
  else
    some (0 : Int32))
def cS_faultOfJump_j20 (G : gs_T) (x1 : Int32) : Option Int32 :=
  gs_ck x1 60 (
  if (gs_a G 10 x1) = (1 : Int32) then
    (cS_lacksSign G (3 : Int32)).bind fun q1 =>
    if q1 = 0 then
      cS_faultOfJump_j40 G x1
    else
      some (2 : Int32)
  else
    cS_faultOfJump_j40 G x1)
def cS_faultOfJump (G : gs_T) (x1 : Int32) : Option Int32 :=
  gs_ck x1 60 (
  if (gs_a G 9 x1) = (1 : Int32) then
    (cS_lacksSign G (0 : Int32)).bind fun q1 =>
    if q1 = 0 then
      cS_faultOfJump_j20 G x1
    else
      some (1 : Int32)
  else
    cS_faultOfJump_j20 G x1)
def cW_findFaultOfJumps_2 (n : Nat) : Nat → Int32 → gs_T → Option gs_T
  | 0, _, _ => none
  | k + 1, x1, G =>
    if (G.1 6) ≤ x1 then
      some G
    else
      if (G.1 4) = 0 then
        (cS_hasJump G x1).bind fun q1 =>
        if q1 = 0 then
          cW_findFaultOfJumps_2 n k (x1 + (1 : Int32)) G
        else
          (cS_faultOfJump G x1).bind fun q2 =>
          if q2 = 0 then
            (cW_setFault G q2 (-1 : Int32)).bind fun q4 =>
            cW_findFaultOfJumps_2 n k (x1 + (1 : Int32)) q4
          else
            (cW_setFault G q2 x1).bind fun q3 =>
            cW_findFaultOfJumps_2 n k (x1 + (1 : Int32)) q3
      else
        some G
def cW_findFaultOfJumps (n : Nat) (G : gs_T) : Option gs_T :=
  cW_findFaultOfJumps_2 n n (0 : Int32) G
def cS_repeatAround (G : gs_T) (x1 x2 : Int32) : Option Int32 :=
  gs_ck ((x1 * (3 : Int32)) + x2) 180 (
  some (gs_a G 12 ((x1 * (3 : Int32)) + x2)))
def cW_openAround_31 (n : Nat) (x1 x2 : Int32) : Nat → Int32 → gs_T → Option gs_T
  | 0, _, _ => none
  | k + 1, x3, G =>
    gs_ck x1 60 (
    if (gs_a G 13 x1) ≤ x3 then
      some G
    else
      (cS_repeatAround G x1 x3).bind fun q1 =>
      gs_ck q1 20 (
      if (gs_a G 21 q1) = 0 then
        if x2 = 0 then
          gs_ck q1 20 (
          cW_openAround_31 n x1 x2 k (x3 + (1 : Int32)) (gs_sa G 21 q1 (1 : Int32)))
        else
          gs_ck q1 20 (
          gs_ck q1 20 (
          cW_openAround_31 n x1 x2 k (x3 + (1 : Int32)) (gs_sa G 21 q1 (gs_a G 3 q1))))
      else
        cW_openAround_31 n x1 x2 k (x3 + (1 : Int32)) G))
def cW_openAround_j28 (n : Nat) (G : gs_T) (x1 s0 : Int32) : Option gs_T :=
  cW_openAround_31 n x1 s0 n (0 : Int32) G
def cW_openAround_j27 (n : Nat) (G : gs_T) (x1 : Int32) : Option gs_T :=
  cW_openAround_j28 n G x1 (0 : Int32)
def cW_openAround (n : Nat) (G : gs_T) (x1 : Int32) : Option gs_T :=
  if (G.1 2) = (-1 : Int32) then
    cW_openAround_j27 n G x1
  else
    gs_ck (G.1 2) 60 (
    if (gs_a G 11 (G.1 2)) = 0 then
      cW_openAround_j28 n G x1 (1 : Int32)
    else
      cW_openAround_j27 n G x1)
def cW_isLeftOut (G : gs_T) (x1 : Int32) : Option Int32 :=
  gs_ck x1 20 (
  gs_ck (gs_a G 4 x1) 20 (
  gs_ck x1 20 (
  if ((gs_a G 7 x1) &&& ((1 : Int32) <<< (((gs_a G 21 (gs_a G 4 x1)) - (1 : Int32)) &&& 31))) = 0 then
    some (1 : Int32)
  else
    some (0 : Int32))))
def cS_isRepeatWithinEnding (G : gs_T) (x1 x2 : Int32) : Option Int32 :=
  gs_ck x1 20 (
  gs_ck x1 20 (
  gs_ck x2 20 (
  gs_ck x2 20 (
  (cS_liesWithin G (gs_a G 1 x1) (gs_a G 2 x1) (gs_a G 5 x2) (gs_a G 6 x2)).bind fun q1 =>
  gs_bz q1 (some q1)))))
def cW_leaveWithin_2 (n : Nat) (x1 : Int32) : Nat → Int32 → gs_T → Option gs_T
  | 0, _, _ => none
  | k + 1, x2, G =>
    if (G.1 7) ≤ x2 then
      some G
    else
      gs_ck x1 20 (
      if x2 = (gs_a G 4 x1) then
        cW_leaveWithin_2 n x1 k (x2 + (1 : Int32)) G
      else
        (cS_isRepeatWithinEnding G x2 x1).bind fun q1 =>
        if q1 = 0 then
          cW_leaveWithin_2 n x1 k (x2 + (1 : Int32)) G
        else
          gs_ck x2 20 (
          cW_leaveWithin_2 n x1 k (x2 + (1 : Int32)) (gs_sa G 21 x2 (0 : Int32))))
def cW_leaveWithin (n : Nat) (G : gs_T) (x1 : Int32) : Option gs_T :=
  cW_leaveWithin_2 n x1 n (0 : Int32) G
def cW_endOf_12 (n : Nat) (x1 : Int32) : Nat → Int32 → gs_T → Option (Int32 × gs_T)
  | 0, _, _ => none
  | k + 1, x2, G =>
    if x2 < 0 then
      if (G.1 6) ≤ (x1 + (1 : Int32)) then
        some ((-1 : Int32), G)
      else
        some ((x1 + (1 : Int32)), G)
    else
      (cS_repeatAround G x1 x2).bind fun q1 =>
      gs_ck q1 20 (
      if (gs_a G 2 q1) = x1 then
        gs_ck q1 20 (
        if (gs_a G 21 q1) = 0 then
          cW_endOf_12 n x1 k (x2 + (-1 : Int32)) G
        else
          gs_ck q1 20 (
          gs_ck q1 20 (
          if (gs_a G 3 q1) ≤ (gs_a G 21 q1) then
            gs_ck q1 20 (
            cW_endOf_12 n x1 k (x2 + (-1 : Int32)) (gs_sa G 21 q1 (0 : Int32)))
          else
            gs_ck q1 20 (
            gs_ck q1 20 (
            gs_ck q1 20 (
            some ((gs_a G 1 q1), (gs_sa G 21 q1 ((gs_a G 21 q1) + (1 : Int32))))))))))
      else
        cW_endOf_12 n x1 k (x2 + (-1 : Int32)) G)
def cW_endOf (n : Nat) (G : gs_T) (x1 : Int32) : Option (Int32 × gs_T) :=
  gs_ck x1 60 (
  cW_endOf_12 n x1 n ((gs_a G 13 x1) - (1 : Int32)) G)
def cW_play_j96 (G : gs_T) (x1 s0 s1 : Int32) : Option gs_T :=
  gs_ck s0 1000 (
  gs_ck x1 60 (
  gs_ck x1 60 (
  some (gs_sa (gs_sv (gs_sa G 18 s0 s1) 0 ((G.1 0) + (1 : Int32))) 19 x1 ((gs_a G 19 x1) + (1 : Int32))))))
def cW_play_j65 (G : gs_T) (x1 x2 s0 s1 : Int32) : Option gs_T :=
  gs_ck s0 1000 (
  if x2 = 0 then
    cW_play_j96 (gs_sa G 17 s0 s1) x1 (G.1 0) (0 : Int32)
  else
    (cS_repeatAround (gs_sa G 17 s0 s1) x1 (0 : Int32)).bind fun q1 =>
    gs_ck q1 20 (
    cW_play_j96 (gs_sa G 17 s0 s1) x1 (G.1 0) (gs_a G 21 q1)))
def cW_play (G : gs_T) (x1 : Int32) : Option gs_T :=
  gs_ck x1 60 (
  gs_ck (G.1 0) 1000 (
  gs_ck (G.1 0) 1000 (
  if (gs_a G 13 x1) = 0 then
    cW_play_j65 (gs_sa (gs_sa G 15 (G.1 0) x1) 16 (G.1 0) (G.1 1)) x1 (gs_a G 13 x1) (G.1 0) (0 : Int32)
  else
    (cS_repeatAround (gs_sa (gs_sa G 15 (G.1 0) x1) 16 (G.1 0) (G.1 1)) x1 ((gs_a G 13 x1) - (1 : Int32))).bind fun q1 =>
    gs_ck q1 20 (
    cW_play_j65 (gs_sa (gs_sa G 15 (G.1 0) x1) 16 (G.1 0) (G.1 1)) x1 (gs_a G 13 x1) (G.1 0) (gs_a G 21 q1)))))
def cW_isInLastPasses_2 (n : Nat) (G : gs_T) (x1 : Int32) : Nat → Int32 → Option Int32
  | 0, _ => none
  | k + 1, x2 =>
    gs_ck x1 60 (
    if (gs_a G 13 x1) ≤ x2 then
      some (1 : Int32)
    else
      (cS_repeatAround G x1 x2).bind fun q1 =>
      gs_ck q1 20 (
      gs_ck q1 20 (
      if (gs_a G 3 q1) ≤ (gs_a G 21 q1) then
        cW_isInLastPasses_2 n G x1 k (x2 + (1 : Int32))
      else
        some (0 : Int32))))
def cW_isInLastPasses (n : Nat) (G : gs_T) (x1 : Int32) : Option Int32 :=
  cW_isInLastPasses_2 n G x1 n (0 : Int32)
def cW_isLatestJumpTill (G : gs_T) (x1 : Int32) : Option Int32 :=
  if (G.1 2) = (-1 : Int32) then
    some (0 : Int32)
  else
    gs_ck (G.1 2) 60 (
    if (gs_a G 10 (G.1 2)) = x1 then
      some (1 : Int32)
    else
      some (0 : Int32))
def cW_act (G : gs_T) (x1 : Int32) : Option (Int32 × gs_T) :=
  gs_ck x1 60 (
  (cW_leaveAll (gs_sv (gs_sv (gs_sv (gs_sa G 22 x1 (vp_nar .boolean (1 : Int32))) 2 x1) 3 (0 : Int32)) 1 ((G.1 1) + (1 : Int32)))).bind fun q1 =>
  gs_ck x1 60 (
  if (gs_a q1 9 x1) = (1 : Int32) then
    gs_ck (0 : Int32) 4 (
    some ((gs_a q1 8 (0 : Int32)), q1))
  else
    some ((0 : Int32), q1)))
def cW_behind_j84 (n : Nat) (G : gs_T) (x1 : Int32) : Option (Int32 × gs_T) :=
  (cS_hasJump G x1).bind fun q1 =>
  if q1 = 0 then
    (cW_endOf n G x1).bind fun q2 =>
    some (q2.1, q2.2)
  else
    gs_ck x1 60 (
    if (gs_a G 22 x1) = 0 then
      (cW_act G x1).bind fun q4 =>
      some (q4.1, q4.2)
    else
      (cW_endOf n G x1).bind fun q3 =>
      some (q3.1, q3.2))
def cW_behind_j37 (n : Nat) (G : gs_T) (x1 : Int32) : Option (Int32 × gs_T) :=
  gs_ck (2 : Int32) 4 (
  if (gs_a G 8 (2 : Int32)) = x1 then
    (cW_isLatestJumpTill G (2 : Int32)).bind fun q1 =>
    if q1 = 0 then
      cW_behind_j84 n G x1
    else
      if (G.1 3) = 0 then
        (cW_leaveAll G).bind fun q2 =>
        gs_ck (1 : Int32) 4 (
        some ((gs_a q2 8 (1 : Int32)), (gs_sv q2 3 (1 : Int32))))
      else
        cW_behind_j84 n G x1
  else
    cW_behind_j84 n G x1)
def cW_behind (n : Nat) (G : gs_T) (x1 : Int32) : Option (Int32 × gs_T) :=
  (cW_isInLastPasses n G x1).bind fun q1 =>
  if q1 = 0 then
    (cW_endOf n G x1).bind fun q3 =>
    some (q3.1, q3.2)
  else
    gs_ck (3 : Int32) 4 (
    if (gs_a G 8 (3 : Int32)) = x1 then
      (cW_isLatestJumpTill G (1 : Int32)).bind fun q2 =>
      if q2 = 0 then
        cW_behind_j37 n G x1
      else
        some ((-1 : Int32), G)
    else
      cW_behind_j37 n G x1)
def cW_comeTo_j57 (n : Nat) (G : gs_T) (x1 : Int32) : Option (Int32 × gs_T) :=
  if (G.1 0) < (1000 : Int32) then
    (cW_play G x1).bind fun q1 =>
    (cW_behind n q1 x1).bind fun q2 =>
    some (q2.1, q2.2)
  else
    (cW_setFault G (4 : Int32) x1).bind fun q3 =>
    some ((-1 : Int32), q3)
def cW_comeTo (n : Nat) (G : gs_T) (x1 : Int32) : Option (Int32 × gs_T) :=
  gs_ck x1 60 (
  gs_ck x1 60 (
  (cW_openAround n (gs_sa G 20 x1 ((gs_a G 20 x1) + (1 : Int32))) x1).bind fun q1 =>
  gs_ck x1 60 (
  if (gs_a q1 14 x1) = (-1 : Int32) then
    cW_comeTo_j57 n q1 x1
  else
    (cW_isLeftOut q1 (gs_a q1 14 x1)).bind fun q2 =>
    if q2 = 0 then
      cW_comeTo_j57 n q1 x1
    else
      (cW_leaveWithin n q1 (gs_a q1 14 x1)).bind fun q3 =>
      gs_ck (gs_a q1 14 x1) 20 (
      (cW_endOf n q3 (gs_a q3 6 (gs_a q1 14 x1))).bind fun q4 =>
      some (q4.1, q4.2)))))
def cW_playFromFirstBar_18 (n : Nat) : Nat → Int32 → Int32 → gs_T → Option gs_T
  | 0, _, _, _ => none
  | k + 1, x1, x2, G =>
    if (1000000 : Int32) ≤ x2 then
      some G
    else
      if x1 = (-1 : Int32) then
        some G
      else
        (cW_comeTo n G x1).bind fun q1 =>
        cW_playFromFirstBar_18 n k q1.1 (x2 + (1 : Int32)) q1.2
def cW_playFromFirstBar_j15 (n : Nat) (G : gs_T) (s0 : Int32) : Option gs_T :=
  cW_playFromFirstBar_18 n n s0 (0 : Int32) G
def cW_playFromFirstBar (n : Nat) (G : gs_T) : Option gs_T :=
  if (G.1 6) ≤ 0 then
    cW_playFromFirstBar_j15 n G (-1 : Int32)
  else
    cW_playFromFirstBar_j15 n G (0 : Int32)
def cW_go_j25 (n : Nat) (G : gs_T) : Option (Int32 × gs_T) :=
  if (G.1 4) = 0 then
    some ((G.1 0), G)
  else
    (cW_forget n G).bind fun q1 =>
    some (((-1 : Int32) - (q1.1 4)), q1)
def cW_go (n : Nat) (G : gs_T) : Option (Int32 × gs_T) :=
  (cW_forget n G).bind fun q1 =>
  (cW_setFault q1 (0 : Int32) (-1 : Int32)).bind fun q2 =>
  (cW_findFaultOfJumps n q2).bind fun q3 =>
  if (q3.1 4) = 0 then
    (cW_playFromFirstBar n q3).bind fun q4 =>
    cW_go_j25 n q4
  else
    cW_go_j25 n q3
def cR_unfold (n : Nat) (G : gs_T) : Option (Int32 × gs_T) :=
  (cW_go n G).bind fun q1 =>
  some (q1.1, q1.2)
def cR_fault (G : gs_T) : Option Int32 :=
  some (G.1 5)
def cR_played (G : gs_T) (x1 x2 : Int32) : Option ((Int32 ⊕ Nat) × gs_T) :=
  if x1 < 0 then
    some (.inr 1, G)
  else
    if x1 < (G.1 0) then
      if x2 = (0 : Int32) then
        gs_ck x1 1000 (
        some ((.inl (gs_a G 15 x1)), G))
      else
      if x2 = (1 : Int32) then
        gs_ck x1 1000 (
        gs_ck (gs_a G 15 x1) 60 (
        some ((.inl (gs_a G 0 (gs_a G 15 x1))), G)))
      else
      if x2 = (2 : Int32) then
        gs_ck x1 1000 (
        some ((.inl (gs_a G 16 x1)), G))
      else
      if x2 = (3 : Int32) then
        gs_ck x1 1000 (
        some ((.inl (gs_a G 17 x1)), G))
      else
      if x2 = (4 : Int32) then
        gs_ck x1 1000 (
        some ((.inl (gs_a G 18 x1)), G))
      else
        some (.inr 2, G)
    else
      some (.inr 1, G)
def cR_times (G : gs_T) (x1 : Int32) : Option ((Int32 ⊕ Nat) × gs_T) :=
  (cS_hasBar G x1).bind fun q1 =>
  if q1 = 0 then
    some (.inr 1, G)
  else
    gs_ck x1 60 (
    some ((.inl (gs_a G 19 x1)), G))
def cR_comes (G : gs_T) (x1 : Int32) : Option ((Int32 ⊕ Nat) × gs_T) :=
  (cS_hasBar G x1).bind fun q1 =>
  if q1 = 0 then
    some (.inr 1, G)
  else
    gs_ck x1 60 (
    some ((.inl (gs_a G 20 x1)), G))
def cT_cell (G : gs_T) (x0 x1 : Int32) : Option Int32 :=
  some ((x0 * (41 : Int32)) + x1)
def cT_compareContents_12 (n : Nat) (x1 x2 : Int32) (K : gs_T → Option gs_T) : Nat → Int32 → gs_T → Option gs_T
  | 0, _, _ => none
  | k + 1, x3, G =>
    if x3 ≤ x2 then
      K G
    else
      if x1 ≤ (x3 + (1 : Int32)) then
        (cT_cell G x2 x3).bind fun q1 =>
        gs_ck x2 40 (
        gs_ck x3 40 (
        if (gs_a G 23 x2) = (gs_a G 23 x3) then
          gs_ck q1 1681 (
          cT_compareContents_12 n x1 x2 K k (x3 + (-1 : Int32)) (gs_sa G 24 q1 ((0 : Int32) + (1 : Int32))))
        else
          gs_ck q1 1681 (
          cT_compareContents_12 n x1 x2 K k (x3 + (-1 : Int32)) (gs_sa G 24 q1 (0 : Int32)))))
      else
        (cT_cell G (x2 + (1 : Int32)) (x3 + (1 : Int32))).bind fun q2 =>
        gs_ck q2 1681 (
        (cT_cell G x2 x3).bind fun q3 =>
        gs_ck x2 40 (
        gs_ck x3 40 (
        if (gs_a G 23 x2) = (gs_a G 23 x3) then
          gs_ck q3 1681 (
          cT_compareContents_12 n x1 x2 K k (x3 + (-1 : Int32)) (gs_sa G 24 q3 ((gs_a G 24 q2) + (1 : Int32))))
        else
          gs_ck q3 1681 (
          cT_compareContents_12 n x1 x2 K k (x3 + (-1 : Int32)) (gs_sa G 24 q3 (0 : Int32))))))
def cT_compareContents_4 (n : Nat) (x1 : Int32) : Nat → Int32 → gs_T → Option gs_T
  | 0, _, _ => none
  | k + 1, x2, G =>
    if x2 < 0 then
      some G
    else
      cT_compareContents_12 n x1 x2 (fun G0 =>
        cT_compareContents_4 n x1 k (x2 + (-1 : Int32)) G0) n (x1 - (1 : Int32)) G
def cT_compareContents (n : Nat) (G : gs_T) (x1 : Int32) : Option gs_T :=
  cT_compareContents_4 n x1 n (x1 - (1 : Int32)) G
def cT_chooseBlock_9 (n : Nat) (x1 x2 x3 : Int32) : Nat → Int32 → gs_T → Option gs_T
  | 0, _, _ => none
  | k + 1, x4, G =>
    if x2 < ((2 : Int32) * x4) then
      some G
    else
      gs_nz x4 (
      if (x2 - x2 / x4 * x4) = 0 then
        (cT_cell G x1 (x1 + x4)).bind fun q1 =>
        gs_ck q1 1681 (
        if (gs_a G 24 q1) < (x2 - x4) then
          cT_chooseBlock_9 n x1 x2 x3 k (x4 + (1 : Int32)) G
        else
          (cT_cell G x1 x4).bind fun q2 =>
          gs_ck q2 1681 (
          gs_ck x3 1681 (
          if (gs_a G 25 x3) ≤ (gs_a G 25 q2) then
            cT_chooseBlock_9 n x1 x2 x3 k (x4 + (1 : Int32)) G
          else
            (cT_cell G x1 x4).bind fun q3 =>
            gs_ck q3 1681 (
            gs_ck x3 1681 (
            gs_ck x3 1681 (
            cT_chooseBlock_9 n x1 x2 x3 k (x4 + (1 : Int32)) (gs_sa (gs_sa G 25 x3 (gs_a G 25 q3)) 26 x3 x4)))))))
      else
        cT_chooseBlock_9 n x1 x2 x3 k (x4 + (1 : Int32)) G)
def cT_chooseBlock (n : Nat) (G : gs_T) (x1 x2 : Int32) : Option gs_T :=
  (cT_cell G x1 x2).bind fun q1 =>
  cT_chooseBlock_9 n x1 x2 q1 n (1 : Int32) G
def cT_chooseParts_17 (n : Nat) (x1 x2 x3 : Int32) : Nat → Int32 → Int32 → gs_T → Option gs_T
  | 0, _, _, _ => none
  | k + 1, x4, x5, G =>
    if x2 ≤ x5 then
      gs_ck x3 1681 (
      some (gs_sa G 25 x3 x4))
    else
      if x4 ≤ (2 : Int32) then
        gs_ck x3 1681 (
        some (gs_sa G 25 x3 x4))
      else
        (cT_cell G x1 x5).bind fun q1 =>
        gs_ck q1 1681 (
        (cT_cell G (x1 + x5) (x2 - x5)).bind fun q2 =>
        gs_ck q2 1681 (
        if x4 ≤ ((gs_a G 25 q1) + (gs_a G 25 q2)) then
          cT_chooseParts_17 n x1 x2 x3 k x4 (x5 + (1 : Int32)) G
        else
          gs_ck x3 1681 (
          cT_chooseParts_17 n x1 x2 x3 k ((gs_a G 25 q1) + (gs_a G 25 q2)) (x5 + (1 : Int32)) (gs_sa G 26 x3 (-x5)))))
def cT_chooseParts (n : Nat) (G : gs_T) (x1 x2 : Int32) : Option gs_T :=
  (cT_cell G x1 x2).bind fun q1 =>
  gs_ck q1 1681 (
  cT_chooseParts_17 n x1 x2 q1 n (gs_a G 25 q1) (1 : Int32) G)
def cT_choose (n : Nat) (G : gs_T) (x1 x2 : Int32) : Option gs_T :=
  (cT_cell G x1 x2).bind fun q1 =>
  if x2 = (1 : Int32) then
    gs_ck q1 1681 (
    gs_ck q1 1681 (
    some (gs_sa (gs_sa G 25 q1 (1 : Int32)) 26 q1 (0 : Int32))))
  else
    gs_ck q1 1681 (
    (cT_chooseBlock n (gs_sa G 25 q1 (x2 + (1 : Int32))) x1 x2).bind fun q2 =>
    (cT_chooseParts n q2 x1 x2).bind fun q3 =>
    some q3)
def cT_putAside (G : gs_T) (x1 x2 : Int32) : Option gs_T :=
  if (160 : Int32) ≤ (G.1 10) then
    some G
  else
    gs_ck (G.1 10) 160 (
    gs_ck (G.1 10) 160 (
    some (gs_sv (gs_sa (gs_sa G 27 (G.1 10) x1) 28 (G.1 10) x2) 10 ((G.1 10) + (1 : Int32)))))
def cT_addItem (G : gs_T) (x1 x2 : Int32) : Option gs_T :=
  if (80 : Int32) ≤ (G.1 11) then
    some G
  else
    gs_ck (G.1 11) 80 (
    gs_ck (G.1 11) 80 (
    some (gs_sv (gs_sa (gs_sa G 29 (G.1 11) x1) 30 (G.1 11) x2) 11 ((G.1 11) + (1 : Int32)))))
def cT_writePart (G : gs_T) (x1 x2 : Int32) : Option gs_T :=
  if x2 = 0 then
    (cT_addItem G (2 : Int32) (0 : Int32)).bind fun q8 =>
    some q8
  else
    (cT_cell G x1 x2).bind fun q1 =>
    gs_ck q1 1681 (
    if (gs_a G 26 q1) ≤ 0 then
      if 0 ≤ (gs_a G 26 q1) then
        gs_ck x1 40 (
        (cT_addItem G (0 : Int32) (gs_a G 23 x1)).bind fun q2 =>
        some (gs_sv q2 12 ((q2.1 12) + (1 : Int32))))
      else
        (cT_putAside G (x1 - (gs_a G 26 q1)) (x2 + (gs_a G 26 q1))).bind fun q3 =>
        (cT_putAside q3 x1 (-(gs_a G 26 q1))).bind fun q4 =>
        some q4
    else
      gs_nz (gs_a G 26 q1) (
      (cT_addItem G (1 : Int32) (x2 / (gs_a G 26 q1))).bind fun q5 =>
      (cT_putAside q5 x1 (0 : Int32)).bind fun q6 =>
      (cT_putAside q6 x1 (gs_a G 26 q1)).bind fun q7 =>
      some q7))
def cT_writeItems_23 (n : Nat) : Nat → Int32 → gs_T → Option gs_T
  | 0, _, _ => none
  | k + 1, x2, G =>
    if (160 : Int32) ≤ x2 then
      some G
    else
      if (G.1 10) ≤ 0 then
        some G
      else
        gs_ck ((G.1 10) - (1 : Int32)) 160 (
        gs_ck ((G.1 10) - (1 : Int32)) 160 (
        (cT_writePart (gs_sv G 10 ((G.1 10) - (1 : Int32))) (gs_a G 27 ((G.1 10) - (1 : Int32))) (gs_a G 28 ((G.1 10) - (1 : Int32)))).bind fun q1 =>
        cT_writeItems_23 n k (x2 + (1 : Int32)) q1))
def cT_writeItems (n : Nat) (G : gs_T) (x1 : Int32) : Option gs_T :=
  (cT_putAside (gs_sv (gs_sv (gs_sv G 11 (0 : Int32)) 12 (0 : Int32)) 10 (0 : Int32)) (0 : Int32) x1).bind fun q1 =>
  cT_writeItems_23 n n (0 : Int32) q1
def cT_writeRow_14 (n : Nat) (x1 x2 : Int32) (K : gs_T → Option (Int32 × gs_T)) : Nat → Int32 → gs_T → Option (Int32 × gs_T)
  | 0, _, _ => none
  | k + 1, x3, G =>
    if x1 < (x3 + x2) then
      K G
    else
      (cT_choose n G x3 x2).bind fun q1 =>
      cT_writeRow_14 n x1 x2 K k (x3 + (1 : Int32)) q1
def cT_writeRow_7 (n : Nat) (x1 : Int32) : Nat → Int32 → gs_T → Option (Int32 × gs_T)
  | 0, _, _ => none
  | k + 1, x2, G =>
    if x1 < x2 then
      (cT_writeItems n G x1).bind fun q1 =>
      some ((q1.1 12), q1)
    else
      cT_writeRow_14 n x1 x2 (fun G1 =>
        cT_writeRow_7 n x1 k (x2 + (1 : Int32)) G1) n (0 : Int32) G
def cT_writeRow (n : Nat) (G : gs_T) (x1 : Int32) : Option (Int32 × gs_T) :=
  (cT_compareContents n G x1).bind fun q1 =>
  cT_writeRow_7 n x1 n (1 : Int32) q1
def cR_fold_50 (n : Nat) (x1 x2 : Int32) : Nat → Int32 → gs_T → Option ((Int32 ⊕ Nat) × gs_T)
  | 0, _, _ => none
  | k + 1, x3, G =>
    if x2 ≤ x3 then
      (cT_writeRow n G x2).bind fun q1 =>
      some ((.inl q1.1), q1.2)
    else
      gs_ck (x1 + x3) 1000 (
      gs_ck (gs_a G 15 (x1 + x3)) 60 (
      gs_ck x3 40 (
      cR_fold_50 n x1 x2 k (x3 + (1 : Int32)) (gs_sa G 23 x3 (gs_a G 0 (gs_a G 15 (x1 + x3)))))))
def cR_fold (n : Nat) (G : gs_T) (x1 x2 : Int32) : Option ((Int32 ⊕ Nat) × gs_T) :=
  if x2 < (1 : Int32) then
    some (.inr 2, G)
  else
    if x2 ≤ (40 : Int32) then
      if x1 < 0 then
        some (.inr 1, G)
      else
        if x1 ≤ ((G.1 0) - x2) then
          cR_fold_50 n x1 x2 n (0 : Int32) G
        else
          some (.inr 1, G)
    else
      some (.inr 2, G)
def cR_folded (G : gs_T) (x1 x2 : Int32) : Option ((Int32 ⊕ Nat) × gs_T) :=
  if x1 < 0 then
    some (.inr 1, G)
  else
    if x1 < (G.1 11) then
      if x2 = (0 : Int32) then
        gs_ck x1 80 (
        some ((.inl (gs_a G 29 x1)), G))
      else
      if x2 = (1 : Int32) then
        gs_ck x1 80 (
        some ((.inl (gs_a G 30 x1)), G))
      else
        some (.inr 2, G)
    else
      some (.inr 1, G)
def cR_told (G : gs_T) (x1 : Int32) : Option ((Int32 ⊕ Nat) × gs_T) :=
  if x1 = (0 : Int32) then
    some ((.inl (G.1 6)), G)
  else
  if x1 = (1 : Int32) then
    some ((.inl (G.1 7)), G)
  else
  if x1 = (2 : Int32) then
    some ((.inl (G.1 8)), G)
  else
  if x1 = (3 : Int32) then
    some ((.inl (G.1 9)), G)
  else
  if x1 = (4 : Int32) then
    some ((.inl (G.1 0)), G)
  else
  if x1 = (5 : Int32) then
    some ((.inl (G.1 1)), G)
  else
  if x1 = (6 : Int32) then
    some ((.inl (G.1 11)), G)
  else
  if x1 = (7 : Int32) then
    some ((.inl (G.1 12)), G)
  else
    some (.inr 2, G)
