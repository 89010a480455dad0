/-! THE METHODS, by program out of the listing of the class and of the reference -/
def f_X2_copyMark (j : Nat) (k : Nat) (σ : zS) (x2 : Int) (x3 : Int) : Option (Unit × zS) :=
  if 0 ≤ x2 ∧ x2 < 20 then
    if 0 ≤ x3 ∧ x3 < 20 then z_put σ (8 * j + 2) x3 (σ (8 * k + 2) x2) fun σ1 =>
      if 0 ≤ x2 ∧ x2 < 20 then
        if 0 ≤ x3 ∧ x3 < 20 then z_put σ1 (8 * j + 3) x3 (σ1 (8 * k + 3) x2) fun σ2 =>
          if 0 ≤ x2 ∧ x2 < 20 then
            if 0 ≤ x3 ∧ x3 < 20 then z_put σ2 (8 * j + 4) x3 (σ2 (8 * k + 4) x2) fun σ3 =>
              if 0 ≤ x2 ∧ x2 < 20 then
                if 0 ≤ x3 ∧ x3 < 20 then z_put σ3 (8 * j + 5) x3 (σ3 (8 * k + 5) x2) fun σ4 =>
                  if 0 ≤ x2 ∧ x2 < 20 then
                    if (0 ≤ x3 ∧ x3 < 20) ∧ 0 ≤ (σ4 (8 * k + 6) x2) ∧ (σ4 (8 * k + 6) x2) ≤ 1 then z_put σ4 (8 * j + 6) x3 (σ4 (8 * k + 6) x2) fun σ5 =>
                      some ((), σ5)
                    else none
                  else none
                else none
              else none
            else none
          else none
        else none
      else none
    else none
  else none
def f_X2_copySound_b34 (j : Nat) (k : Nat) (K34 : zS → Int → Option (Unit × zS)) (σ : zS) (x2 : Int) : Option (Unit × zS) :=
  if zr x2 ∧ zr (σ (8 * j) 7) then
    if (σ (8 * j) 7) ≤ x2 then
      some ((), σ)
    else
      z_bind (f_X2_copyMark j k σ x2 x2) fun _ σ1 =>
      K34 σ1 (x2 + 1)
  else none
def f_X2_copySound_l34 (j : Nat) (k : Nat) : Nat → zS → Int → Option (Unit × zS)
  | 0, _, _ => none
  | n + 1, σ, x2 => f_X2_copySound_b34 j k (f_X2_copySound_l34 j k n) σ x2
def f_X2_copySound (j : Nat) (k : Nat) (σ : zS) : Option (Unit × zS) :=
  z_put σ (8 * j) 1 (σ (8 * k) 1) fun σ1 =>
  if 0 ≤ (0 : Int) ∧ 0 ≤ (0 : Int) ∧ 0 ≤ (200 : Int) ∧ (0 : Int) + (200 : Int) ≤ 200 ∧ (0 : Int) + (200 : Int) ≤ 200 then z_copy σ1 (8 * k + 1) (0 : Int) (8 * j + 1) (0 : Int) (200 : Int) fun σ2 =>
    z_put σ2 (8 * j) 7 (σ2 (8 * k) 7) fun σ3 =>
    f_X2_copySound_l34 j k z_fuel σ3 0
  else none
def f_X2_copyAll (j : Nat) (k : Nat) (σ : zS) : Option (Unit × zS) :=
  z_bind (f_X2_copySound j k σ) fun _ σ1 =>
  if 0 ≤ (0 : Int) ∧ 0 ≤ (0 : Int) ∧ 0 ≤ (7 : Int) ∧ (0 : Int) + (7 : Int) ≤ 7 ∧ (0 : Int) + (7 : Int) ≤ 7 then z_copy σ1 (8 * k + 7) (0 : Int) (8 * j + 7) (0 : Int) (7 : Int) fun σ2 =>
    some ((), σ2)
  else none
def f_X2_addFrame_b30 (j : Nat) (σ : zS) : Option (Unit × zS) :=
  some ((), σ)
def f_X2_addFrame (j : Nat) (σ : zS) (x1 : Int) : Option (Unit × zS) :=
  if zr (σ (8 * j) 1) then
    if 200 ≤ (σ (8 * j) 1) then
      f_X2_addFrame_b30 j σ
    else
      if 0 ≤ (σ (8 * j) 1) ∧ (σ (8 * j) 1) < 200 then z_put σ (8 * j + 1) (σ (8 * j) 1) x1 fun σ1 =>
        z_put σ1 (8 * j) 1 ((σ1 (8 * j) 1) + 1) fun σ2 =>
        f_X2_addFrame_b30 j σ2
      else none
  else none
def f_X2_hasFrame_b17 (j : Nat) (σ : zS) (s0 : Int) : Option (Int × zS) :=
  if 0 ≤ s0 ∧ s0 ≤ 1 then some (s0, σ) else none
def f_X2_hasFrame_b16 (j : Nat) (σ : zS) : Option (Int × zS) :=
  f_X2_hasFrame_b17 j σ 0
def f_X2_hasFrame (j : Nat) (σ : zS) (x1 : Int) : Option (Int × zS) :=
  if zr x1 then
    if x1 < 0 then
      f_X2_hasFrame_b16 j σ
    else
      if zr x1 ∧ zr (σ (8 * j) 1) then
        if (σ (8 * j) 1) ≤ x1 then
          f_X2_hasFrame_b16 j σ
        else
          f_X2_hasFrame_b17 j σ 1
      else none
  else none
def f_X2_levelAt_b22 (j : Nat) (σ : zS) (s0 : Int) : Option (Int × zS) :=
  some (s0, σ)
def f_X2_levelAt_b21 (j : Nat) (σ : zS) : Option (Int × zS) :=
  f_X2_levelAt_b22 j σ 0
def f_X2_levelAt (j : Nat) (σ : zS) (x1 : Int) : Option (Int × zS) :=
  if zr x1 then
    if x1 < 0 then
      f_X2_levelAt_b21 j σ
    else
      if zr x1 ∧ zr (σ (8 * j) 1) then
        if (σ (8 * j) 1) ≤ x1 then
          f_X2_levelAt_b21 j σ
        else
          if 0 ≤ x1 ∧ x1 < 200 then
            f_X2_levelAt_b22 j σ (σ (8 * j + 1) x1)
          else none
      else none
  else none
def f_X2_hasMark_b17 (j : Nat) (σ : zS) (s0 : Int) : Option (Int × zS) :=
  if 0 ≤ s0 ∧ s0 ≤ 1 then some (s0, σ) else none
def f_X2_hasMark_b16 (j : Nat) (σ : zS) : Option (Int × zS) :=
  f_X2_hasMark_b17 j σ 0
def f_X2_hasMark (j : Nat) (σ : zS) (x1 : Int) : Option (Int × zS) :=
  if zr x1 then
    if x1 < 0 then
      f_X2_hasMark_b16 j σ
    else
      if zr x1 ∧ zr (σ (8 * j) 7) then
        if (σ (8 * j) 7) ≤ x1 then
          f_X2_hasMark_b16 j σ
        else
          f_X2_hasMark_b17 j σ 1
      else none
  else none
def f_X2_overlaps_b32 (j : Nat) (K2 : zS → Int → Int → Int → Option (Int × zS)) (σ : zS) (x1 : Int) (x2 : Int) (x3 : Int) : Option (Int × zS) :=
  K2 σ x1 x2 (x3 + 1)
def f_X2_overlaps_b2 (j : Nat) (K2 : zS → Int → Int → Int → Option (Int × zS)) (σ : zS) (x1 : Int) (x2 : Int) (x3 : Int) : Option (Int × zS) :=
  if zr x3 ∧ zr (σ (8 * j) 7) then
    if (σ (8 * j) 7) ≤ x3 then
      some (0, σ)
    else
      if 0 ≤ x3 ∧ x3 < 20 then
        if zr x1 ∧ zr (σ (8 * j + 4) x3) then
          if (σ (8 * j + 4) x3) ≤ x1 then
            f_X2_overlaps_b32 j K2 σ x1 x2 x3
          else
            if 0 ≤ x3 ∧ x3 < 20 then
              if zr (σ (8 * j + 3) x3) ∧ zr x2 then
                if x2 ≤ (σ (8 * j + 3) x3) then
                  f_X2_overlaps_b32 j K2 σ x1 x2 x3
                else
                  some (1, σ)
              else none
            else none
        else none
      else none
  else none
def f_X2_overlaps_l2 (j : Nat) : Nat → zS → Int → Int → Int → Option (Int × zS)
  | 0, _, _, _, _ => none
  | n + 1, σ, x1, x2, x3 => f_X2_overlaps_b2 j (f_X2_overlaps_l2 j n) σ x1 x2 x3
def f_X2_overlaps (j : Nat) (σ : zS) (x1 : Int) (x2 : Int) : Option (Int × zS) :=
  f_X2_overlaps_l2 j z_fuel σ x1 x2 0
def f_X2_addMark_b53 (j : Nat) (σ : zS) (x1 : Int) (x2 : Int) (x3 : Int) (x4 : Int) (x5 : Int) : Option (Int × zS) :=
  if 0 ≤ x5 ∧ x5 < 20 then z_put σ (8 * j + 2) x5 x1 fun σ1 =>
    if 0 ≤ x5 ∧ x5 < 20 then z_put σ1 (8 * j + 3) x5 x2 fun σ2 =>
      if 0 ≤ x5 ∧ x5 < 20 then z_put σ2 (8 * j + 4) x5 x3 fun σ3 =>
        if 0 ≤ x5 ∧ x5 < 20 then z_put σ3 (8 * j + 5) x5 x4 fun σ4 =>
          if (0 ≤ x5 ∧ x5 < 20) ∧ 0 ≤ (0 : Int) ∧ (0 : Int) ≤ 1 then z_put σ4 (8 * j + 6) x5 0 fun σ5 =>
            z_put σ5 (8 * j) 7 ((σ5 (8 * j) 7) + 1) fun σ6 =>
            some (x5, σ6)
          else none
        else none
      else none
    else none
  else none
def f_X2_addMark_b18 (j : Nat) (K18 : zS → Int → Int → Int → Int → Int → Option (Int × zS)) (σ : zS) (x1 : Int) (x2 : Int) (x3 : Int) (x4 : Int) (x5 : Int) : Option (Int × zS) :=
  if zr x5 then
    if x5 ≤ 0 then
      f_X2_addMark_b53 j σ x1 x2 x3 x4 x5
    else
      if 0 ≤ (x5 - 1) ∧ (x5 - 1) < 20 then
        if zr (σ (8 * j + 3) (x5 - 1)) ∧ zr x2 then
          if (σ (8 * j + 3) (x5 - 1)) ≤ x2 then
            f_X2_addMark_b53 j σ x1 x2 x3 x4 x5
          else
            z_bind (f_X2_copyMark j j σ (x5 - 1) x5) fun _ σ1 =>
            K18 σ1 x1 x2 x3 x4 (x5 + (-1))
        else none
      else none
  else none
def f_X2_addMark_l18 (j : Nat) : Nat → zS → Int → Int → Int → Int → Int → Option (Int × zS)
  | 0, _, _, _, _, _, _ => none
  | n + 1, σ, x1, x2, x3, x4, x5 => f_X2_addMark_b18 j (f_X2_addMark_l18 j n) σ x1 x2 x3 x4 x5
def f_X2_addMark (j : Nat) (σ : zS) (x1 : Int) (x2 : Int) (x3 : Int) (x4 : Int) : Option (Int × zS) :=
  if zr (σ (8 * j) 7) then
    if (σ (8 * j) 7) < 20 then
      f_X2_addMark_l18 j z_fuel σ x1 x2 x3 x4 (σ (8 * j) 7)
    else
      some ((-3), σ)
  else none
def f_X2_removeMark_b11 (j : Nat) (K11 : zS → Int → Option (Unit × zS)) (σ : zS) (x2 : Int) : Option (Unit × zS) :=
  if zr (x2 + 1) ∧ zr (σ (8 * j) 7) then
    if (σ (8 * j) 7) ≤ (x2 + 1) then
      z_put σ (8 * j) 7 ((σ (8 * j) 7) - 1) fun σ1 =>
      some ((), σ1)
    else
      z_bind (f_X2_copyMark j j σ (x2 + 1) x2) fun _ σ2 =>
      K11 σ2 (x2 + 1)
  else none
def f_X2_removeMark_l11 (j : Nat) : Nat → zS → Int → Option (Unit × zS)
  | 0, _, _ => none
  | n + 1, σ, x2 => f_X2_removeMark_b11 j (f_X2_removeMark_l11 j n) σ x2
def f_X2_removeMark (j : Nat) (σ : zS) (x1 : Int) : Option (Unit × zS) :=
  z_bind (f_X2_hasMark j σ x1) fun r2 σ1 =>
  if zr r2 then
    if ¬ r2 = 0 then
      f_X2_removeMark_l11 j z_fuel σ1 x1
    else
      some ((), σ1)
  else none
def f_X2_numberOfMark_b86 (j : Nat) (σ : zS) (s0 : Int) : Option (Int × zS) :=
  some (s0, σ)
def f_X2_numberOfMark (j : Nat) (σ : zS) (x1 : Int) (x2 : Int) : Option (Int × zS) :=
  z_bind (f_X2_hasMark j σ x1) fun r2 σ1 =>
  if zr r2 then
    if ¬ r2 = 0 then
      if zr x2 then
        if x2 = 0 then
          if 0 ≤ x1 ∧ x1 < 20 then
            some (σ1 (8 * j + 2) x1, σ1)
          else none
        else
          if x2 = 1 then
            if 0 ≤ x1 ∧ x1 < 20 then
              some (σ1 (8 * j + 3) x1, σ1)
            else none
          else
            if x2 = 2 then
              if 0 ≤ x1 ∧ x1 < 20 then
                some (σ1 (8 * j + 4) x1, σ1)
              else none
            else
              if x2 = 3 then
                if 0 ≤ x1 ∧ x1 < 20 then
                  some (σ1 (8 * j + 5) x1, σ1)
                else none
              else
                if x2 = 4 then
                  if 0 ≤ x1 ∧ x1 < 20 then
                    if zr (σ1 (8 * j + 6) x1) then
                      if (σ1 (8 * j + 6) x1) = 0 then
                        f_X2_numberOfMark_b86 j σ1 0
                      else
                        f_X2_numberOfMark_b86 j σ1 1
                    else none
                  else none
                else
                  some ((-1), σ1)
      else none
    else
      some ((-1), σ1)
  else none
def f_X2_hasFillerOfDoubt_b31 (j : Nat) (K2 : zS → Int → Int → Option (Int × zS)) (σ : zS) (x1 : Int) (x2 : Int) : Option (Int × zS) :=
  K2 σ x1 (x2 + 1)
def f_X2_hasFillerOfDoubt_b2 (j : Nat) (K2 : zS → Int → Int → Option (Int × zS)) (σ : zS) (x1 : Int) (x2 : Int) : Option (Int × zS) :=
  if zr x2 ∧ zr (σ (8 * j) 7) then
    if (σ (8 * j) 7) ≤ x2 then
      some (0, σ)
    else
      if 0 ≤ x2 ∧ x2 < 20 then
        if zr (σ (8 * j + 2) x2) then
          if ¬ (σ (8 * j + 2) x2) = 0 then
            f_X2_hasFillerOfDoubt_b31 j K2 σ x1 x2
          else
            if 0 ≤ x2 ∧ x2 < 20 then
              if zr (σ (8 * j + 5) x2) ∧ zr x1 then
                if ¬ (σ (8 * j + 5) x2) = x1 then
                  f_X2_hasFillerOfDoubt_b31 j K2 σ x1 x2
                else
                  some (1, σ)
              else none
            else none
        else none
      else none
  else none
def f_X2_hasFillerOfDoubt_l2 (j : Nat) : Nat → zS → Int → Int → Option (Int × zS)
  | 0, _, _, _ => none
  | n + 1, σ, x1, x2 => f_X2_hasFillerOfDoubt_b2 j (f_X2_hasFillerOfDoubt_l2 j n) σ x1 x2
def f_X2_hasFillerOfDoubt (j : Nat) (σ : zS) (x1 : Int) : Option (Int × zS) :=
  f_X2_hasFillerOfDoubt_l2 j z_fuel σ x1 0
def f_X2_endOfMarkBefore_b22 (j : Nat) (σ : zS) (s0 : Int) : Option (Int × zS) :=
  some (s0, σ)
def f_X2_endOfMarkBefore (j : Nat) (σ : zS) (x1 : Int) : Option (Int × zS) :=
  z_bind (f_X2_hasMark j σ (x1 - 1)) fun r2 σ1 =>
  if zr r2 then
    if r2 = 0 then
      f_X2_endOfMarkBefore_b22 j σ1 0
    else
      if 0 ≤ (x1 - 1) ∧ (x1 - 1) < 20 then
        f_X2_endOfMarkBefore_b22 j σ1 (σ1 (8 * j + 4) (x1 - 1))
      else none
  else none
def f_X2_firstOfMarkAfter_b25 (j : Nat) (σ : zS) (s0 : Int) : Option (Int × zS) :=
  some (s0, σ)
def f_X2_firstOfMarkAfter (j : Nat) (σ : zS) (x1 : Int) : Option (Int × zS) :=
  z_bind (f_X2_hasMark j σ (x1 + 1)) fun r2 σ1 =>
  if zr r2 then
    if r2 = 0 then
      f_X2_firstOfMarkAfter_b25 j σ1 (σ1 (8 * j) 1)
    else
      if 0 ≤ (x1 + 1) ∧ (x1 + 1) < 20 then
        f_X2_firstOfMarkAfter_b25 j σ1 (σ1 (8 * j + 3) (x1 + 1))
      else none
  else none
def f_X2_isQuiet_b32 (j : Nat) (σ : zS) (s0 : Int) : Option (Int × zS) :=
  if 0 ≤ s0 ∧ s0 ≤ 1 then some (s0, σ) else none
def f_X2_isQuiet_b31 (j : Nat) (σ : zS) : Option (Int × zS) :=
  f_X2_isQuiet_b32 j σ 0
def f_X2_isQuiet (j : Nat) (σ : zS) (x1 : Int) : Option (Int × zS) :=
  if 0 ≤ (1 : Int) ∧ (1 : Int) < 7 then
    z_bind (f_X2_levelAt j σ (x1 - 1)) fun r2 σ1 =>
    if zr r2 ∧ zr (σ (8 * j + 7) 1) then
      if (σ (8 * j + 7) 1) < r2 then
        f_X2_isQuiet_b31 j σ1
      else
        z_bind (f_X2_levelAt j σ1 x1) fun r4 σ3 =>
        if zr r4 ∧ zr (σ (8 * j + 7) 1) then
          if (σ (8 * j + 7) 1) < r4 then
            f_X2_isQuiet_b31 j σ3
          else
            f_X2_isQuiet_b32 j σ3 1
        else none
    else none
  else none
def f_X2_nearestQuietSeam_b71 (j : Nat) (K3 : zS → Int → Int → Int → Int → Int → Option (Int × zS)) (σ : zS) (x1 : Int) (x2 : Int) (x3 : Int) (x4 : Int) (x5 : Int) : Option (Int × zS) :=
  K3 σ x1 x2 x3 x4 (x5 + 1)
def f_X2_nearestQuietSeam_b40 (j : Nat) (K3 : zS → Int → Int → Int → Int → Int → Option (Int × zS)) (σ : zS) (x1 : Int) (x2 : Int) (x3 : Int) (x4 : Int) (x5 : Int) : Option (Int × zS) :=
  if zr (x1 + x5) ∧ zr x3 then
    if (x1 + x5) < x3 then
      f_X2_nearestQuietSeam_b71 j K3 σ x1 x2 x3 x4 x5
    else
      if zr (x1 + x5) ∧ zr x4 then
        if x4 < (x1 + x5) then
          f_X2_nearestQuietSeam_b71 j K3 σ x1 x2 x3 x4 x5
        else
          z_bind (f_X2_isQuiet j σ (x1 + x5)) fun r2 σ1 =>
          if zr r2 then
            if r2 = 0 then
              f_X2_nearestQuietSeam_b71 j K3 σ1 x1 x2 x3 x4 x5
            else
              some (x1 + x5, σ1)
          else none
      else none
  else none
def f_X2_nearestQuietSeam_b3 (j : Nat) (K3 : zS → Int → Int → Int → Int → Int → Option (Int × zS)) (σ : zS) (x1 : Int) (x2 : Int) (x3 : Int) (x4 : Int) (x5 : Int) : Option (Int × zS) :=
  if zr x5 ∧ zr x2 then
    if x2 < x5 then
      some ((-1), σ)
    else
      if zr (x1 - x5) ∧ zr x3 then
        if (x1 - x5) < x3 then
          f_X2_nearestQuietSeam_b40 j K3 σ x1 x2 x3 x4 x5
        else
          if zr (x1 - x5) ∧ zr x4 then
            if x4 < (x1 - x5) then
              f_X2_nearestQuietSeam_b40 j K3 σ x1 x2 x3 x4 x5
            else
              z_bind (f_X2_isQuiet j σ (x1 - x5)) fun r2 σ1 =>
              if zr r2 then
                if r2 = 0 then
                  f_X2_nearestQuietSeam_b40 j K3 σ1 x1 x2 x3 x4 x5
                else
                  some (x1 - x5, σ1)
              else none
          else none
      else none
  else none
def f_X2_nearestQuietSeam_l3 (j : Nat) : Nat → zS → Int → Int → Int → Int → Int → Option (Int × zS)
  | 0, _, _, _, _, _, _ => none
  | n + 1, σ, x1, x2, x3, x4, x5 => f_X2_nearestQuietSeam_b3 j (f_X2_nearestQuietSeam_l3 j n) σ x1 x2 x3 x4 x5
def f_X2_nearestQuietSeam (j : Nat) (σ : zS) (x1 : Int) (x2 : Int) (x3 : Int) (x4 : Int) : Option (Int × zS) :=
  f_X2_nearestQuietSeam_l3 j z_fuel σ x1 x2 x3 x4 0
def f_X0_endOfLastCut_b31 (σ : zS) (s0 : Int) : Option (Int × zS) :=
  some (s0, σ)
def f_X0_endOfLastCut_b30 (σ : zS) : Option (Int × zS) :=
  f_X0_endOfLastCut_b31 σ 0
def f_X0_endOfLastCut (σ : zS) : Option (Int × zS) :=
  if zr (σ 48 5) then
    if (σ 48 5) ≤ 0 then
      f_X0_endOfLastCut_b30 σ
    else
      if zr (σ 48 5) then
        if 20 < (σ 48 5) then
          f_X0_endOfLastCut_b30 σ
        else
          if 0 ≤ ((σ 48 5) - 1) ∧ ((σ 48 5) - 1) < 20 then
            f_X0_endOfLastCut_b31 σ (σ 50 ((σ 48 5) - 1))
          else none
      else none
  else none
def f_X0_addCut (σ : zS) (x1 : Int) (x2 : Int) (x3 : Int) (x4 : Int) (x5 : Int) : Option (Unit × zS) :=
  if zr (σ 48 5) then
    if (σ 48 5) < 20 then
      if 0 ≤ (σ 48 5) ∧ (σ 48 5) < 20 then z_put σ 49 (σ 48 5) x1 fun σ1 =>
        if 0 ≤ (σ1 48 5) ∧ (σ1 48 5) < 20 then z_put σ1 50 (σ1 48 5) x2 fun σ2 =>
          if 0 ≤ (σ2 48 5) ∧ (σ2 48 5) < 20 then z_put σ2 51 (σ2 48 5) x3 fun σ3 =>
            if (0 ≤ (σ3 48 5) ∧ (σ3 48 5) < 20) ∧ 0 ≤ x4 ∧ x4 ≤ 1 then z_put σ3 52 (σ3 48 5) x4 fun σ4 =>
              if 0 ≤ (σ4 48 5) ∧ (σ4 48 5) < 20 then z_put σ4 53 (σ4 48 5) x5 fun σ5 =>
                z_put σ5 48 5 ((σ5 48 5) + 1) fun σ6 =>
                some ((), σ6)
              else none
            else none
          else none
        else none
      else none
    else
      some ((), σ)
  else none
def f_X0_addFillerCut_b163 (σ : zS) (x2 : Int) (s1 : Int) (s2 : Int) (s3 : Int) (s4 : Int) : Option (Unit × zS) :=
  z_bind (f_X0_addCut σ s1 s2 s3 s4 x2) fun _ σ1 =>
  some ((), σ1)
def f_X0_addFillerCut_b158 (σ : zS) (x2 : Int) (s1 : Int) (s2 : Int) (s3 : Int) : Option (Unit × zS) :=
  f_X0_addFillerCut_b163 σ x2 s1 s2 s3 1
def f_X0_addFillerCut_b111 (σ : zS) (x2 : Int) (x6 : Int) (x7 : Int) (x9 : Int) (x10 : Int) : Option (Unit × zS) :=
  if 0 ≤ (4 : Int) ∧ (4 : Int) < 7 then
    if zr ((x9 - x6) * (σ 7 4)) ∧ zr 100 ∧ (100 : Int) ≠ 0 then
      if 0 ≤ (3 : Int) ∧ (3 : Int) < 7 then
        if zr (σ 7 3) ∧ zr (((x9 - x6) * (σ 7 4)).tdiv 100) then
          if zr x7 then
            if ¬ x7 = 0 then
              f_X0_addFillerCut_b158 σ x2 x6 x9 (if (((x9 - x6) * (σ 7 4)).tdiv 100) < (σ 7 3) then (((x9 - x6) * (σ 7 4)).tdiv 100) else (σ 7 3))
            else
              if zr x10 then
                if x10 = 0 then
                  f_X0_addFillerCut_b163 σ x2 x6 x9 (if (((x9 - x6) * (σ 7 4)).tdiv 100) < (σ 7 3) then (((x9 - x6) * (σ 7 4)).tdiv 100) else (σ 7 3)) 0
                else
                  f_X0_addFillerCut_b158 σ x2 x6 x9 (if (((x9 - x6) * (σ 7 4)).tdiv 100) < (σ 7 3) then (((x9 - x6) * (σ 7 4)).tdiv 100) else (σ 7 3))
              else none
          else none
        else none
      else none
    else none
  else none
def f_X0_addFillerCut_b100 (σ : zS) (x2 : Int) (x4 : Int) (x6 : Int) (x7 : Int) (x9 : Int) (s0 : Int) : Option (Unit × zS) :=
  if zr s0 then
    if s0 = 0 then
      f_X0_addFillerCut_b111 σ x2 x6 x7 x9 s0
    else
      f_X0_addFillerCut_b111 σ x2 x6 x7 x4 s0
  else none
def f_X0_addFillerCut_b67 (σ : zS) (x2 : Int) (x3 : Int) (x4 : Int) (x6 : Int) (x7 : Int) : Option (Unit × zS) :=
  z_bind (f_X2_firstOfMarkAfter 0 σ x2) fun r2 σ1 =>
  z_bind (f_X2_nearestQuietSeam 0 σ1 x4 x3 (x6 + 1) r2) fun r4 σ3 =>
  if zr r4 then
    if ¬ r4 = (-1) then
      f_X0_addFillerCut_b100 σ3 x2 x4 x6 x7 r4 0
    else
      f_X0_addFillerCut_b100 σ3 x2 x4 x6 x7 r4 1
  else none
def f_X0_addFillerCut_b52 (σ : zS) (x2 : Int) (x3 : Int) (x4 : Int) (x6 : Int) (s0 : Int) : Option (Unit × zS) :=
  if zr s0 then
    if s0 = 0 then
      f_X0_addFillerCut_b67 σ x2 x3 x4 x6 s0
    else
      if 0 ≤ x2 ∧ x2 < 20 then
        f_X0_addFillerCut_b67 σ x2 x3 x4 (σ 3 x2) s0
      else none
  else none
def f_X0_addFillerCut (σ : zS) (x2 : Int) (x3 : Int) : Option (Unit × zS) :=
  if 0 ≤ x2 ∧ x2 < 20 then
    z_bind (f_X0_endOfLastCut σ) fun r2 σ1 =>
    z_bind (f_X2_endOfMarkBefore 0 σ1 x2) fun r4 σ3 =>
    if zr r2 ∧ zr r4 then
      if 0 ≤ x2 ∧ x2 < 20 then
        z_bind (f_X2_nearestQuietSeam 0 σ3 (σ3 3 x2) x3 (if r2 < r4 then r4 else r2) ((σ 4 x2) - 1)) fun r6 σ5 =>
        if zr r6 then
          if ¬ r6 = (-1) then
            f_X0_addFillerCut_b52 σ5 x2 x3 (σ 4 x2) r6 0
          else
            f_X0_addFillerCut_b52 σ5 x2 x3 (σ 4 x2) r6 1
        else none
      else none
    else none
  else none
def f_X0_addBreathCut_b81 (σ : zS) : Option (Unit × zS) :=
  some ((), σ)
def f_X0_addBreathCut (σ : zS) (x2 : Int) : Option (Unit × zS) :=
  if 0 ≤ x2 ∧ x2 < 20 then
    if 0 ≤ x2 ∧ x2 < 20 then
      if 0 ≤ (5 : Int) ∧ (5 : Int) < 7 then
        if 0 ≤ (6 : Int) ∧ (6 : Int) < 7 then
          if zr ((σ 4 x2) - (σ 3 x2)) ∧ zr (σ 7 6) then
            if (σ 7 6) ≤ ((σ 4 x2) - (σ 3 x2)) then
              if zr ((σ 4 x2) - (σ 3 x2)) ∧ zr (σ 7 5) then
                if ((σ 4 x2) - (σ 3 x2)) ≤ (σ 7 5) then
                  f_X0_addBreathCut_b81 σ
                else
                  if zr ((σ 7 5) + 1) ∧ zr 2 ∧ (2 : Int) ≠ 0 then
                    if zr (σ 7 5) ∧ zr 2 ∧ (2 : Int) ≠ 0 then
                      z_bind (f_X0_addCut σ ((σ 3 x2) + (((σ 7 5) + 1).tdiv 2)) ((σ 4 x2) - ((σ 7 5).tdiv 2)) 0 0 x2) fun _ σ1 =>
                      f_X0_addBreathCut_b81 σ1
                    else none
                  else none
              else none
            else
              z_bind (f_X0_addCut σ (σ 3 x2) (σ 4 x2) 0 0 x2) fun _ σ2 =>
              f_X0_addBreathCut_b81 σ2
          else none
        else none
      else none
    else none
  else none
def f_X0_find_b80 (K8 : zS → Int → Int → Int → Option (Unit × zS)) (σ : zS) (x2 : Int) (x3 : Int) (x4 : Int) : Option (Unit × zS) :=
  K8 σ x2 x3 (x4 + 1)
def f_X0_find_b62 (K8 : zS → Int → Int → Int → Option (Unit × zS)) (σ : zS) (x2 : Int) (x3 : Int) (x4 : Int) : Option (Unit × zS) :=
  if 0 ≤ x4 ∧ x4 < 20 then
    if zr (σ 2 x4) then
      if ¬ (σ 2 x4) = 1 then
        f_X0_find_b80 K8 σ x2 x3 x4
      else
        z_bind (f_X0_addBreathCut σ x4) fun _ σ1 =>
        f_X0_find_b80 K8 σ1 x2 x3 x4
    else none
  else none
def f_X0_find_b8 (K8 : zS → Int → Int → Int → Option (Unit × zS)) (σ : zS) (x2 : Int) (x3 : Int) (x4 : Int) : Option (Unit × zS) :=
  if zr x4 ∧ zr (σ 0 7) then
    if (σ 0 7) ≤ x4 then
      some ((), σ)
    else
      if 0 ≤ x4 ∧ x4 < 20 then
        if zr (σ 6 x4) then
          if (σ 6 x4) = 0 then
            if 0 ≤ x4 ∧ x4 < 20 then
              if zr (σ 2 x4) then
                if ¬ (σ 2 x4) = 0 then
                  f_X0_find_b62 K8 σ x2 x3 x4
                else
                  if 0 ≤ x4 ∧ x4 < 20 then
                    if zr (σ 5 x4) ∧ zr x2 then
                      if x2 < (σ 5 x4) then
                        f_X0_find_b62 K8 σ x2 x3 x4
                      else
                        z_bind (f_X0_addFillerCut σ x4 x3) fun _ σ1 =>
                        f_X0_find_b80 K8 σ1 x2 x3 x4
                    else none
                  else none
              else none
            else none
          else
            f_X0_find_b80 K8 σ x2 x3 x4
        else none
      else none
  else none
def f_X0_find_l8 : Nat → zS → Int → Int → Int → Option (Unit × zS)
  | 0, _, _, _, _ => none
  | n + 1, σ, x2, x3, x4 => f_X0_find_b8 (f_X0_find_l8 n) σ x2 x3 x4
def f_X0_find (σ : zS) (x2 : Int) (x3 : Int) : Option (Unit × zS) :=
  z_put σ 48 5 0 fun σ1 =>
  f_X0_find_l8 z_fuel σ1 x2 x3 0
def f_X0_cutOfMark_b2 (K2 : zS → Int → Int → Option (Int × zS)) (σ : zS) (x1 : Int) (x2 : Int) : Option (Int × zS) :=
  if zr x2 ∧ zr (σ 48 5) then
    if (σ 48 5) ≤ x2 then
      some ((-9), σ)
    else
      if 0 ≤ x2 ∧ x2 < 20 then
        if zr (σ 53 x2) ∧ zr x1 then
          if ¬ (σ 53 x2) = x1 then
            K2 σ x1 (x2 + 1)
          else
            some (x2, σ)
        else none
      else none
  else none
def f_X0_cutOfMark_l2 : Nat → zS → Int → Int → Option (Int × zS)
  | 0, _, _, _ => none
  | n + 1, σ, x1, x2 => f_X0_cutOfMark_b2 (f_X0_cutOfMark_l2 n) σ x1 x2
def f_X0_cutOfMark (σ : zS) (x1 : Int) : Option (Int × zS) :=
  f_X0_cutOfMark_l2 z_fuel σ x1 0
def f_X0_numberOfCut_b83 (σ : zS) (s0 : Int) : Option (Int × zS) :=
  some (s0, σ)
def f_X0_numberOfCut_b12 (σ : zS) : Option (Int × zS) :=
  some ((-1), σ)
def f_X0_numberOfCut (σ : zS) (x1 : Int) (x2 : Int) : Option (Int × zS) :=
  if zr x1 then
    if x1 < 0 then
      f_X0_numberOfCut_b12 σ
    else
      if zr x1 ∧ zr (σ 48 5) then
        if x1 < (σ 48 5) then
          if zr x2 then
            if x2 = 0 then
              if 0 ≤ x1 ∧ x1 < 20 then
                some (σ 49 x1, σ)
              else none
            else
              if x2 = 1 then
                if 0 ≤ x1 ∧ x1 < 20 then
                  some (σ 50 x1, σ)
                else none
              else
                if x2 = 2 then
                  if 0 ≤ x1 ∧ x1 < 20 then
                    some (σ 51 x1, σ)
                  else none
                else
                  if x2 = 3 then
                    if 0 ≤ x1 ∧ x1 < 20 then
                      if zr (σ 52 x1) then
                        if (σ 52 x1) = 0 then
                          f_X0_numberOfCut_b83 σ 0
                        else
                          f_X0_numberOfCut_b83 σ 1
                      else none
                    else none
                  else
                    if x2 = 4 then
                      if 0 ≤ x1 ∧ x1 < 20 then
                        some (σ 53 x1, σ)
                      else none
                    else
                      some ((-1), σ)
          else none
        else
          f_X0_numberOfCut_b12 σ
      else none
  else none
def f_X0_cutFrames_b4 (K4 : zS → Int → Int → Option (Int × zS)) (σ : zS) (x1 : Int) (x2 : Int) : Option (Int × zS) :=
  if zr x2 ∧ zr (σ 48 5) then
    if (σ 48 5) ≤ x2 then
      some (x1, σ)
    else
      if 0 ≤ x2 ∧ x2 < 20 then
        if 0 ≤ x2 ∧ x2 < 20 then
          K4 σ (x1 + ((σ 50 x2) - (σ 49 x2))) (x2 + 1)
        else none
      else none
  else none
def f_X0_cutFrames_l4 : Nat → zS → Int → Int → Option (Int × zS)
  | 0, _, _, _ => none
  | n + 1, σ, x1, x2 => f_X0_cutFrames_b4 (f_X0_cutFrames_l4 n) σ x1 x2
def f_X0_cutFrames (σ : zS) : Option (Int × zS) :=
  f_X0_cutFrames_l4 z_fuel σ 0 0
def f_X0_pauseFrames_b4 (K4 : zS → Int → Int → Option (Int × zS)) (σ : zS) (x1 : Int) (x2 : Int) : Option (Int × zS) :=
  if zr x2 ∧ zr (σ 48 5) then
    if (σ 48 5) ≤ x2 then
      some (x1, σ)
    else
      if 0 ≤ x2 ∧ x2 < 20 then
        K4 σ (x1 + (σ 51 x2)) (x2 + 1)
      else none
  else none
def f_X0_pauseFrames_l4 : Nat → zS → Int → Int → Option (Int × zS)
  | 0, _, _, _ => none
  | n + 1, σ, x1, x2 => f_X0_pauseFrames_b4 (f_X0_pauseFrames_l4 n) σ x1 x2
def f_X0_pauseFrames (σ : zS) : Option (Int × zS) :=
  f_X0_pauseFrames_l4 z_fuel σ 0 0
def f_X0_roughCuts_b27 (K4 : zS → Int → Int → Option (Int × zS)) (σ : zS) (x2 : Int) (s0 : Int) (s1 : Int) : Option (Int × zS) :=
  K4 σ (s0 + s1) (x2 + 1)
def f_X0_roughCuts_b4 (K4 : zS → Int → Int → Option (Int × zS)) (σ : zS) (x1 : Int) (x2 : Int) : Option (Int × zS) :=
  if zr x2 ∧ zr (σ 48 5) then
    if (σ 48 5) ≤ x2 then
      some (x1, σ)
    else
      if 0 ≤ x2 ∧ x2 < 20 then
        if zr (σ 52 x2) then
          if (σ 52 x2) = 0 then
            f_X0_roughCuts_b27 K4 σ x2 x1 0
          else
            f_X0_roughCuts_b27 K4 σ x2 x1 1
        else none
      else none
  else none
def f_X0_roughCuts_l4 : Nat → zS → Int → Int → Option (Int × zS)
  | 0, _, _, _ => none
  | n + 1, σ, x1, x2 => f_X0_roughCuts_b4 (f_X0_roughCuts_l4 n) σ x1 x2
def f_X0_roughCuts (σ : zS) : Option (Int × zS) :=
  f_X0_roughCuts_l4 z_fuel σ 0 0
def f_X1_dropOldest_b9 (K9 : zS → Nat → Int → Option (Unit × zS)) (σ : zS) (n1 : Nat) (x2 : Int) : Option (Unit × zS) :=
  if zr x2 then
    if 4 ≤ x2 then
      if 0 ≤ (3 : Int) ∧ (3 : Int) < 4 then z_put σ 61 3 (n1 : Nat) fun σ1 =>
        z_put σ1 60 1 3 fun σ2 =>
        some ((), σ2)
      else none
    else
      if (0 ≤ x2 ∧ x2 < 4) ∧ 0 ≤ σ 61 x2 ∧ σ 61 x2 < 6 then
        if 0 ≤ (x2 - 1) ∧ (x2 - 1) < 4 then z_put σ 61 (x2 - 1) (((σ 61 x2).toNat) : Nat) fun σ3 =>
          K9 σ3 n1 (x2 + 1)
        else none
      else none
  else none
def f_X1_dropOldest_l9 : Nat → zS → Nat → Int → Option (Unit × zS)
  | 0, _, _, _ => none
  | n + 1, σ, n1, x2 => f_X1_dropOldest_b9 (f_X1_dropOldest_l9 n) σ n1 x2
def f_X1_dropOldest (σ : zS) : Option (Unit × zS) :=
  if (0 ≤ (0 : Int) ∧ (0 : Int) < 4) ∧ 0 ≤ σ 61 0 ∧ σ 61 0 < 6 then
    f_X1_dropOldest_l9 z_fuel σ ((σ 61 0).toNat) 1
  else none
def f_X1_keep_b12 (k : Nat) (σ : zS) : Option (Unit × zS) :=
  if (0 ≤ (σ 60 1) ∧ (σ 60 1) < 4) ∧ 0 ≤ σ 61 (σ 60 1) ∧ σ 61 (σ 60 1) < 6 then
    z_bind (f_X2_copyAll ((σ 61 (σ 60 1)).toNat) k σ) fun _ σ1 =>
    z_put σ1 60 1 ((σ1 60 1) + 1) fun σ2 =>
    some ((), σ2)
  else none
def f_X1_keep (k : Nat) (σ : zS) : Option (Unit × zS) :=
  if zr (σ 60 1) then
    if (σ 60 1) < 4 then
      f_X1_keep_b12 k σ
    else
      z_bind (f_X1_dropOldest σ) fun _ σ1 =>
      f_X1_keep_b12 k σ1
  else none
def f_X1_restoreLatest_b30 (k : Nat) (σ : zS) : Option (Unit × zS) :=
  some ((), σ)
def f_X1_restoreLatest (k : Nat) (σ : zS) : Option (Unit × zS) :=
  if zr (σ 60 1) then
    if (σ 60 1) ≤ 0 then
      f_X1_restoreLatest_b30 k σ
    else
      z_put σ 60 1 ((σ 60 1) - 1) fun σ1 =>
      if (0 ≤ (σ1 60 1) ∧ (σ1 60 1) < 4) ∧ 0 ≤ σ1 61 (σ1 60 1) ∧ σ1 61 (σ1 60 1) < 6 then
        z_bind (f_X2_copyAll k ((σ1 61 (σ1 60 1)).toNat) σ1) fun _ σ2 =>
        f_X1_restoreLatest_b30 k σ2
      else none
  else none
def f_X3_gatherFrame_b58 (σ : zS) : Option (Unit × zS) :=
  some ((), σ)
def f_X3_gatherFrame_b35 (σ : zS) (x1 : Int) (x2 : Int) : Option (Unit × zS) :=
  if zr x2 then
    if ¬ x2 = 3 then
      f_X3_gatherFrame_b58 σ
    else
      if zr x1 then
        if x1 < 0 then
          f_X3_gatherFrame_b58 σ
        else
          if zr x1 then
            if 200 ≤ x1 then
              f_X3_gatherFrame_b58 σ
            else
              if (0 ≤ x1 ∧ x1 < 200) ∧ 0 ≤ (1 : Int) ∧ (1 : Int) ≤ 1 then z_put σ 58 x1 1 fun σ1 =>
                f_X3_gatherFrame_b58 σ1
              else none
          else none
      else none
  else none
def f_X3_gatherFrame (σ : zS) (x1 : Int) (x2 : Int) : Option (Unit × zS) :=
  if zr x2 then
    if ¬ x2 = 2 then
      f_X3_gatherFrame_b35 σ x1 x2
    else
      if zr (σ 54 4) then
        if 200 ≤ (σ 54 4) then
          f_X3_gatherFrame_b35 σ x1 x2
        else
          if 0 ≤ (σ 54 4) ∧ (σ 54 4) < 200 then z_put σ 57 (σ 54 4) x1 fun σ1 =>
            z_put σ1 54 4 ((σ1 54 4) + 1) fun σ2 =>
            f_X3_gatherFrame_b35 σ2 x1 x2
          else none
      else none
  else none
def f_X3_gatherRoomAndNoise_b49 (K34 : zS → Int → Option (Unit × zS)) (K49 : zS → Int → Int → Option (Unit × zS)) (σ : zS) (x2 : Int) (x3 : Int) : Option (Unit × zS) :=
  if 0 ≤ x2 ∧ x2 < 20 then
    if zr x3 ∧ zr (σ 4 x2) then
      if (σ 4 x2) ≤ x3 then
        K34 σ (x2 + 1)
      else
        if 0 ≤ x2 ∧ x2 < 20 then
          z_bind (f_X3_gatherFrame σ x3 (σ 2 x2)) fun _ σ1 =>
          K49 σ1 x2 (x3 + 1)
        else none
    else none
  else none
def f_X3_gatherRoomAndNoise_l49 (K34 : zS → Int → Option (Unit × zS)) : Nat → zS → Int → Int → Option (Unit × zS)
  | 0, _, _, _ => none
  | n + 1, σ, x2, x3 => f_X3_gatherRoomAndNoise_b49 K34 (f_X3_gatherRoomAndNoise_l49 K34 n) σ x2 x3
def f_X3_gatherRoomAndNoise_b34 (K34 : zS → Int → Option (Unit × zS)) (σ : zS) (x2 : Int) : Option (Unit × zS) :=
  if zr x2 ∧ zr (σ 0 7) then
    if (σ 0 7) ≤ x2 then
      some ((), σ)
    else
      if 0 ≤ x2 ∧ x2 < 20 then
        f_X3_gatherRoomAndNoise_l49 K34 z_fuel σ x2 (σ 3 x2)
      else none
  else none
def f_X3_gatherRoomAndNoise_l34 : Nat → zS → Int → Option (Unit × zS)
  | 0, _, _ => none
  | n + 1, σ, x2 => f_X3_gatherRoomAndNoise_b34 (f_X3_gatherRoomAndNoise_l34 n) σ x2
def f_X3_gatherRoomAndNoise_b12 (K12 : zS → Int → Option (Unit × zS)) (σ : zS) (x2 : Int) : Option (Unit × zS) :=
  if zr x2 then
    if 200 ≤ x2 then
      f_X3_gatherRoomAndNoise_l34 z_fuel σ 0
    else
      if (0 ≤ x2 ∧ x2 < 200) ∧ 0 ≤ (0 : Int) ∧ (0 : Int) ≤ 1 then z_put σ 58 x2 0 fun σ1 =>
        K12 σ1 (x2 + 1)
      else none
  else none
def f_X3_gatherRoomAndNoise_l12 : Nat → zS → Int → Option (Unit × zS)
  | 0, _, _ => none
  | n + 1, σ, x2 => f_X3_gatherRoomAndNoise_b12 (f_X3_gatherRoomAndNoise_l12 n) σ x2
def f_X3_gatherRoomAndNoise (σ : zS) : Option (Unit × zS) :=
  z_put σ 54 4 0 fun σ1 =>
  z_put σ1 54 5 0 fun σ2 =>
  f_X3_gatherRoomAndNoise_l12 z_fuel σ2 0
def f_X3_add_b40 (σ : zS) : Option (Unit × zS) :=
  some ((), σ)
def f_X3_add (σ : zS) (x1 : Int) (x2 : Int) : Option (Unit × zS) :=
  if zr (σ 54 2) then
    if 200 ≤ (σ 54 2) then
      f_X3_add_b40 σ
    else
      if 0 ≤ (σ 54 2) ∧ (σ 54 2) < 200 then z_put σ 55 (σ 54 2) x1 fun σ1 =>
        if 0 ≤ (σ1 54 2) ∧ (σ1 54 2) < 200 then z_put σ1 56 (σ1 54 2) x2 fun σ2 =>
          z_put σ2 54 2 ((σ2 54 2) + 1) fun σ3 =>
          f_X3_add_b40 σ3
        else none
      else none
  else none
def f_X3_addRecorded_b51 (K3 : zS → Int → Int → Option (Unit × zS)) (σ : zS) (x3 : Int) (x4 : Int) : Option (Unit × zS) :=
  K3 σ x3 (x4 + 1)
def f_X3_addRecorded_b48 (K3 : zS → Int → Int → Option (Unit × zS)) (σ : zS) (x3 : Int) (x4 : Int) (s1 : Int) (s2 : Int) : Option (Unit × zS) :=
  z_bind (f_X3_add σ s1 s2) fun _ σ1 =>
  f_X3_addRecorded_b51 K3 σ1 x3 x4
def f_X3_addRecorded_b3 (K3 : zS → Int → Int → Option (Unit × zS)) (σ : zS) (x3 : Int) (x4 : Int) : Option (Unit × zS) :=
  if zr x4 ∧ zr x3 then
    if x3 ≤ x4 then
      some ((), σ)
    else
      z_bind (f_X2_hasFrame 0 σ x4) fun r2 σ1 =>
      if zr r2 then
        if r2 = 0 then
          f_X3_addRecorded_b51 K3 σ1 x3 x4
        else
          z_bind (f_X2_levelAt 0 σ1 x4) fun r4 σ3 =>
          if 0 ≤ x4 ∧ x4 < 200 then
            if zr (σ3 58 x4) then
              if (σ3 58 x4) = 0 then
                f_X3_addRecorded_b48 K3 σ3 x3 x4 x4 r4
              else
                if zr r4 ∧ zr 2 ∧ (2 : Int) ≠ 0 then
                  f_X3_addRecorded_b48 K3 σ3 x3 x4 x4 (r4.tdiv 2)
                else none
            else none
          else none
      else none
  else none
def f_X3_addRecorded_l3 : Nat → zS → Int → Int → Option (Unit × zS)
  | 0, _, _, _ => none
  | n + 1, σ, x3, x4 => f_X3_addRecorded_b3 (f_X3_addRecorded_l3 n) σ x3 x4
def f_X3_addRecorded (σ : zS) (x2 : Int) (x3 : Int) : Option (Unit × zS) :=
  f_X3_addRecorded_l3 z_fuel σ x3 x2
def f_X3_nextRoomFrame_b16 (σ : zS) : Option (Int × zS) :=
  if 0 ≤ (σ 54 5) ∧ (σ 54 5) < 200 then
    z_put σ 54 5 ((σ 54 5) + 1) fun σ1 =>
    some (σ 57 (σ 54 5), σ1)
  else none
def f_X3_nextRoomFrame (σ : zS) : Option (Int × zS) :=
  if zr (σ 54 5) ∧ zr (σ 54 4) then
    if (σ 54 5) < (σ 54 4) then
      f_X3_nextRoomFrame_b16 σ
    else
      z_put σ 54 5 0 fun σ1 =>
      f_X3_nextRoomFrame_b16 σ1
  else none
def f_X3_addPause_b47 (K2 : zS → Int → Int → Option (Unit × zS)) (σ : zS) (x2 : Int) (x3 : Int) : Option (Unit × zS) :=
  K2 σ x2 (x3 + 1)
def f_X3_addPause_b2 (K2 : zS → Int → Int → Option (Unit × zS)) (σ : zS) (x2 : Int) (x3 : Int) : Option (Unit × zS) :=
  if zr x3 ∧ zr x2 then
    if x2 ≤ x3 then
      some ((), σ)
    else
      if zr (σ 54 4) then
        if ¬ (σ 54 4) = 0 then
          z_bind (f_X3_nextRoomFrame σ) fun r2 σ1 =>
          z_bind (f_X2_levelAt 0 σ1 r2) fun r4 σ3 =>
          z_bind (f_X3_add σ3 (1000 + r2) r4) fun _ σ5 =>
          f_X3_addPause_b47 K2 σ5 x2 x3
        else
          z_bind (f_X3_add σ 2000 0) fun _ σ6 =>
          f_X3_addPause_b47 K2 σ6 x2 x3
      else none
  else none
def f_X3_addPause_l2 : Nat → zS → Int → Int → Option (Unit × zS)
  | 0, _, _, _ => none
  | n + 1, σ, x2, x3 => f_X3_addPause_b2 (f_X3_addPause_l2 n) σ x2 x3
def f_X3_addPause (σ : zS) (x2 : Int) : Option (Unit × zS) :=
  f_X3_addPause_l2 z_fuel σ x2 0
def f_X3_build_b15 (K15 : zS → Int → Int → Option (Unit × zS)) (σ : zS) (x3 : Int) (x4 : Int) : Option (Unit × zS) :=
  if zr x4 ∧ zr (σ 48 5) then
    if (σ 48 5) ≤ x4 then
      z_bind (f_X3_addRecorded σ x3 (σ 0 1)) fun _ σ1 =>
      some ((), σ1)
    else
      if 0 ≤ x4 ∧ x4 < 20 then
        z_bind (f_X3_addRecorded σ x3 (σ 49 x4)) fun _ σ2 =>
        if 0 ≤ x4 ∧ x4 < 20 then
          z_bind (f_X3_addPause σ2 (σ2 51 x4)) fun _ σ3 =>
          if 0 ≤ x4 ∧ x4 < 20 then
            K15 σ3 (σ3 50 x4) (x4 + 1)
          else none
        else none
      else none
  else none
def f_X3_build_l15 : Nat → zS → Int → Int → Option (Unit × zS)
  | 0, _, _, _ => none
  | n + 1, σ, x3, x4 => f_X3_build_b15 (f_X3_build_l15 n) σ x3 x4
def f_X3_build (σ : zS) : Option (Unit × zS) :=
  z_put σ 54 2 0 fun σ1 =>
  z_bind (f_X3_gatherRoomAndNoise σ1) fun _ σ2 =>
  f_X3_build_l15 z_fuel σ2 0 0
def f_X3_placeOfSource_b2 (K2 : zS → Int → Int → Option (Int × zS)) (σ : zS) (x1 : Int) (x2 : Int) : Option (Int × zS) :=
  if zr x2 ∧ zr (σ 54 2) then
    if (σ 54 2) ≤ x2 then
      some ((-9), σ)
    else
      if 0 ≤ x2 ∧ x2 < 200 then
        if zr (σ 55 x2) ∧ zr x1 then
          if ¬ (σ 55 x2) = x1 then
            K2 σ x1 (x2 + 1)
          else
            some (x2, σ)
        else none
      else none
  else none
def f_X3_placeOfSource_l2 : Nat → zS → Int → Int → Option (Int × zS)
  | 0, _, _, _ => none
  | n + 1, σ, x1, x2 => f_X3_placeOfSource_b2 (f_X3_placeOfSource_l2 n) σ x1 x2
def f_X3_placeOfSource (σ : zS) (x1 : Int) : Option (Int × zS) :=
  f_X3_placeOfSource_l2 z_fuel σ x1 0
def f_X3_stepsGreaterThan_b37 (K4 : zS → Int → Int → Int → Option (Int × zS)) (σ : zS) (x1 : Int) (x2 : Int) (x3 : Int) : Option (Int × zS) :=
  K4 σ x1 x2 (x3 + 1)
def f_X3_stepsGreaterThan_b4 (K4 : zS → Int → Int → Int → Option (Int × zS)) (σ : zS) (x1 : Int) (x2 : Int) (x3 : Int) : Option (Int × zS) :=
  if zr x3 ∧ zr (σ 54 2) then
    if (σ 54 2) ≤ x3 then
      some (x2, σ)
    else
      if 0 ≤ x3 ∧ x3 < 200 then
        if 0 ≤ (x3 - 1) ∧ (x3 - 1) < 200 then
          if zr ((σ 56 x3) - (σ 56 (x3 - 1))) then
            if zr (if 0 ≤ ((σ 56 x3) - (σ 56 (x3 - 1))) then ((σ 56 x3) - (σ 56 (x3 - 1))) else 0 - ((σ 56 x3) - (σ 56 (x3 - 1)))) ∧ zr x1 then
              if (if 0 ≤ ((σ 56 x3) - (σ 56 (x3 - 1))) then ((σ 56 x3) - (σ 56 (x3 - 1))) else 0 - ((σ 56 x3) - (σ 56 (x3 - 1)))) ≤ x1 then
                f_X3_stepsGreaterThan_b37 K4 σ x1 x2 x3
              else
                f_X3_stepsGreaterThan_b37 K4 σ x1 (x2 + 1) x3
            else none
          else none
        else none
      else none
  else none
def f_X3_stepsGreaterThan_l4 : Nat → zS → Int → Int → Int → Option (Int × zS)
  | 0, _, _, _, _ => none
  | n + 1, σ, x1, x2, x3 => f_X3_stepsGreaterThan_b4 (f_X3_stepsGreaterThan_l4 n) σ x1 x2 x3
def f_X3_stepsGreaterThan (σ : zS) (x1 : Int) : Option (Int × zS) :=
  f_X3_stepsGreaterThan_l4 z_fuel σ x1 0 1
def f_X3_sumOfLevels_b4 (K4 : zS → Int → Int → Option (Int × zS)) (σ : zS) (x1 : Int) (x2 : Int) : Option (Int × zS) :=
  if zr x2 ∧ zr (σ 54 2) then
    if (σ 54 2) ≤ x2 then
      some (x1, σ)
    else
      if 0 ≤ x2 ∧ x2 < 200 then
        K4 σ (x1 + (σ 56 x2)) (x2 + 1)
      else none
  else none
def f_X3_sumOfLevels_l4 : Nat → zS → Int → Int → Option (Int × zS)
  | 0, _, _, _ => none
  | n + 1, σ, x1, x2 => f_X3_sumOfLevels_b4 (f_X3_sumOfLevels_l4 n) σ x1 x2
def f_X3_sumOfLevels (σ : zS) : Option (Int × zS) :=
  f_X3_sumOfLevels_l4 z_fuel σ 0 0
def f_X3_longestStretchUpTo_b34 (K7 : zS → Int → Int → Int → Int → Option (Int × zS)) (σ : zS) (x1 : Int) (x2 : Int) (x4 : Int) (s0 : Int) : Option (Int × zS) :=
  if zr x2 ∧ zr s0 then
    K7 σ x1 (if x2 < s0 then s0 else x2) s0 (x4 + 1)
  else none
def f_X3_longestStretchUpTo_b7 (K7 : zS → Int → Int → Int → Int → Option (Int × zS)) (σ : zS) (x1 : Int) (x2 : Int) (x3 : Int) (x4 : Int) : Option (Int × zS) :=
  if zr x4 ∧ zr (σ 54 2) then
    if (σ 54 2) ≤ x4 then
      some (x2, σ)
    else
      if 0 ≤ x4 ∧ x4 < 200 then
        if zr (σ 56 x4) ∧ zr x1 then
          if x1 < (σ 56 x4) then
            f_X3_longestStretchUpTo_b34 K7 σ x1 x2 x4 0
          else
            f_X3_longestStretchUpTo_b34 K7 σ x1 x2 x4 (x3 + 1)
        else none
      else none
  else none
def f_X3_longestStretchUpTo_l7 : Nat → zS → Int → Int → Int → Int → Option (Int × zS)
  | 0, _, _, _, _, _ => none
  | n + 1, σ, x1, x2, x3, x4 => f_X3_longestStretchUpTo_b7 (f_X3_longestStretchUpTo_l7 n) σ x1 x2 x3 x4
def f_X3_longestStretchUpTo (σ : zS) (x1 : Int) : Option (Int × zS) :=
  f_X3_longestStretchUpTo_l7 z_fuel σ x1 0 0 0
def f_X5_type_b12 (σ : zS) : Option (Int × zS) :=
  some ((-1), σ)
def f_X5_type (σ : zS) (x1 : Int) : Option (Int × zS) :=
  if zr x1 then
    if x1 < 32 then
      f_X5_type_b12 σ
    else
      if zr x1 then
        if x1 ≤ 126 then
          if zr (σ 62 1) then
            if (σ 62 1) < 120 then
              if 0 ≤ (σ 62 1) ∧ (σ 62 1) < 120 then z_put σ 63 (σ 62 1) x1 fun σ1 =>
                z_put σ1 62 1 ((σ1 62 1) + 1) fun σ2 =>
                some (σ2 62 1, σ2)
              else none
            else
              some ((-3), σ)
          else none
        else
          f_X5_type_b12 σ
      else none
  else none
def f_X5_append_b55 (K55 : zS → Int → Int → Int → Option (Int × zS)) (σ : zS) (x1 : Int) (x2 : Int) (x3 : Int) : Option (Int × zS) :=
  if zr x3 ∧ zr x2 then
    if x2 ≤ x3 then
      some (σ 0 1, σ)
    else
      z_bind (f_X2_addFrame 0 σ x1) fun _ σ1 =>
      K55 σ1 x1 x2 (x3 + 1)
  else none
def f_X5_append_l55 : Nat → zS → Int → Int → Int → Option (Int × zS)
  | 0, _, _, _, _ => none
  | n + 1, σ, x1, x2, x3 => f_X5_append_b55 (f_X5_append_l55 n) σ x1 x2 x3
def f_X5_append_b22 (σ : zS) : Option (Int × zS) :=
  some ((-1), σ)
def f_X5_append (σ : zS) (x1 : Int) (x2 : Int) : Option (Int × zS) :=
  if zr x1 then
    if x1 < 0 then
      f_X5_append_b22 σ
    else
      if zr x1 then
        if 9 < x1 then
          f_X5_append_b22 σ
        else
          if zr x2 then
            if x2 < 1 then
              f_X5_append_b22 σ
            else
              if zr x2 then
                if x2 ≤ 200 then
                  if zr ((σ 0 1) + x2) then
                    if ((σ 0 1) + x2) ≤ 200 then
                      z_bind (f_X1_keep 0 σ) fun _ σ1 =>
                      f_X5_append_l55 z_fuel σ1 x1 x2 0
                    else
                      some ((-3), σ)
                  else none
                else
                  f_X5_append_b22 σ
              else none
          else none
      else none
  else none
def f_X5_babble_b48 (K48 : zS → Int → Int → Int → Option (Int × zS)) (σ : zS) (x2 : Int) (x3 : Int) (x4 : Int) : Option (Int × zS) :=
  if zr x4 ∧ zr x2 then
    if x2 ≤ x4 then
      some (σ 0 1, σ)
    else
      if zr (z_ushr ((1103515245 * x3) + 12345) 16) ∧ zr 10 ∧ (10 : Int) ≠ 0 then
        z_bind (f_X2_addFrame 0 σ ((z_ushr ((1103515245 * x3) + 12345) 16).tmod 10)) fun _ σ1 =>
        K48 σ1 x2 ((1103515245 * x3) + 12345) (x4 + 1)
      else none
  else none
def f_X5_babble_l48 : Nat → zS → Int → Int → Int → Option (Int × zS)
  | 0, _, _, _, _ => none
  | n + 1, σ, x2, x3, x4 => f_X5_babble_b48 (f_X5_babble_l48 n) σ x2 x3 x4
def f_X5_babble_b12 (σ : zS) : Option (Int × zS) :=
  some ((-1), σ)
def f_X5_babble (σ : zS) (x1 : Int) (x2 : Int) : Option (Int × zS) :=
  if zr x2 then
    if x2 < 1 then
      f_X5_babble_b12 σ
    else
      if zr x2 then
        if x2 ≤ 200 then
          if zr ((σ 0 1) + x2) then
            if ((σ 0 1) + x2) ≤ 200 then
              z_bind (f_X1_keep 0 σ) fun _ σ1 =>
              f_X5_babble_l48 z_fuel σ1 x2 x1 0
            else
              some ((-3), σ)
          else none
        else
          f_X5_babble_b12 σ
      else none
  else none
def f_X5_mark_b43 (σ : zS) : Option (Int × zS) :=
  some ((-1), σ)
def f_X5_mark_b21 (σ : zS) : Option (Int × zS) :=
  some ((-1), σ)
def f_X5_mark (σ : zS) (x1 : Int) (x2 : Int) (x3 : Int) (x4 : Int) : Option (Int × zS) :=
  if zr x1 then
    if x1 < 0 then
      f_X5_mark_b21 σ
    else
      if zr x1 then
        if 3 < x1 then
          f_X5_mark_b21 σ
        else
          if zr x4 then
            if x4 < 0 then
              f_X5_mark_b21 σ
            else
              if zr x4 then
                if x4 ≤ 100 then
                  if zr x2 then
                    if x2 < 0 then
                      f_X5_mark_b43 σ
                    else
                      if zr x3 ∧ zr (σ 0 1) then
                        if (σ 0 1) < x3 then
                          f_X5_mark_b43 σ
                        else
                          if zr x3 ∧ zr x2 then
                            if x2 < x3 then
                              z_bind (f_X2_overlaps 0 σ x2 x3) fun r2 σ1 =>
                              if zr r2 then
                                if r2 = 0 then
                                  if zr (σ1 0 7) then
                                    if (σ1 0 7) < 20 then
                                      z_bind (f_X1_keep 0 σ1) fun _ σ3 =>
                                      z_bind (f_X2_addMark 0 σ3 x1 x2 x3 x4) fun r5 σ4 =>
                                      some (r5, σ4)
                                    else
                                      some ((-3), σ1)
                                  else none
                                else
                                  some ((-2), σ1)
                              else none
                            else
                              f_X5_mark_b43 σ
                          else none
                      else none
                  else none
                else
                  f_X5_mark_b21 σ
              else none
          else none
      else none
  else none
def f_X5_unmark (σ : zS) (x1 : Int) : Option (Int × zS) :=
  z_bind (f_X2_hasMark 0 σ x1) fun r2 σ1 =>
  if zr r2 then
    if ¬ r2 = 0 then
      z_bind (f_X1_keep 0 σ1) fun _ σ3 =>
      z_bind (f_X2_removeMark 0 σ3 x1) fun _ σ4 =>
      some (σ4 0 7, σ4)
    else
      some ((-1), σ1)
  else none
def f_X5_hold_b41 (σ : zS) (x1 : Int) (x2 : Int) (s0 : Int) : Option (Int × zS) :=
  if (0 ≤ x1 ∧ x1 < 20) ∧ 0 ≤ x2 ∧ x2 ≤ 1 then z_put σ 6 x1 x2 fun σ1 =>
    some (s0, σ1)
  else none
def f_X5_hold (σ : zS) (x1 : Int) (x2 : Int) : Option (Int × zS) :=
  z_bind (f_X2_hasMark 0 σ x1) fun r2 σ1 =>
  if zr r2 then
    if ¬ r2 = 0 then
      z_bind (f_X1_keep 0 σ1) fun _ σ3 =>
      if 0 ≤ x1 ∧ x1 < 20 then
        if zr (σ3 6 x1) then
          if (σ3 6 x1) = 0 then
            f_X5_hold_b41 σ3 x1 x2 0
          else
            f_X5_hold_b41 σ3 x1 x2 1
        else none
      else none
    else
      some ((-1), σ1)
  else none
def f_X5_setting_b51 (σ : zS) (s0 : Int) : Option (Int × zS) :=
  some (s0, σ)
def f_X5_setting_b10 (σ : zS) : Option (Int × zS) :=
  some ((-1), σ)
def f_X5_setting (σ : zS) (x1 : Int) : Option (Int × zS) :=
  if zr x1 then
    if x1 < 0 then
      f_X5_setting_b10 σ
    else
      if zr x1 then
        if x1 ≤ 8 then
          if zr x1 then
            if 7 ≤ x1 then
              if zr x1 then
                if ¬ x1 = 7 then
                  f_X5_setting_b51 σ (σ 0 7)
                else
                  f_X5_setting_b51 σ (σ 0 1)
              else none
            else
              if 0 ≤ x1 ∧ x1 < 7 then
                some (σ 7 x1, σ)
              else none
          else none
        else
          f_X5_setting_b10 σ
      else none
  else none
def f_X5_currentCuts (σ : zS) : Option (Unit × zS) :=
  if 0 ≤ (0 : Int) ∧ (0 : Int) < 7 then
    if 0 ≤ (2 : Int) ∧ (2 : Int) < 7 then
      z_bind (f_X0_find σ (σ 7 0) (σ 7 2)) fun _ σ1 =>
      some ((), σ1)
    else none
  else none
def f_X5_about_b20 (σ : zS) : Option (Int × zS) :=
  some ((-1), σ)
def f_X5_about (σ : zS) (x1 : Int) (x2 : Int) : Option (Int × zS) :=
  z_bind (f_X2_hasMark 0 σ x1) fun r2 σ1 =>
  if zr r2 then
    if r2 = 0 then
      f_X5_about_b20 σ1
    else
      if zr x2 then
        if x2 < 0 then
          f_X5_about_b20 σ1
        else
          if zr x2 then
            if x2 ≤ 5 then
              if zr x2 then
                if ¬ x2 = 5 then
                  z_bind (f_X2_numberOfMark 0 σ1 x1 x2) fun r4 σ3 =>
                  some (r4, σ3)
                else
                  z_bind (f_X5_currentCuts σ1) fun _ σ5 =>
                  z_bind (f_X0_cutOfMark σ5 x1) fun r7 σ6 =>
                  some (r7, σ6)
              else none
            else
              f_X5_about_b20 σ1
          else none
      else none
  else none
def f_X5_level (σ : zS) (x1 : Int) : Option (Int × zS) :=
  z_bind (f_X2_hasFrame 0 σ x1) fun r2 σ1 =>
  if zr r2 then
    if ¬ r2 = 0 then
      z_bind (f_X2_levelAt 0 σ1 x1) fun r4 σ3 =>
      some (r4, σ3)
    else
      some ((-1), σ1)
  else none
def f_X5_cuts (σ : zS) : Option (Int × zS) :=
  z_bind (f_X5_currentCuts σ) fun _ σ1 =>
  some (σ1 48 5, σ1)
def f_X5_cut_b26 (σ : zS) : Option (Int × zS) :=
  some ((-1), σ)
def f_X5_cut (σ : zS) (x1 : Int) (x2 : Int) : Option (Int × zS) :=
  z_bind (f_X5_currentCuts σ) fun _ σ1 =>
  if zr x1 then
    if x1 < 0 then
      f_X5_cut_b26 σ1
    else
      if zr x1 ∧ zr (σ1 48 5) then
        if (σ1 48 5) ≤ x1 then
          f_X5_cut_b26 σ1
        else
          if zr x2 then
            if x2 < 0 then
              f_X5_cut_b26 σ1
            else
              if zr x2 then
                if x2 ≤ 4 then
                  z_bind (f_X0_numberOfCut σ1 x1 x2) fun r3 σ2 =>
                  some (r3, σ2)
                else
                  f_X5_cut_b26 σ1
              else none
          else none
      else none
  else none
def f_X5_sum (σ : zS) (x1 : Int) : Option (Int × zS) :=
  z_bind (f_X5_currentCuts σ) fun _ σ1 =>
  if zr x1 then
    if x1 = 0 then
      z_bind (f_X0_cutFrames σ1) fun r7 σ6 =>
      some (r7, σ6)
    else
      if x1 = 1 then
        z_bind (f_X0_pauseFrames σ1) fun r5 σ4 =>
        some (r5, σ4)
      else
        if x1 = 2 then
          z_bind (f_X0_roughCuts σ1) fun r3 σ2 =>
          some (r3, σ2)
        else
          some ((-1), σ1)
  else none
def f_X5_bestWindow_b54 (K7 : zS → Int → Int → Int → Option (Int × zS)) (σ : zS) (x1 : Int) (x2 : Int) (x3 : Int) : Option (Int × zS) :=
  K7 σ x1 x2 (x3 + 1)
def f_X5_bestWindow_b7 (K7 : zS → Int → Int → Int → Option (Int × zS)) (σ : zS) (x1 : Int) (x2 : Int) (x3 : Int) : Option (Int × zS) :=
  if zr x3 then
    if 20 < x3 then
      some (x1, σ)
    else
      if 0 ≤ (0 : Int) ∧ (0 : Int) < 7 then
        z_bind (f_X0_find σ (σ 7 0) x3) fun _ σ1 =>
        z_bind (f_X0_roughCuts σ1) fun r3 σ2 =>
        if zr r3 ∧ zr x2 then
          if x2 ≤ r3 then
            f_X5_bestWindow_b54 K7 σ2 x1 x2 x3
          else
            f_X5_bestWindow_b54 K7 σ2 x3 r3 x3
        else none
      else none
  else none
def f_X5_bestWindow_l7 : Nat → zS → Int → Int → Int → Option (Int × zS)
  | 0, _, _, _, _ => none
  | n + 1, σ, x1, x2, x3 => f_X5_bestWindow_b7 (f_X5_bestWindow_l7 n) σ x1 x2 x3
def f_X5_bestWindow (σ : zS) : Option (Int × zS) :=
  f_X5_bestWindow_l7 z_fuel σ 0 21 0
def f_X5_greatestDoubt_b53 (K9 : zS → Int → Int → Option (Int × zS)) (σ : zS) (x1 : Int) (x2 : Int) : Option (Int × zS) :=
  z_bind (f_X0_cutFrames σ) fun r2 σ1 =>
  if zr r2 ∧ zr x1 then
    if x1 < r2 then
      K9 σ1 x1 (x2 + (-1))
    else
      some (x2, σ1)
  else none
def f_X5_greatestDoubt_b32 (K9 : zS → Int → Int → Option (Int × zS)) (σ : zS) (x1 : Int) (x2 : Int) : Option (Int × zS) :=
  if 0 ≤ (2 : Int) ∧ (2 : Int) < 7 then
    z_bind (f_X0_find σ x2 (σ 7 2)) fun _ σ1 =>
    f_X5_greatestDoubt_b53 K9 σ1 x1 x2
  else none
def f_X5_greatestDoubt_b9 (K9 : zS → Int → Int → Option (Int × zS)) (σ : zS) (x1 : Int) (x2 : Int) : Option (Int × zS) :=
  if zr x2 then
    if x2 < 0 then
      some ((-9), σ)
    else
      if zr x2 then
        if x2 = 100 then
          f_X5_greatestDoubt_b32 K9 σ x1 x2
        else
          z_bind (f_X2_hasFillerOfDoubt 0 σ (x2 + 1)) fun r2 σ1 =>
          if zr r2 then
            if r2 = 0 then
              f_X5_greatestDoubt_b53 K9 σ1 x1 x2
            else
              f_X5_greatestDoubt_b32 K9 σ1 x1 x2
          else none
      else none
  else none
def f_X5_greatestDoubt_l9 : Nat → zS → Int → Int → Option (Int × zS)
  | 0, _, _, _ => none
  | n + 1, σ, x1, x2 => f_X5_greatestDoubt_b9 (f_X5_greatestDoubt_l9 n) σ x1 x2
def f_X5_greatestDoubt (σ : zS) (x1 : Int) : Option (Int × zS) :=
  if zr x1 then
    if 0 ≤ x1 then
      f_X5_greatestDoubt_l9 z_fuel σ x1 100
    else
      some ((-1), σ)
  else none
def f_X5_currentResult (σ : zS) : Option (Unit × zS) :=
  if 0 ≤ (0 : Int) ∧ (0 : Int) < 7 then
    if 0 ≤ (2 : Int) ∧ (2 : Int) < 7 then
      z_bind (f_X0_find σ (σ 7 0) (σ 7 2)) fun _ σ1 =>
      z_bind (f_X3_build σ1) fun _ σ2 =>
      some ((), σ2)
    else none
  else none
def f_X5_length (σ : zS) : Option (Int × zS) :=
  z_bind (f_X5_currentResult σ) fun _ σ1 =>
  some (σ1 54 2, σ1)
def f_X5_heard_b47 (σ : zS) (s0 : Int) : Option (Int × zS) :=
  some (s0, σ)
def f_X5_heard_b26 (σ : zS) : Option (Int × zS) :=
  some ((-1), σ)
def f_X5_heard (σ : zS) (x1 : Int) (x2 : Int) : Option (Int × zS) :=
  z_bind (f_X5_currentResult σ) fun _ σ1 =>
  if zr x1 then
    if x1 < 0 then
      f_X5_heard_b26 σ1
    else
      if zr x1 ∧ zr (σ1 54 2) then
        if (σ1 54 2) ≤ x1 then
          f_X5_heard_b26 σ1
        else
          if zr x2 then
            if x2 < 0 then
              f_X5_heard_b26 σ1
            else
              if zr x2 then
                if x2 ≤ 1 then
                  if zr x2 then
                    if ¬ x2 = 0 then
                      if 0 ≤ x1 ∧ x1 < 200 then
                        f_X5_heard_b47 σ1 (σ1 56 x1)
                      else none
                    else
                      if 0 ≤ x1 ∧ x1 < 200 then
                        f_X5_heard_b47 σ1 (σ1 55 x1)
                      else none
                  else none
                else
                  f_X5_heard_b26 σ1
              else none
          else none
      else none
  else none
def f_X5_where (σ : zS) (x1 : Int) : Option (Int × zS) :=
  z_bind (f_X2_hasFrame 0 σ x1) fun r2 σ1 =>
  if zr r2 then
    if ¬ r2 = 0 then
      z_bind (f_X5_currentResult σ1) fun _ σ3 =>
      z_bind (f_X3_placeOfSource σ3 x1) fun r5 σ4 =>
      some (r5, σ4)
    else
      some ((-1), σ1)
  else none
def f_X5_clicks_b10 (σ : zS) : Option (Int × zS) :=
  some ((-1), σ)
def f_X5_clicks (σ : zS) (x1 : Int) : Option (Int × zS) :=
  if zr x1 then
    if x1 < 0 then
      f_X5_clicks_b10 σ
    else
      if zr x1 then
        if x1 ≤ 9 then
          z_bind (f_X5_currentResult σ) fun _ σ1 =>
          z_bind (f_X3_stepsGreaterThan σ1 x1) fun r3 σ2 =>
          some (r3, σ2)
        else
          f_X5_clicks_b10 σ
      else none
  else none
def f_X5_silence (σ : zS) : Option (Int × zS) :=
  z_bind (f_X5_currentResult σ) fun _ σ1 =>
  if 0 ≤ (1 : Int) ∧ (1 : Int) < 7 then
    z_bind (f_X3_longestStretchUpTo σ1 (σ1 7 1)) fun r3 σ2 =>
    some (r3, σ2)
  else none
def f_X5_undo (σ : zS) : Option (Int × zS) :=
  if zr (σ 60 1) then
    if ¬ (σ 60 1) = 0 then
      z_bind (f_X1_restoreLatest 0 σ) fun _ σ1 =>
      some (σ1 60 1, σ1)
    else
      some ((-9), σ)
  else none
def f_X5_withMarks_b21 (K6 : zS → Int → Int → Option (Int × zS)) (K21 : zS → Int → Int → Int → Option (Int × zS)) (σ : zS) (y4 : Int) (x6 : Int) (x7 : Int) : Option (Int × zS) :=
  if zr x7 then
    if 5 ≤ x7 then
      z_bind (f_X0_cutOfMark σ x6) fun r2 σ1 =>
      if zr r2 then
        K6 σ1 ((31 * y4) + r2) (x6 + 1)
      else none
    else
      z_bind (f_X2_numberOfMark 0 σ x6 x7) fun r4 σ3 =>
      if zr r4 then
        K21 σ3 ((31 * y4) + r4) x6 (x7 + 1)
      else none
  else none
def f_X5_withMarks_l21 (K6 : zS → Int → Int → Option (Int × zS)) : Nat → zS → Int → Int → Int → Option (Int × zS)
  | 0, _, _, _, _ => none
  | n + 1, σ, y4, x6, x7 => f_X5_withMarks_b21 K6 (f_X5_withMarks_l21 K6 n) σ y4 x6 x7
def f_X5_withMarks_b6 (K6 : zS → Int → Int → Option (Int × zS)) (σ : zS) (y4 : Int) (x6 : Int) : Option (Int × zS) :=
  if zr x6 ∧ zr (σ 0 7) then
    if (σ 0 7) ≤ x6 then
      some (y4, σ)
    else
      f_X5_withMarks_l21 K6 z_fuel σ y4 x6 0
  else none
def f_X5_withMarks_l6 : Nat → zS → Int → Int → Option (Int × zS)
  | 0, _, _, _ => none
  | n + 1, σ, y4, x6 => f_X5_withMarks_b6 (f_X5_withMarks_l6 n) σ y4 x6
def f_X5_withMarks (σ : zS) (y1 : Int) : Option (Int × zS) :=
  f_X5_withMarks_l6 z_fuel σ y1 0
def f_X5_withCuts_b28 (K16 : zS → Int → Int → Option (Int × zS)) (K28 : zS → Int → Int → Int → Option (Int × zS)) (σ : zS) (y4 : Int) (x6 : Int) (x7 : Int) : Option (Int × zS) :=
  if zr x7 then
    if 5 ≤ x7 then
      K16 σ y4 (x6 + 1)
    else
      z_bind (f_X0_numberOfCut σ x6 x7) fun r2 σ1 =>
      if zr r2 then
        K28 σ1 ((31 * y4) + r2) x6 (x7 + 1)
      else none
  else none
def f_X5_withCuts_l28 (K16 : zS → Int → Int → Option (Int × zS)) : Nat → zS → Int → Int → Int → Option (Int × zS)
  | 0, _, _, _, _ => none
  | n + 1, σ, y4, x6, x7 => f_X5_withCuts_b28 K16 (f_X5_withCuts_l28 K16 n) σ y4 x6 x7
def f_X5_withCuts_b16 (K16 : zS → Int → Int → Option (Int × zS)) (σ : zS) (y4 : Int) (x6 : Int) : Option (Int × zS) :=
  if zr x6 ∧ zr (σ 48 5) then
    if (σ 48 5) ≤ x6 then
      some (y4, σ)
    else
      f_X5_withCuts_l28 K16 z_fuel σ y4 x6 0
  else none
def f_X5_withCuts_l16 : Nat → zS → Int → Int → Option (Int × zS)
  | 0, _, _, _ => none
  | n + 1, σ, y4, x6 => f_X5_withCuts_b16 (f_X5_withCuts_l16 n) σ y4 x6
def f_X5_withCuts (σ : zS) (y1 : Int) : Option (Int × zS) :=
  if zr (σ 48 5) then
    f_X5_withCuts_l16 z_fuel σ ((31 * y1) + (σ 48 5)) 0
  else none
def f_X5_withResult_b16 (K16 : zS → Int → Int → Option (Int × zS)) (σ : zS) (y4 : Int) (x6 : Int) : Option (Int × zS) :=
  if zr x6 ∧ zr (σ 54 2) then
    if (σ 54 2) ≤ x6 then
      some (y4, σ)
    else
      if 0 ≤ x6 ∧ x6 < 200 then
        if zr (σ 55 x6) then
          if 0 ≤ x6 ∧ x6 < 200 then
            if zr (σ 56 x6) then
              K16 σ ((31 * ((31 * y4) + (σ 55 x6))) + (σ 56 x6)) (x6 + 1)
            else none
          else none
        else none
      else none
  else none
def f_X5_withResult_l16 : Nat → zS → Int → Int → Option (Int × zS)
  | 0, _, _, _ => none
  | n + 1, σ, y4, x6 => f_X5_withResult_b16 (f_X5_withResult_l16 n) σ y4 x6
def f_X5_withResult (σ : zS) (y1 : Int) : Option (Int × zS) :=
  if zr (σ 54 2) then
    f_X5_withResult_l16 z_fuel σ ((31 * y1) + (σ 54 2)) 0
  else none
def f_X5_fingerprint_b33 (K33 : zS → Int → Int → Option (Int × zS)) (σ : zS) (y1 : Int) (x3 : Int) : Option (Int × zS) :=
  if zr x3 ∧ zr (σ 0 1) then
    if (σ 0 1) ≤ x3 then
      z_bind (f_X5_currentCuts σ) fun _ σ1 =>
      z_bind (f_X5_withMarks σ1 y1) fun r3 σ2 =>
      z_bind (f_X5_withCuts σ2 r3) fun r5 σ4 =>
      z_bind (f_X5_currentResult σ4) fun _ σ6 =>
      z_bind (f_X5_withResult σ6 r5) fun r8 σ7 =>
      some (r8, σ7)
    else
      if 0 ≤ x3 ∧ x3 < 200 then
        if zr (σ 1 x3) then
          K33 σ ((31 * y1) + (σ 1 x3)) (x3 + 1)
        else none
      else none
  else none
def f_X5_fingerprint_l33 : Nat → zS → Int → Int → Option (Int × zS)
  | 0, _, _, _ => none
  | n + 1, σ, y1, x3 => f_X5_fingerprint_b33 (f_X5_fingerprint_l33 n) σ y1 x3
def f_X5_fingerprint_b6 (K6 : zS → Int → Int → Option (Int × zS)) (σ : zS) (y1 : Int) (x3 : Int) : Option (Int × zS) :=
  if zr x3 then
    if 8 < x3 then
      f_X5_fingerprint_l33 z_fuel σ y1 0
    else
      z_bind (f_X5_setting σ x3) fun r2 σ1 =>
      if zr r2 then
        K6 σ1 ((31 * y1) + r2) (x3 + 1)
      else none
  else none
def f_X5_fingerprint_l6 : Nat → zS → Int → Int → Option (Int × zS)
  | 0, _, _, _ => none
  | n + 1, σ, y1, x3 => f_X5_fingerprint_b6 (f_X5_fingerprint_l6 n) σ y1 x3
def f_X5_fingerprint (σ : zS) : Option (Int × zS) :=
  f_X5_fingerprint_l6 z_fuel σ 151 0
