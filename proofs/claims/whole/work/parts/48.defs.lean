/-! THE METHODS THAT ANSWER FLOATS, AND set, by program -/
/-- the greatest values of the settings -/
def z_most (i : Int) : Int := if i = 0 then 100 else if i = 1 then 9 else if i = 2 then 20 else if i = 3 then 50 else if i = 4 then 100 else 50
def f_X5_set_b25 (σ : zS) : Option (Int × zS) :=
  some ((-1), σ)
def f_X5_set_b10 (σ : zS) : Option (Int × zS) :=
  some ((-1), σ)
def f_X5_set (σ : zS) (x1 : Int) (x2 : Int) : Option (Int × zS) :=
  if zr x1 then
    if x1 < 0 then
      f_X5_set_b10 σ
    else
      if zr x1 then
        if x1 < 7 then
          if zr x2 then
            if x2 < 0 then
              f_X5_set_b25 σ
            else
              if 0 ≤ x1 ∧ x1 < 7 then
                if zr x2 ∧ zr (z_most x1) then
                  if x2 ≤ (z_most x1) then
                    z_bind (f_X1_keep 0 σ) fun _ σ1 =>
                    if 0 ≤ x1 ∧ x1 < 7 then
                      if 0 ≤ x1 ∧ x1 < 7 then z_put σ1 7 x1 x2 fun σ2 =>
                        some (σ1 7 x1, σ2)
                      else none
                    else none
                  else
                    f_X5_set_b25 σ
                else none
              else none
          else none
        else
          f_X5_set_b10 σ
      else none
  else none
def f_X5_loudness (σ : zS) : Option ((Int × Int) × zS) :=
  z_bind (f_X5_currentResult σ) fun _ σ1 =>
  if zr (σ1 54 2) then
    if ¬ (σ1 54 2) = 0 then
      z_bind (f_X3_sumOfLevels σ1) fun r3 σ2 =>
      if (σ2 54 2) ≠ 0 then some ((r3, σ2 54 2), σ2) else none
    else
      some ((0, 0), σ1)
  else none
def f_X5_share (σ : zS) : Option ((Int × Int) × zS) :=
  if zr (σ 0 1) then
    if ¬ (σ 0 1) = 0 then
      z_bind (f_X5_currentCuts σ) fun _ σ1 =>
      z_bind (f_X0_cutFrames σ1) fun r3 σ2 =>
      if (σ2 0 1) ≠ 0 then some (((σ 0 1) - r3, σ2 0 1), σ2) else none
    else
      some ((0, 0), σ)
  else none
def f_X6_loudness_b8 (K8 : zS → Int → Int → Option ((Int × Int) × zS)) (σ : zS) (x1 : Int) (x2 : Int) : Option ((Int × Int) × zS) :=
  if zr x2 ∧ zr (σ 0 15) then
    if (σ 0 15) ≤ x2 then
      if zr (σ 0 15) then
        if ¬ (σ 0 15) = 0 then
          if (σ 0 15) ≠ 0 then some ((x1, σ 0 15), σ) else none
        else
          some ((0, 0), σ)
      else none
    else
      if 0 ≤ x2 ∧ x2 < 1400 then
        K8 σ (x1 + (σ 8 x2)) (x2 + 1)
      else none
  else none
def f_X6_loudness_l8 : Nat → zS → Int → Int → Option ((Int × Int) × zS)
  | 0, _, _, _ => none
  | n + 1, σ, x1, x2 => f_X6_loudness_b8 (f_X6_loudness_l8 n) σ x1 x2
def f_X6_loudness (σ : zS) : Option ((Int × Int) × zS) :=
  z_bind (f_X6_plays σ) fun _ σ1 =>
  f_X6_loudness_l8 z_fuel σ1 0 0
def f_X6_share (σ : zS) : Option ((Int × Int) × zS) :=
  z_bind (f_X6_finds σ) fun _ σ1 =>
  if 0 ≤ (7 : Int) ∧ (7 : Int) < 320 then
    if zr (σ1 1 7) then
      if ¬ (σ1 1 7) = 0 then
        if 0 ≤ (7 : Int) ∧ (7 : Int) < 320 then
          z_bind (f_X6_sumOf σ1 0) fun r3 σ2 =>
          if 0 ≤ (7 : Int) ∧ (7 : Int) < 320 then
            if (σ2 1 7) ≠ 0 then some (((σ1 1 7) - r3, σ2 1 7), σ2) else none
          else none
        else none
      else
        some ((0, 0), σ1)
    else none
  else none
