/-! THE METHODS THAT ANSWER FLOATS, AND set, by program -/
/-- the greatest values of the settings -/
def z_most (i : Int) : Int := if i = 0 then 100 else if i = 1 then 9 else if i = 2 then 20 else if i = 3 then 50 else if i = 4 then 100 else 50
def f_X5_set_b25 (σ : zS) : Option (Int × zS) :=
  some ((-1), σ)
def f_X5_set_b10 (σ : zS) : Option (Int × zS) :=
  some ((-1), σ)
def f_X5_set (σ : zS) (x1 : Int) (x2 : Int) : Option (Int × zS) :=
  if zr x1 then
    if x1 < 0 then
      f_X5_set_b10 σ
    else
      if zr x1 then
        if x1 < 7 then
          if zr x2 then
            if x2 < 0 then
              f_X5_set_b25 σ
            else
              if 0 ≤ x1 ∧ x1 < 7 then
                if zr x2 ∧ zr (z_most x1) then
                  if x2 ≤ (z_most x1) then
                    z_bind (f_X1_keep 0 σ) fun _ σ1 =>
                    if 0 ≤ x1 ∧ x1 < 7 then
                      if 0 ≤ x1 ∧ x1 < 7 then z_put σ1 7 x1 x2 fun σ2 =>
                        some (σ1 7 x1, σ2)
                      else none
                    else none
                  else
                    f_X5_set_b25 σ
                else none
              else none
          else none
        else
          f_X5_set_b10 σ
      else none
  else none
def f_X5_loudness (σ : zS) : Option ((Int × Int) × zS) :=
  z_bind (f_X5_currentResult σ) fun _ σ1 =>
  if zr (σ1 54 2) then
    if ¬ (σ1 54 2) = 0 then
      z_bind (f_X3_sumOfLevels σ1) fun r3 σ2 =>
      if (σ2 54 2) ≠ 0 then some ((r3, σ2 54 2), σ2) else none
    else
      some ((0, 0), σ1)
  else none
def f_X5_share (σ : zS) : Option ((Int × Int) × zS) :=
  if zr (σ 0 1) then
    if ¬ (σ 0 1) = 0 then
      z_bind (f_X5_currentCuts σ) fun _ σ1 =>
      z_bind (f_X0_cutFrames σ1) fun r3 σ2 =>
      if (σ2 0 1) ≠ 0 then some (((σ 0 1) - r3, σ2 0 1), σ2) else none
    else
      some ((0, 0), σ)
  else none
