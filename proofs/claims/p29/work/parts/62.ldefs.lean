/-! THE LAW'S METHODS, by program out of the listing -/
def f_L_cell_b18 (E : yE) (σ : zS) (s0 : Int) : Option (Int × zS) :=
  some (s0, σ)
def f_L_cell (E : yE) (σ : zS) (x1 : Int) : Option (Int × zS) :=
  if zr x1 ∧ zr (e_L E : Int) then
    if (e_L E : Int) ≤ x1 then
      f_L_cell_b18 E σ (763049417 * (x1 + 3))
    else
      if 0 ≤ x1 ∧ x1 < (e_L E : Int) then
        f_L_cell_b18 E σ (y_v E x1)
      else none
  else none
def f_L_up (σ : zS) (x0 : Int) (x1 : Int) : Option (Int × zS) :=
  if zr (z_and x0 2147483647) ∧ zr x1 ∧ x1 ≠ 0 then
    some ((z_and x0 2147483647).tmod x1, σ)
  else none
def f_L_fails_b413 (σ : zS) (s0 : Int) : Option (Int × zS) :=
  if 0 ≤ s0 ∧ s0 ≤ 1 then some (s0, σ) else none
def f_L_fails_b412 (σ : zS) : Option (Int × zS) :=
  f_L_fails_b413 σ 0
def f_L_fails_b399 (σ : zS) (y1 : Int) : Option (Int × zS) :=
  z_bind (f_X5_fingerprint σ) fun r2 σ1 =>
  if r2 = y1 then
    if zr (0 : Int) then
      if ¬ (0 : Int) = 0 then
        f_L_fails_b412 σ1
      else
        f_L_fails_b413 σ1 1
    else none
  else none
def f_L_fails_b388 (σ : zS) (y1 : Int) (x3 : Int) : Option (Int × zS) :=
  if zr x3 then
    if 0 < x3 then
      f_L_fails_b399 σ y1
    else
      z_bind (f_X5_undo σ) fun r2 σ1 =>
      if zr r2 then
        if r2 < 0 then
          f_L_fails_b412 σ1
        else
          f_L_fails_b399 σ1 y1
      else none
  else none
def f_L_fails_b385 (σ : zS) (y1 : Int) (x3 : Int) (s0 : Int) (s1 : Int) : Option (Int × zS) :=
  if zr s0 ∧ zr s1 then
    if ¬ s0 = s1 then
      f_L_fails_b412 σ
    else
      f_L_fails_b388 σ y1 x3
  else none
def f_L_fails_b351 (σ : zS) (y1 : Int) (x3 : Int) (s0 : Int) : Option (Int × zS) :=
  if zr s0 then
    if s0 = 0 then
      f_L_fails_b412 σ
    else
      if zr x3 then
        if x3 = 200 then
          f_L_fails_b388 σ y1 x3
        else
          z_bind (f_X5_append σ 1 200) fun r2 σ1 =>
          if zr x3 then
            if ¬ x3 = 0 then
              f_L_fails_b385 σ1 y1 x3 r2 (-3)
            else
              f_L_fails_b385 σ1 y1 x3 r2 200
          else none
      else none
  else none
def f_L_fails_b350 (σ : zS) (y1 : Int) (x3 : Int) : Option (Int × zS) :=
  f_L_fails_b351 σ y1 x3 0
def f_L_fails_b185 (σ : zS) (y1 : Int) (x3 : Int) (x4 : Int) (s0 : Int) : Option (Int × zS) :=
  if zr s0 then
    if s0 = 0 then
      f_L_fails_b350 σ y1 x3
    else
      z_bind (f_X5_set σ 2 21) fun r2 σ1 =>
      if zr r2 then
        if ¬ r2 = (-1) then
          f_L_fails_b350 σ1 y1 x3
        else
          z_bind (f_X5_set σ1 5 51) fun r4 σ3 =>
          if zr r4 then
            if ¬ r4 = (-1) then
              f_L_fails_b350 σ3 y1 x3
            else
              z_bind (f_X5_setting σ3 9) fun r6 σ5 =>
              if zr r6 then
                if ¬ r6 = (-1) then
                  f_L_fails_b350 σ5 y1 x3
                else
                  z_bind (f_X5_about σ5 x4 0) fun r8 σ7 =>
                  if zr r8 then
                    if ¬ r8 = (-1) then
                      f_L_fails_b350 σ7 y1 x3
                    else
                      z_bind (f_X5_level σ7 x3) fun r10 σ9 =>
                      if zr r10 then
                        if ¬ r10 = (-1) then
                          f_L_fails_b350 σ9 y1 x3
                        else
                          z_bind (f_X5_level σ9 (-1)) fun r12 σ11 =>
                          if zr r12 then
                            if ¬ r12 = (-1) then
                              f_L_fails_b350 σ11 y1 x3
                            else
                              z_bind (f_X5_cuts σ11) fun r14 σ13 =>
                              z_bind (f_X5_cut σ13 r14 0) fun r16 σ15 =>
                              if zr r16 then
                                if ¬ r16 = (-1) then
                                  f_L_fails_b350 σ15 y1 x3
                                else
                                  z_bind (f_X5_cut σ15 0 5) fun r18 σ17 =>
                                  if zr r18 then
                                    if ¬ r18 = (-1) then
                                      f_L_fails_b350 σ17 y1 x3
                                    else
                                      z_bind (f_X5_sum σ17 3) fun r20 σ19 =>
                                      if zr r20 then
                                        if ¬ r20 = (-1) then
                                          f_L_fails_b350 σ19 y1 x3
                                        else
                                          z_bind (f_X5_greatestDoubt σ19 (-1)) fun r22 σ21 =>
                                          if zr r22 then
                                            if ¬ r22 = (-1) then
                                              f_L_fails_b350 σ21 y1 x3
                                            else
                                              z_bind (f_X5_length σ21) fun r24 σ23 =>
                                              z_bind (f_X5_heard σ23 r24 0) fun r26 σ25 =>
                                              if zr r26 then
                                                if ¬ r26 = (-1) then
                                                  f_L_fails_b350 σ25 y1 x3
                                                else
                                                  z_bind (f_X5_heard σ25 0 2) fun r28 σ27 =>
                                                  if zr r28 then
                                                    if ¬ r28 = (-1) then
                                                      f_L_fails_b350 σ27 y1 x3
                                                    else
                                                      z_bind (f_X5_where σ27 x3) fun r30 σ29 =>
                                                      if zr r30 then
                                                        if ¬ r30 = (-1) then
                                                          f_L_fails_b350 σ29 y1 x3
                                                        else
                                                          z_bind (f_X5_clicks σ29 10) fun r32 σ31 =>
                                                          if zr r32 then
                                                            if ¬ r32 = (-1) then
                                                              f_L_fails_b350 σ31 y1 x3
                                                            else
                                                              z_bind (f_X5_type σ31 31) fun r34 σ33 =>
                                                              if zr r34 then
                                                                if ¬ r34 = (-1) then
                                                                  f_L_fails_b350 σ33 y1 x3
                                                                else
                                                                  f_L_fails_b351 σ33 y1 x3 1
                                                              else none
                                                          else none
                                                      else none
                                                  else none
                                              else none
                                          else none
                                      else none
                                  else none
                              else none
                          else none
                      else none
                  else none
              else none
          else none
      else none
  else none
def f_L_fails_b184 (σ : zS) (y1 : Int) (x3 : Int) (x4 : Int) : Option (Int × zS) :=
  f_L_fails_b185 σ y1 x3 x4 0
def f_L_fails (σ : zS) : Option (Int × zS) :=
  z_bind (f_X5_fingerprint σ) fun r2 σ1 =>
  z_bind (f_X5_setting σ1 7) fun r4 σ3 =>
  z_bind (f_X5_setting σ3 8) fun r6 σ5 =>
  z_bind (f_X5_append σ5 10 1) fun r8 σ7 =>
  if zr r8 then
    if ¬ r8 = (-1) then
      f_L_fails_b184 σ7 r2 r4 r6
    else
      z_bind (f_X5_append σ7 0 0) fun r10 σ9 =>
      if zr r10 then
        if ¬ r10 = (-1) then
          f_L_fails_b184 σ9 r2 r4 r6
        else
          z_bind (f_X5_append σ9 0 201) fun r12 σ11 =>
          if zr r12 then
            if ¬ r12 = (-1) then
              f_L_fails_b184 σ11 r2 r4 r6
            else
              z_bind (f_X5_babble σ11 1 0) fun r14 σ13 =>
              if zr r14 then
                if ¬ r14 = (-1) then
                  f_L_fails_b184 σ13 r2 r4 r6
                else
                  z_bind (f_X5_mark σ13 4 0 1 0) fun r16 σ15 =>
                  if zr r16 then
                    if ¬ r16 = (-1) then
                      f_L_fails_b184 σ15 r2 r4 r6
                    else
                      z_bind (f_X5_mark σ15 0 (-1) 1 0) fun r18 σ17 =>
                      if zr r18 then
                        if ¬ r18 = (-1) then
                          f_L_fails_b184 σ17 r2 r4 r6
                        else
                          z_bind (f_X5_mark σ17 0 0 (r4 + 1) 0) fun r20 σ19 =>
                          if zr r20 then
                            if ¬ r20 = (-1) then
                              f_L_fails_b184 σ19 r2 r4 r6
                            else
                              z_bind (f_X5_mark σ19 0 0 0 0) fun r22 σ21 =>
                              if zr r22 then
                                if ¬ r22 = (-1) then
                                  f_L_fails_b184 σ21 r2 r4 r6
                                else
                                  z_bind (f_X5_mark σ21 0 0 1 101) fun r24 σ23 =>
                                  if zr r24 then
                                    if ¬ r24 = (-1) then
                                      f_L_fails_b184 σ23 r2 r4 r6
                                    else
                                      z_bind (f_X5_unmark σ23 r6) fun r26 σ25 =>
                                      if zr r26 then
                                        if ¬ r26 = (-1) then
                                          f_L_fails_b184 σ25 r2 r4 r6
                                        else
                                          z_bind (f_X5_hold σ25 r6 1) fun r28 σ27 =>
                                          if zr r28 then
                                            if ¬ r28 = (-1) then
                                              f_L_fails_b184 σ27 r2 r4 r6
                                            else
                                              z_bind (f_X5_set σ27 7 1) fun r30 σ29 =>
                                              if zr r30 then
                                                if ¬ r30 = (-1) then
                                                  f_L_fails_b184 σ29 r2 r4 r6
                                                else
                                                  z_bind (f_X5_set σ29 0 101) fun r32 σ31 =>
                                                  if zr r32 then
                                                    if ¬ r32 = (-1) then
                                                      f_L_fails_b184 σ31 r2 r4 r6
                                                    else
                                                      z_bind (f_X5_set σ31 1 10) fun r34 σ33 =>
                                                      if zr r34 then
                                                        if ¬ r34 = (-1) then
                                                          f_L_fails_b184 σ33 r2 r4 r6
                                                        else
                                                          f_L_fails_b185 σ33 r2 r4 r6 1
                                                      else none
                                                  else none
                                              else none
                                          else none
                                      else none
                                  else none
                              else none
                          else none
                      else none
                  else none
              else none
          else none
      else none
  else none
def f_L_cuts_b445 (σ : zS) (s0 : Int) : Option (Int × zS) :=
  if 0 ≤ s0 ∧ s0 ≤ 1 then some (s0, σ) else none
def f_L_cuts_b444 (σ : zS) : Option (Int × zS) :=
  f_L_cuts_b445 σ 0
def f_L_cuts_b345 (K21 : zS → Int → Int → Int → Int → Int → Int → Int → Option (Int × zS)) (σ : zS) (x1 : Int) (x4 : Int) (x5 : Int) (x6 : Int) (x7 : Int) (x8 : Int) (x9 : Int) (x10 : Int) : Option (Int × zS) :=
  z_bind (f_X5_cut σ x7 2) fun r2 σ1 =>
  z_bind (f_X5_cut σ1 x7 3) fun r4 σ3 =>
  K21 σ3 x1 x9 x10 (x4 + (x9 - x8)) (x5 + r2) (x6 + r4) (x7 + 1)
def f_L_cuts_b343 (σ : zS) : Option (Int × zS) :=
  some (0, σ)
def f_L_cuts_b257 (K21 : zS → Int → Int → Int → Int → Int → Int → Int → Option (Int × zS)) (σ : zS) (x1 : Int) (x4 : Int) (x5 : Int) (x6 : Int) (x7 : Int) (x8 : Int) (x9 : Int) (x10 : Int) (x11 : Int) (x12 : Int) (s0 : Int) : Option (Int × zS) :=
  if zr x9 ∧ zr x12 then
    if x12 < x9 then
      f_L_cuts_b343 σ
    else
      if zr x8 ∧ zr s0 then
        if x8 < s0 then
          f_L_cuts_b343 σ
        else
          z_bind (f_X5_cut σ x7 2) fun r2 σ1 =>
          z_bind (f_X5_setting σ1 3) fun r4 σ3 =>
          if zr r2 ∧ zr r4 then
            if r4 < r2 then
              f_L_cuts_b343 σ3
            else
              z_bind (f_X5_cut σ3 x7 2) fun r6 σ5 =>
              if zr r6 ∧ zr (x9 - x8) then
                if (x9 - x8) < r6 then
                  f_L_cuts_b343 σ5
                else
                  if zr x11 then
                    if ¬ x11 = 0 then
                      f_L_cuts_b345 K21 σ5 x1 x4 x5 x6 x7 x8 x9 x10
                    else
                      z_bind (f_X5_cut σ5 x7 3) fun r8 σ7 =>
                      if zr r8 then
                        if ¬ r8 = 0 then
                          f_L_cuts_b345 K21 σ7 x1 x4 x5 x6 x7 x8 x9 x10
                        else
                          z_bind (f_X5_level σ7 x8) fun r10 σ9 =>
                          z_bind (f_X5_setting σ9 1) fun r12 σ11 =>
                          if zr r10 ∧ zr r12 then
                            if r10 ≤ r12 then
                              f_L_cuts_b345 K21 σ11 x1 x4 x5 x6 x7 x8 x9 x10
                            else
                              z_bind (f_X5_setting σ11 7) fun r14 σ13 =>
                              if zr x8 ∧ zr r14 then
                                if r14 ≤ x8 then
                                  f_L_cuts_b345 K21 σ13 x1 x4 x5 x6 x7 x8 x9 x10
                                else
                                  f_L_cuts_b343 σ13
                              else none
                          else none
                      else none
                  else none
              else none
          else none
      else none
  else none
def f_L_cuts_b237 (K21 : zS → Int → Int → Int → Int → Int → Int → Int → Option (Int × zS)) (σ : zS) (x1 : Int) (x4 : Int) (x5 : Int) (x6 : Int) (x7 : Int) (x8 : Int) (x9 : Int) (x10 : Int) (x11 : Int) (s0 : Int) : Option (Int × zS) :=
  if zr x10 then
    if x10 ≤ 0 then
      f_L_cuts_b257 K21 σ x1 x4 x5 x6 x7 x8 x9 x10 x11 s0 0
    else
      z_bind (f_X5_about σ (x10 - 1) 2) fun r2 σ1 =>
      f_L_cuts_b257 K21 σ1 x1 x4 x5 x6 x7 x8 x9 x10 x11 s0 r2
  else none
def f_L_cuts_b206 (K21 : zS → Int → Int → Int → Int → Int → Int → Int → Option (Int × zS)) (σ : zS) (x1 : Int) (x4 : Int) (x5 : Int) (x6 : Int) (x7 : Int) (x8 : Int) (x9 : Int) (x10 : Int) (x11 : Int) : Option (Int × zS) :=
  z_bind (f_X5_setting σ 8) fun r2 σ1 =>
  if zr (x10 + 1) ∧ zr r2 then
    if r2 ≤ (x10 + 1) then
      z_bind (f_X5_setting σ1 7) fun r4 σ3 =>
      f_L_cuts_b237 K21 σ3 x1 x4 x5 x6 x7 x8 x9 x10 x11 r4
    else
      z_bind (f_X5_about σ1 (x10 + 1) 1) fun r6 σ5 =>
      f_L_cuts_b237 K21 σ5 x1 x4 x5 x6 x7 x8 x9 x10 x11 r6
  else none
def f_L_cuts_b204 (σ : zS) : Option (Int × zS) :=
  some (0, σ)
def f_L_cuts_b154 (K21 : zS → Int → Int → Int → Int → Int → Int → Int → Option (Int × zS)) (σ : zS) (x1 : Int) (x4 : Int) (x5 : Int) (x6 : Int) (x7 : Int) (x8 : Int) (x9 : Int) (x10 : Int) (x11 : Int) : Option (Int × zS) :=
  if zr x11 then
    if ¬ x11 = 1 then
      f_L_cuts_b206 K21 σ x1 x4 x5 x6 x7 x8 x9 x10 x11
    else
      z_bind (f_X5_cut σ x7 2) fun r2 σ1 =>
      if zr r2 then
        if ¬ r2 = 0 then
          f_L_cuts_b204 σ1
        else
          z_bind (f_X5_cut σ1 x7 3) fun r4 σ3 =>
          if zr r4 then
            if ¬ r4 = 0 then
              f_L_cuts_b204 σ3
            else
              z_bind (f_X5_about σ3 x10 1) fun r6 σ5 =>
              if zr x8 ∧ zr r6 then
                if x8 < r6 then
                  f_L_cuts_b204 σ5
                else
                  z_bind (f_X5_about σ5 x10 2) fun r8 σ7 =>
                  if zr x9 ∧ zr r8 then
                    if x9 ≤ r8 then
                      f_L_cuts_b206 K21 σ7 x1 x4 x5 x6 x7 x8 x9 x10 x11
                    else
                      f_L_cuts_b204 σ7
                  else none
              else none
          else none
      else none
  else none
def f_L_cuts_b87 (K21 : zS → Int → Int → Int → Int → Int → Int → Int → Option (Int × zS)) (σ : zS) (x1 : Int) (x4 : Int) (x5 : Int) (x6 : Int) (x7 : Int) (x8 : Int) (x9 : Int) (x10 : Int) (x11 : Int) : Option (Int × zS) :=
  if zr x9 ∧ zr x8 then
    if x9 < x8 then
      f_L_cuts_b204 σ
    else
      z_bind (f_X5_setting σ 7) fun r2 σ1 =>
      if zr x9 ∧ zr r2 then
        if r2 < x9 then
          f_L_cuts_b204 σ1
        else
          z_bind (f_X5_about σ1 x10 5) fun r4 σ3 =>
          if zr r4 ∧ zr x7 then
            if ¬ r4 = x7 then
              f_L_cuts_b204 σ3
            else
              if zr x11 then
                if 1 < x11 then
                  f_L_cuts_b204 σ3
                else
                  z_bind (f_X5_about σ3 x10 4) fun r6 σ5 =>
                  if zr r6 then
                    if r6 = 1 then
                      f_L_cuts_b204 σ5
                    else
                      if zr x11 then
                        if ¬ x11 = 0 then
                          f_L_cuts_b154 K21 σ5 x1 x4 x5 x6 x7 x8 x9 x10 x11
                        else
                          z_bind (f_X5_about σ5 x10 3) fun r8 σ7 =>
                          z_bind (f_X5_setting σ7 0) fun r10 σ9 =>
                          if zr r8 ∧ zr r10 then
                            if r10 < r8 then
                              f_L_cuts_b204 σ9
                            else
                              f_L_cuts_b154 K21 σ9 x1 x4 x5 x6 x7 x8 x9 x10 x11
                          else none
                      else none
                  else none
              else none
          else none
      else none
  else none
def f_L_cuts_b21 (K21 : zS → Int → Int → Int → Int → Int → Int → Int → Option (Int × zS)) (σ : zS) (x1 : Int) (x2 : Int) (x3 : Int) (x4 : Int) (x5 : Int) (x6 : Int) (x7 : Int) : Option (Int × zS) :=
  if zr x7 ∧ zr x1 then
    if x1 ≤ x7 then
      z_bind (f_X5_sum σ 0) fun r2 σ1 =>
      if zr r2 ∧ zr x4 then
        if ¬ r2 = x4 then
          f_L_cuts_b444 σ1
        else
          z_bind (f_X5_sum σ1 1) fun r4 σ3 =>
          if zr r4 ∧ zr x5 then
            if ¬ r4 = x5 then
              f_L_cuts_b444 σ3
            else
              z_bind (f_X5_sum σ3 2) fun r6 σ5 =>
              if zr r6 ∧ zr x6 then
                if ¬ r6 = x6 then
                  f_L_cuts_b444 σ5
                else
                  z_bind (f_X5_length σ5) fun r8 σ7 =>
                  z_bind (f_X5_setting σ7 7) fun r10 σ9 =>
                  if zr r8 ∧ zr ((r10 - x4) + x5) then
                    if ¬ r8 = ((r10 - x4) + x5) then
                      f_L_cuts_b444 σ9
                    else
                      f_L_cuts_b445 σ9 1
                  else none
              else none
          else none
      else none
    else
      z_bind (f_X5_cut σ x7 0) fun r12 σ11 =>
      z_bind (f_X5_cut σ11 x7 1) fun r14 σ13 =>
      z_bind (f_X5_cut σ13 x7 4) fun r16 σ15 =>
      z_bind (f_X5_about σ15 r16 0) fun r18 σ17 =>
      if zr r16 ∧ zr x3 then
        if r16 ≤ x3 then
          f_L_cuts_b204 σ17
        else
          if zr r12 ∧ zr x2 then
            if r12 < x2 then
              f_L_cuts_b204 σ17
            else
              if zr r14 ∧ zr r12 then
                if r12 < r14 then
                  f_L_cuts_b87 K21 σ17 x1 x4 x5 x6 x7 r12 r14 r16 r18
                else
                  if zr r18 then
                    if r18 = 0 then
                      f_L_cuts_b204 σ17
                    else
                      f_L_cuts_b87 K21 σ17 x1 x4 x5 x6 x7 r12 r14 r16 r18
                  else none
              else none
          else none
      else none
  else none
def f_L_cuts_l21 : Nat → zS → Int → Int → Int → Int → Int → Int → Int → Option (Int × zS)
  | 0, _, _, _, _, _, _, _, _ => none
  | n + 1, σ, x1, x2, x3, x4, x5, x6, x7 => f_L_cuts_b21 (f_L_cuts_l21 n) σ x1 x2 x3 x4 x5 x6 x7
def f_L_cuts (σ : zS) : Option (Int × zS) :=
  z_bind (f_X5_cuts σ) fun r2 σ1 =>
  f_L_cuts_l21 z_fuel σ1 r2 0 (-1) 0 0 0 0
def f_L_result_b323 (σ : zS) (s0 : Int) : Option (Int × zS) :=
  if 0 ≤ s0 ∧ s0 ≤ 1 then some (s0, σ) else none
def f_L_result_b322 (σ : zS) : Option (Int × zS) :=
  f_L_result_b323 σ 0
def f_L_result_b307 (σ : zS) (x1 : Int) (s0 : Int) (s1 : Int) : Option (Int × zS) :=
  if zr s0 ∧ zr s1 then
    if s1 ≤ s0 then
      f_L_result_b322 σ
    else
      z_bind (f_X5_silence σ) fun r2 σ1 =>
      if zr r2 ∧ zr x1 then
        if x1 < r2 then
          f_L_result_b322 σ1
        else
          f_L_result_b323 σ1 1
      else none
  else none
def f_L_result_b243 (σ : zS) (x1 : Int) (x3 : Int) (x6 : Int) (q7 : Int × Int) (p0 : Int × Int) : Option (Int × zS) :=
  z_bind (f_X5_sum σ 1) fun r2 σ1 =>
  if zr x3 ∧ zr r2 then
    if ¬ x3 = r2 then
      f_L_result_b322 σ1
    else
      z_bind (f_X5_sum σ1 0) fun r4 σ3 =>
      if zr x6 ∧ zr r4 then
        if ¬ x6 = r4 then
          f_L_result_b322 σ3
        else
          z_bind (f_X5_loudness σ3) fun r6 σ5 =>
          if r6 = q7 ∧ zr r6.2 then
            if zr (0 : Int) then
              if ¬ (0 : Int) = 0 then
                f_L_result_b322 σ5
              else
                z_bind (f_X5_share σ5) fun r8 σ7 =>
                if r8 = p0 ∧ zr r8.2 then
                  if zr (0 : Int) then
                    if ¬ (0 : Int) = 0 then
                      f_L_result_b322 σ7
                    else
                      z_bind (f_X5_clicks σ7 9) fun r10 σ9 =>
                      if zr r10 then
                        if ¬ r10 = 0 then
                          f_L_result_b322 σ9
                        else
                          z_bind (f_X5_clicks σ9 0) fun r12 σ11 =>
                          if zr x1 then
                            if ¬ x1 = 0 then
                              f_L_result_b307 σ11 x1 r12 x1
                            else
                              f_L_result_b307 σ11 x1 r12 1
                          else none
                      else none
                  else none
                else none
            else none
          else none
      else none
  else none
def f_L_result_b217 (σ : zS) (x1 : Int) (x3 : Int) (x5 : Int) (x6 : Int) (p0 : Int × Int) : Option (Int × zS) :=
  z_bind (f_X5_setting σ 7) fun r2 σ1 =>
  if zr r2 then
    if ¬ r2 = 0 then
      z_bind (f_X5_setting σ1 7) fun r4 σ3 =>
      if r4 ≠ 0 then
        f_L_result_b243 σ3 x1 x3 x6 p0 (x5, r4)
      else none
    else
      f_L_result_b243 σ1 x1 x3 x6 p0 (0, 0)
  else none
def f_L_result_b194 (K167 : zS → Int → Int → Int → Int → Int → Int → Option (Int × zS)) (σ : zS) (x1 : Int) (x3 : Int) (x4 : Int) (x5 : Int) (x7 : Int) (s0 : Int) (s1 : Int) : Option (Int × zS) :=
  K167 σ x1 x3 x4 x5 (s0 + s1) (x7 + 1)
def f_L_result_b167 (K167 : zS → Int → Int → Int → Int → Int → Int → Option (Int × zS)) (σ : zS) (x1 : Int) (x3 : Int) (x4 : Int) (x5 : Int) (x6 : Int) (x7 : Int) : Option (Int × zS) :=
  z_bind (f_X5_setting σ 7) fun r2 σ1 =>
  if zr x7 ∧ zr r2 then
    if r2 ≤ x7 then
      if zr x1 then
        if ¬ x1 = 0 then
          if x1 ≠ 0 then
            f_L_result_b217 σ1 x1 x3 x5 x6 (x4, x1)
          else none
        else
          f_L_result_b217 σ1 x1 x3 x5 x6 (0, 0)
      else none
    else
      z_bind (f_X5_where σ1 x7) fun r4 σ3 =>
      if zr r4 then
        if 0 ≤ r4 then
          f_L_result_b194 K167 σ3 x1 x3 x4 x5 x7 x6 0
        else
          f_L_result_b194 K167 σ3 x1 x3 x4 x5 x7 x6 1
      else none
  else none
def f_L_result_l167 : Nat → zS → Int → Int → Int → Int → Int → Int → Option (Int × zS)
  | 0, _, _, _, _, _, _, _ => none
  | n + 1, σ, x1, x3, x4, x5, x6, x7 => f_L_result_b167 (f_L_result_l167 n) σ x1 x3 x4 x5 x6 x7
def f_L_result_b148 (K18 : zS → Int → Int → Int → Int → Int → Int → Option (Int × zS)) (σ : zS) (x1 : Int) (x2 : Int) (x3 : Int) (x4 : Int) (x5 : Int) (x6 : Int) (x8 : Int) : Option (Int × zS) :=
  K18 σ x1 x2 x3 (x4 + x8) x5 (x6 + 1)
def f_L_result_b146 (σ : zS) : Option (Int × zS) :=
  some (0, σ)
def f_L_result_b91 (σ : zS) : Option (Int × zS) :=
  some (0, σ)
def f_L_result_b18 (K18 : zS → Int → Int → Int → Int → Int → Int → Option (Int × zS)) (σ : zS) (x1 : Int) (x2 : Int) (x3 : Int) (x4 : Int) (x5 : Int) (x6 : Int) : Option (Int × zS) :=
  if zr x6 ∧ zr x1 then
    if x1 ≤ x6 then
      f_L_result_l167 z_fuel σ x1 x3 x4 x5 0 0
    else
      z_bind (f_X5_heard σ x6 0) fun r2 σ1 =>
      z_bind (f_X5_heard σ1 x6 1) fun r4 σ3 =>
      if zr r2 then
        if 1000 ≤ r2 then
          if zr r2 then
            if ¬ r2 = 2000 then
              if zr r2 then
                if 1199 < r2 then
                  f_L_result_b146 σ3
                else
                  z_bind (f_X5_level σ3 (r2 - 1000)) fun r6 σ5 =>
                  if zr r4 ∧ zr r6 then
                    if r4 = r6 then
                      f_L_result_b148 K18 σ5 x1 x2 (x3 + 1) x4 x5 x6 r4
                    else
                      f_L_result_b146 σ5
                  else none
              else none
            else
              if zr r4 then
                if r4 = 0 then
                  f_L_result_b148 K18 σ3 x1 x2 (x3 + 1) x4 x5 x6 r4
                else
                  f_L_result_b146 σ3
              else none
          else none
        else
          if zr r2 ∧ zr x2 then
            if r2 < x2 then
              f_L_result_b91 σ3
            else
              z_bind (f_X5_where σ3 r2) fun r8 σ7 =>
              if zr r8 ∧ zr x6 then
                if ¬ r8 = x6 then
                  f_L_result_b91 σ7
                else
                  z_bind (f_X5_level σ7 r2) fun r10 σ9 =>
                  if zr r4 ∧ zr r10 then
                    if r10 < r4 then
                      f_L_result_b91 σ9
                    else
                      z_bind (f_X5_level σ9 r2) fun r12 σ11 =>
                      if zr r12 ∧ zr 2 ∧ (2 : Int) ≠ 0 then
                        if zr r4 ∧ zr (r12.tdiv 2) then
                          if (r12.tdiv 2) ≤ r4 then
                            f_L_result_b148 K18 σ11 x1 (r2 + 1) x3 x4 (x5 + 1) x6 r4
                          else
                            f_L_result_b91 σ11
                        else none
                      else none
                  else none
              else none
          else none
      else none
  else none
def f_L_result_l18 : Nat → zS → Int → Int → Int → Int → Int → Int → Option (Int × zS)
  | 0, _, _, _, _, _, _, _ => none
  | n + 1, σ, x1, x2, x3, x4, x5, x6 => f_L_result_b18 (f_L_result_l18 n) σ x1 x2 x3 x4 x5 x6
def f_L_result (σ : zS) : Option (Int × zS) :=
  z_bind (f_X5_length σ) fun r2 σ1 =>
  f_L_result_l18 z_fuel σ1 r2 0 0 0 0 0
def f_L_asks_b164 (σ : zS) (s0 : Int) : Option (Int × zS) :=
  if 0 ≤ s0 ∧ s0 ≤ 1 then some (s0, σ) else none
def f_L_asks_b163 (σ : zS) : Option (Int × zS) :=
  f_L_asks_b164 σ 0
def f_L_asks_b150 (σ : zS) (y2 : Int) : Option (Int × zS) :=
  z_bind (f_X5_fingerprint σ) fun r2 σ1 =>
  if r2 = y2 then
    if zr (0 : Int) then
      if ¬ (0 : Int) = 0 then
        f_L_asks_b163 σ1
      else
        f_L_asks_b164 σ1 1
    else none
  else none
def f_L_asks_b108 (σ : zS) : Option (Int × zS) :=
  some (0, σ)
def f_L_asks_b70 (σ : zS) (x1 : Int) (y2 : Int) (x4 : Int) (x5 : Int) (x6 : Int) (x7 : Int) : Option (Int × zS) :=
  z_bind (f_X5_fingerprint σ) fun r2 σ1 =>
  if r2 = y2 then
    if zr (0 : Int) then
      if ¬ (0 : Int) = 0 then
        f_L_asks_b108 σ1
      else
        z_bind (f_X5_set σ1 2 x4) fun r4 σ3 =>
        if zr r4 ∧ zr x7 then
          if ¬ r4 = x7 then
            f_L_asks_b108 σ3
          else
            z_bind (f_X5_sum σ3 2) fun r6 σ5 =>
            if zr r6 ∧ zr x6 then
              if x6 < r6 then
                f_L_asks_b108 σ5
              else
                z_bind (f_X5_undo σ5) fun r8 σ7 =>
                if zr r8 then
                  if 0 ≤ r8 then
                    z_bind (f_X5_setting σ7 0) fun r10 σ9 =>
                    if zr x5 then
                      if x5 < 0 then
                        f_L_asks_b150 σ9 y2
                      else
                        z_bind (f_X5_set σ9 0 x5) fun r12 σ11 =>
                        if zr r12 ∧ zr r10 then
                          if ¬ r12 = r10 then
                            f_L_asks_b163 σ11
                          else
                            z_bind (f_X5_sum σ11 0) fun r14 σ13 =>
                            if zr r14 ∧ zr x1 then
                              if x1 < r14 then
                                f_L_asks_b163 σ13
                              else
                                z_bind (f_X5_undo σ13) fun r16 σ15 =>
                                if zr r16 then
                                  if r16 < 0 then
                                    f_L_asks_b163 σ15
                                  else
                                    f_L_asks_b150 σ15 y2
                                else none
                            else none
                        else none
                    else none
                  else
                    f_L_asks_b108 σ7
                else none
            else none
        else none
    else none
  else none
def f_L_asks (σ : zS) (x1 : Int) : Option (Int × zS) :=
  z_bind (f_X5_fingerprint σ) fun r2 σ1 =>
  z_bind (f_X5_bestWindow σ1) fun r4 σ3 =>
  z_bind (f_X5_greatestDoubt σ3 x1) fun r6 σ5 =>
  z_bind (f_X5_sum σ5 2) fun r8 σ7 =>
  z_bind (f_X5_setting σ7 2) fun r10 σ9 =>
  if zr r4 then
    if r4 < 0 then
      f_L_asks_b108 σ9
    else
      if zr r4 then
        if 20 < r4 then
          f_L_asks_b108 σ9
        else
          if zr r6 then
            if 100 < r6 then
              f_L_asks_b108 σ9
            else
              if zr r6 then
                if r6 < (-9) then
                  f_L_asks_b108 σ9
                else
                  if zr r6 then
                    if 0 ≤ r6 then
                      f_L_asks_b70 σ9 x1 r2 r4 r6 r8 r10
                    else
                      if zr r6 then
                        if ¬ r6 = (-9) then
                          f_L_asks_b108 σ9
                        else
                          f_L_asks_b70 σ9 x1 r2 r4 r6 r8 r10
                      else none
                  else none
              else none
          else none
      else none
  else none
def f_L_law_b757 (E : yE) (K567 : zS → Int → Option (Unit × zS)) (σ : zS) (x4 : Int) : Option (Unit × zS) :=
  K567 σ (x4 + 1)
def f_L_law_b755 (E : yE) (σ : zS) : Option (Unit × zS) :=
  none
def f_L_law_b747 (E : yE) (K567 : zS → Int → Option (Unit × zS)) (σ : zS) (x4 : Int) (x8 : Int) (s1 : Int) (s2 : Int) : Option (Unit × zS) :=
  z_bind (f_X5_hold σ s1 s2) fun r2 σ1 =>
  if zr r2 ∧ zr x8 then
    if r2 = x8 then
      f_L_law_b757 E K567 σ1 x4
    else
      f_L_law_b755 E σ1
  else none
def f_L_law_b707 (E : yE) (σ : zS) : Option (Unit × zS) :=
  none
def f_L_law_b675 (E : yE) (K567 : zS → Int → Option (Unit × zS)) (σ : zS) (x4 : Int) (x5 : Int) (x6 : Int) (x7 : Int) (x8 : Int) (y9 : Int) (s1 : Int) (s2 : Int) : Option (Unit × zS) :=
  z_bind (f_X5_hold σ s1 s2) fun r2 σ1 =>
  if zr r2 ∧ zr x8 then
    if ¬ r2 = x8 then
      f_L_law_b707 E σ1
    else
      z_bind (f_L_cuts σ1) fun r4 σ3 =>
      if zr r4 then
        if r4 = 0 then
          f_L_law_b707 E σ3
        else
          z_bind (f_X5_undo σ3) fun r6 σ5 =>
          if zr r6 then
            if r6 < 0 then
              f_L_law_b707 E σ5
            else
              z_bind (f_X5_fingerprint σ5) fun r8 σ7 =>
              if r8 = y9 then
                if zr (0 : Int) then
                  if (0 : Int) = 0 then
                    if zr (z_and x6 512) then
                      if (z_and x6 512) = 0 then
                        if zr x8 then
                          if ¬ x8 = 0 then
                            f_L_law_b747 E K567 σ7 x4 x8 x7 0
                          else
                            f_L_law_b747 E K567 σ7 x4 x8 x7 1
                        else none
                      else
                        z_bind (f_X5_unmark σ7 x7) fun r10 σ9 =>
                        if zr r10 ∧ zr (x5 - 1) then
                          if r10 = (x5 - 1) then
                            f_L_law_b757 E K567 σ9 x4
                          else
                            f_L_law_b755 E σ9
                        else none
                    else none
                  else
                    f_L_law_b707 E σ7
                else none
              else none
          else none
      else none
  else none
def f_L_law_b608 (E : yE) (σ : zS) : Option (Unit × zS) :=
  none
def f_L_law_b567 (E : yE) (K567 : zS → Int → Option (Unit × zS)) (σ : zS) (x4 : Int) : Option (Unit × zS) :=
  if zr x4 then
    if 4 ≤ x4 then
      z_bind (f_L_fails σ) fun r2 σ1 =>
      if r2 = 1 then some ((), σ1) else none
    else
      z_bind (f_L_cuts σ) fun r4 σ3 =>
      if zr r4 then
        if r4 = 0 then
          f_L_law_b608 E σ3
        else
          z_bind (f_L_result σ3) fun r6 σ5 =>
          if zr r6 then
            if r6 = 0 then
              f_L_law_b608 E σ5
            else
              z_bind (f_L_cell E σ5 (20 + x4)) fun r8 σ7 =>
              z_bind (f_L_up σ7 r8 60) fun r10 σ9 =>
              z_bind (f_L_asks σ9 r10) fun r12 σ11 =>
              if zr r12 then
                if ¬ r12 = 0 then
                  z_bind (f_X5_setting σ11 8) fun r14 σ13 =>
                  z_bind (f_L_cell E σ13 (24 + x4)) fun r16 σ15 =>
                  if zr r14 then
                    if r14 ≤ 0 then
                      f_L_law_b757 E K567 σ15 x4
                    else
                      z_bind (f_L_up σ15 r16 r14) fun r18 σ17 =>
                      z_bind (f_X5_about σ17 r18 4) fun r20 σ19 =>
                      z_bind (f_X5_fingerprint σ19) fun r22 σ21 =>
                      if zr (z_and r16 256) then
                        if (z_and r16 256) = 0 then
                          f_L_law_b675 E K567 σ21 x4 r14 r16 r18 r20 r22 r18 0
                        else
                          f_L_law_b675 E K567 σ21 x4 r14 r16 r18 r20 r22 r18 1
                      else none
                  else none
                else
                  f_L_law_b608 E σ11
              else none
          else none
      else none
  else none
def f_L_law_l567 (E : yE) : Nat → zS → Int → Option (Unit × zS)
  | 0, _, _ => none
  | n + 1, σ, x4 => f_L_law_b567 E (f_L_law_l567 E n) σ x4
def f_L_law_b558 (E : yE) (K317 : zS → Int → Int → Option (Unit × zS)) (σ : zS) (x3 : Int) (x4 : Int) : Option (Unit × zS) :=
  K317 σ x3 (x4 + 1)
def f_L_law_b556 (E : yE) (σ : zS) : Option (Unit × zS) :=
  none
def f_L_law_b511 (E : yE) (K317 : zS → Int → Int → Option (Unit × zS)) (σ : zS) (x3 : Int) (x4 : Int) (x6 : Int) (x7 : Int) (x8 : Int) (x12 : Int) (s0 : Int) (s1 : Int) : Option (Unit × zS) :=
  if zr s0 ∧ zr s1 then
    if ¬ s0 = s1 then
      f_L_law_b556 E σ
    else
      if zr x12 then
        if x12 < 0 then
          f_L_law_b558 E K317 σ x3 x4
        else
          z_bind (f_X5_about σ x12 1) fun r2 σ1 =>
          if zr r2 ∧ zr x6 then
            if ¬ r2 = x6 then
              f_L_law_b556 E σ1
            else
              z_bind (f_X5_about σ1 x12 2) fun r4 σ3 =>
              if zr r4 ∧ zr x7 then
                if ¬ r4 = x7 then
                  f_L_law_b556 E σ3
                else
                  z_bind (f_X5_setting σ3 8) fun r6 σ5 =>
                  if zr r6 ∧ zr (x8 + 1) then
                    if r6 = (x8 + 1) then
                      f_L_law_b558 E K317 σ5 x3 x4
                    else
                      f_L_law_b556 E σ5
                  else none
              else none
          else none
      else none
  else none
def f_L_law_b453 (E : yE) (K317 : zS → Int → Int → Option (Unit × zS)) (K391 : zS → Int → Int → Int → Int → Int → Int → Int → Int → Int → Int → Option (Unit × zS)) (σ : zS) (x3 : Int) (x4 : Int) (x5 : Int) (x6 : Int) (x7 : Int) (x8 : Int) (x9 : Int) (x10 : Int) (x12 : Int) (s0 : Int) (s1 : Int) : Option (Unit × zS) :=
  K391 σ x3 x4 x5 x6 x7 x8 x9 x10 (s0 + s1) (x12 + 1)
def f_L_law_b432 (E : yE) (K317 : zS → Int → Int → Option (Unit × zS)) (K391 : zS → Int → Int → Int → Int → Int → Int → Int → Int → Int → Int → Option (Unit × zS)) (σ : zS) (x3 : Int) (x4 : Int) (x5 : Int) (x6 : Int) (x7 : Int) (x8 : Int) (x9 : Int) (x11 : Int) (x12 : Int) (s0 : Int) : Option (Unit × zS) :=
  z_bind (f_X5_about σ x12 1) fun r2 σ1 =>
  if zr r2 ∧ zr x6 then
    if x6 ≤ r2 then
      f_L_law_b453 E K317 K391 σ1 x3 x4 x5 x6 x7 x8 x9 s0 x12 x11 0
    else
      f_L_law_b453 E K317 K391 σ1 x3 x4 x5 x6 x7 x8 x9 s0 x12 x11 1
  else none
def f_L_law_b431 (E : yE) (K317 : zS → Int → Int → Option (Unit × zS)) (K391 : zS → Int → Int → Int → Int → Int → Int → Int → Int → Int → Int → Option (Unit × zS)) (σ : zS) (x3 : Int) (x4 : Int) (x5 : Int) (x6 : Int) (x7 : Int) (x8 : Int) (x9 : Int) (x11 : Int) (x12 : Int) : Option (Unit × zS) :=
  f_L_law_b432 E K317 K391 σ x3 x4 x5 x6 x7 x8 x9 x11 x12 0
def f_L_law_b427 (E : yE) (K317 : zS → Int → Int → Option (Unit × zS)) (K391 : zS → Int → Int → Int → Int → Int → Int → Int → Int → Int → Int → Option (Unit × zS)) (σ : zS) (x3 : Int) (x4 : Int) (x5 : Int) (x6 : Int) (x7 : Int) (x8 : Int) (x9 : Int) (x11 : Int) (x12 : Int) : Option (Unit × zS) :=
  f_L_law_b432 E K317 K391 σ x3 x4 x5 x6 x7 x8 x9 x11 x12 1
def f_L_law_b391 (E : yE) (K317 : zS → Int → Int → Option (Unit × zS)) (K391 : zS → Int → Int → Int → Int → Int → Int → Int → Int → Int → Int → Option (Unit × zS)) (σ : zS) (x3 : Int) (x4 : Int) (x5 : Int) (x6 : Int) (x7 : Int) (x8 : Int) (x9 : Int) (x10 : Int) (x11 : Int) (x12 : Int) : Option (Unit × zS) :=
  if zr x12 ∧ zr x8 then
    if x8 ≤ x12 then
      z_bind (f_L_up σ x5 4) fun r2 σ1 =>
      z_bind (f_L_up σ1 (z_shr x5 14) 101) fun r4 σ3 =>
      z_bind (f_X5_mark σ3 r2 x6 x7 r4) fun r6 σ5 =>
      if zr x9 then
        if ¬ x9 = 0 then
          if zr x10 then
            if ¬ x10 = 0 then
              f_L_law_b511 E K317 σ5 x3 x4 x6 x7 x8 r6 r6 x11
            else
              f_L_law_b511 E K317 σ5 x3 x4 x6 x7 x8 r6 r6 (-2)
          else none
        else
          f_L_law_b511 E K317 σ5 x3 x4 x6 x7 x8 r6 r6 (-1)
      else none
    else
      if zr x10 then
        if x10 = 0 then
          f_L_law_b431 E K317 K391 σ x3 x4 x5 x6 x7 x8 x9 x11 x12
        else
          z_bind (f_X5_about σ x12 1) fun r8 σ7 =>
          if zr r8 ∧ zr x7 then
            if x7 ≤ r8 then
              f_L_law_b427 E K317 K391 σ7 x3 x4 x5 x6 x7 x8 x9 x11 x12
            else
              z_bind (f_X5_about σ7 x12 2) fun r10 σ9 =>
              if zr r10 ∧ zr x6 then
                if x6 < r10 then
                  f_L_law_b431 E K317 K391 σ9 x3 x4 x5 x6 x7 x8 x9 x11 x12
                else
                  f_L_law_b427 E K317 K391 σ9 x3 x4 x5 x6 x7 x8 x9 x11 x12
              else none
          else none
      else none
  else none
def f_L_law_l391 (E : yE) (K317 : zS → Int → Int → Option (Unit × zS)) : Nat → zS → Int → Int → Int → Int → Int → Int → Int → Int → Int → Int → Option (Unit × zS)
  | 0, _, _, _, _, _, _, _, _, _, _, _ => none
  | n + 1, σ, x3, x4, x5, x6, x7, x8, x9, x10, x11, x12 => f_L_law_b391 E K317 (f_L_law_l391 E K317 n) σ x3 x4 x5 x6 x7 x8 x9 x10 x11 x12
def f_L_law_b380 (E : yE) (K317 : zS → Int → Int → Option (Unit × zS)) (σ : zS) (x3 : Int) (x4 : Int) (x5 : Int) (x6 : Int) (x7 : Int) (x8 : Int) (s0 : Int) : Option (Unit × zS) :=
  f_L_law_l391 E K317 z_fuel σ x3 x4 x5 x6 x7 x8 s0 1 0 0
def f_L_law_b317 (E : yE) (K317 : zS → Int → Int → Option (Unit × zS)) (σ : zS) (x3 : Int) (x4 : Int) : Option (Unit × zS) :=
  if zr x4 then
    if 16 ≤ x4 then
      f_L_law_l567 E z_fuel σ 0
    else
      z_bind (f_L_cell E σ (4 + x4)) fun r2 σ1 =>
      z_bind (f_L_up σ1 (z_shr r2 2) x3) fun r4 σ3 =>
      z_bind (f_L_up σ3 (z_shr r2 10) 9) fun r6 σ5 =>
      z_bind (f_X5_setting σ5 8) fun r8 σ7 =>
      if zr ((r4 + 1) + r6) ∧ zr x3 then
        if x3 < ((r4 + 1) + r6) then
          f_L_law_b380 E K317 σ7 x3 x4 r2 r4 ((r4 + 1) + r6) r8 0
        else
          f_L_law_b380 E K317 σ7 x3 x4 r2 r4 ((r4 + 1) + r6) r8 1
      else none
  else none
def f_L_law_l317 (E : yE) : Nat → zS → Int → Int → Option (Unit × zS)
  | 0, _, _, _ => none
  | n + 1, σ, x3, x4 => f_L_law_b317 E (f_L_law_l317 E n) σ x3 x4
def f_L_law_b312 (E : yE) (σ : zS) : Option (Unit × zS) :=
  none
def f_L_law_b172 (E : yE) (σ : zS) : Option (Unit × zS) :=
  none
def f_L_law_b80 (E : yE) (σ : zS) : Option (Unit × zS) :=
  none
def f_L_law (E : yE) (σ : zS) : Option (Unit × zS) :=
  z_bind (f_X5_undo σ) fun r2 σ1 =>
  if zr r2 then
    if ¬ r2 = (-9) then
      f_L_law_b80 E σ1
    else
      z_bind (f_X5_length σ1) fun r4 σ3 =>
      if zr r4 then
        if ¬ r4 = 0 then
          f_L_law_b80 E σ3
        else
          z_bind (f_X5_cuts σ3) fun r6 σ5 =>
          if zr r6 then
            if ¬ r6 = 0 then
              f_L_law_b80 E σ5
            else
              z_bind (f_X5_loudness σ5) fun r8 σ7 =>
              if r8 = (0, 0) ∧ zr r8.2 then
                if zr (0 : Int) then
                  if ¬ (0 : Int) = 0 then
                    f_L_law_b80 E σ7
                  else
                    z_bind (f_X5_share σ7) fun r10 σ9 =>
                    if r10 = (0, 0) ∧ zr r10.2 then
                      if zr (0 : Int) then
                        if ¬ (0 : Int) = 0 then
                          f_L_law_b80 E σ9
                        else
                          z_bind (f_X5_silence σ9) fun r12 σ11 =>
                          if zr r12 then
                            if ¬ r12 = 0 then
                              f_L_law_b80 E σ11
                            else
                              z_bind (f_X5_bestWindow σ11) fun r14 σ13 =>
                              if zr r14 then
                                if ¬ r14 = 0 then
                                  f_L_law_b80 E σ13
                                else
                                  z_bind (f_X5_greatestDoubt σ13 0) fun r16 σ15 =>
                                  if zr r16 then
                                    if ¬ r16 = 100 then
                                      f_L_law_b80 E σ15
                                    else
                                      z_bind (f_L_fails σ15) fun r18 σ17 =>
                                      if zr r18 then
                                        if ¬ r18 = 0 then
                                          z_bind (f_L_cell E σ17 0) fun r20 σ19 =>
                                          z_bind (f_L_up σ19 r20 80) fun r22 σ21 =>
                                          z_bind (f_L_cell E σ21 1) fun r24 σ23 =>
                                          z_bind (f_X5_babble σ23 r24 (1 + r22)) fun r26 σ25 =>
                                          if zr r26 ∧ zr (1 + r22) then
                                            if ¬ r26 = (1 + r22) then
                                              f_L_law_b172 E σ25
                                            else
                                              z_bind (f_L_cell E σ25 0) fun r28 σ27 =>
                                              z_bind (f_L_up σ27 (z_shr r28 7) 3) fun r30 σ29 =>
                                              z_bind (f_L_cell E σ29 0) fun r32 σ31 =>
                                              z_bind (f_L_up σ31 (z_shr r32 9) 20) fun r34 σ33 =>
                                              z_bind (f_X5_append σ33 r30 (1 + r34)) fun r36 σ35 =>
                                              if zr r36 ∧ zr (1 + r22) then
                                                if r36 ≤ (1 + r22) then
                                                  f_L_law_b172 E σ35
                                                else
                                                  z_bind (f_L_cell E σ35 2) fun r38 σ37 =>
                                                  z_bind (f_L_cell E σ37 0) fun r40 σ39 =>
                                                  z_bind (f_L_up σ39 (z_shr r40 14) 40) fun r42 σ41 =>
                                                  z_bind (f_X5_babble σ41 r38 (1 + r42)) fun r44 σ43 =>
                                                  if zr r44 ∧ zr (1 + r22) then
                                                    if (1 + r22) < r44 then
                                                      z_bind (f_X5_setting σ43 7) fun r46 σ45 =>
                                                      z_bind (f_L_cell E σ45 3) fun r48 σ47 =>
                                                      z_bind (f_L_up σ47 r48 10) fun r50 σ49 =>
                                                      z_bind (f_X5_set σ49 1 r50) fun r52 σ51 =>
                                                      if zr r52 then
                                                        if ¬ r52 = 1 then
                                                          f_L_law_b312 E σ51
                                                        else
                                                          z_bind (f_L_cell E σ51 3) fun r54 σ53 =>
                                                          z_bind (f_L_up σ53 (z_shr r54 4) 21) fun r56 σ55 =>
                                                          z_bind (f_X5_set σ55 2 r56) fun r58 σ57 =>
                                                          if zr r58 then
                                                            if ¬ r58 = 5 then
                                                              f_L_law_b312 E σ57
                                                            else
                                                              z_bind (f_L_cell E σ57 3) fun r60 σ59 =>
                                                              z_bind (f_L_up σ59 (z_shr r60 9) 12) fun r62 σ61 =>
                                                              z_bind (f_X5_set σ61 3 r62) fun r64 σ63 =>
                                                              if zr r64 then
                                                                if ¬ r64 = 4 then
                                                                  f_L_law_b312 E σ63
                                                                else
                                                                  z_bind (f_L_cell E σ63 3) fun r66 σ65 =>
                                                                  z_bind (f_L_up σ65 (z_shr r66 13) 101) fun r68 σ67 =>
                                                                  z_bind (f_X5_set σ67 4 r68) fun r70 σ69 =>
                                                                  if zr r70 then
                                                                    if ¬ r70 = 50 then
                                                                      f_L_law_b312 E σ69
                                                                    else
                                                                      z_bind (f_L_cell E σ69 3) fun r72 σ71 =>
                                                                      z_bind (f_L_up σ71 (z_shr r72 20) 9) fun r74 σ73 =>
                                                                      z_bind (f_X5_set σ73 5 r74) fun r76 σ75 =>
                                                                      if zr r76 then
                                                                        if ¬ r76 = 6 then
                                                                          f_L_law_b312 E σ75
                                                                        else
                                                                          z_bind (f_L_cell E σ75 3) fun r78 σ77 =>
                                                                          z_bind (f_L_up σ77 (z_shr r78 24) 6) fun r80 σ79 =>
                                                                          z_bind (f_X5_set σ79 6 r80) fun r82 σ81 =>
                                                                          if zr r82 then
                                                                            if r82 = 2 then
                                                                              f_L_law_l317 E z_fuel σ81 r46 0
                                                                            else
                                                                              f_L_law_b312 E σ81
                                                                          else none
                                                                      else none
                                                                  else none
                                                              else none
                                                          else none
                                                      else none
                                                    else
                                                      f_L_law_b172 E σ43
                                                  else none
                                              else none
                                          else none
                                        else
                                          f_L_law_b80 E σ17
                                      else none
                                  else none
                              else none
                          else none
                      else none
                    else none
                else none
              else none
          else none
      else none
  else none
