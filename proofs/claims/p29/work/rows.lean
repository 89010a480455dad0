section
/-! THE METHODS AS FUNCTIONS OF NUMBERS. zS: what the cells hold, by the cell's place and the index in it; zr: the range of an int. -/
abbrev zS : Type := Nat → Int → Int
abbrev zr (z : Int) : Prop := -2147483648 ≤ z ∧ z < 2147483648
def z_up (σ : zS) (k : Nat) (i v : Int) : zS := fun a b => if a = k ∧ b = i then v else σ a b
def z_put {α : Type} (σ : zS) (k : Nat) (i v : Int) (K : zS → Option α) : Option α := K (z_up σ k i v)
def z_bind {α β : Type} (o : Option (α × zS)) (K : α → zS → Option β) : Option β := match o with
  | some (a, s) => K a s
  | none => none
/-- an int shifted right by n without its sign -/
def z_ushr (x : Int) (n : Nat) : Int := (x % 4294967296) / (2 ^ n : Nat)
/-- n values of a row to another -/
def z_cpy (σ : zS) (k1 : Nat) (i1 : Int) (k2 : Nat) (i2 n : Int) : zS := fun a b => if a = k2 ∧ i2 ≤ b ∧ b < i2 + n then σ k1 (i1 + (b - i2)) else σ a b
def z_copy {α : Type} (σ : zS) (k1 : Nat) (i1 : Int) (k2 : Nat) (i2 n : Int) (K : zS → Option α) : Option α := K (z_cpy σ k1 i1 k2 i2 n)
/-- the turns that a loop is given: more than any takes -/
def z_fuel : Nat := 100000
theorem z_bind_some {α β : Type} {o : Option (α × zS)} {K : α → zS → Option β} {r : β} (h : z_bind o K = some r) : ∃ a s, o = some (a, s) ∧ K a s = some r := by
  match o, h with
  | some (a, s), h => exact ⟨a, s, rfl, h⟩
theorem z_if {α : Type} {g c : Prop} [Decidable g] [Decidable c] {A B : Option α} {r : α} (h : (if g then (if c then A else B) else none) = some r) : g ∧ ((c ∧ A = some r) ∨ (¬ c ∧ B = some r)) := by
  by_cases hg : g
  · rw [if_pos hg] at h
    by_cases hc : c
    · rw [if_pos hc] at h; exact ⟨hg, Or.inl ⟨hc, h⟩⟩
    · rw [if_neg hc] at h; exact ⟨hg, Or.inr ⟨hc, h⟩⟩
  · rw [if_neg hg] at h; cases h
theorem z_gd {α : Type} {g : Prop} [Decidable g] {A : Option α} {r : α} (h : (if g then A else none) = some r) : g ∧ A = some r := by
  by_cases hg : g
  · rw [if_pos hg] at h; exact ⟨hg, h⟩
  · rw [if_neg hg] at h; cases h
end
section
/-! THE METHODS, by program out of the listing of the class and of the reference -/
def f_X2_copyMark (j : Nat) (k : Nat) (σ : zS) (x2 : Int) (x3 : Int) : Option (Unit × zS) :=
  if 0 ≤ x2 ∧ x2 < 20 then
    if 0 ≤ x3 ∧ x3 < 20 then z_put σ (8 * j + 2) x3 (σ (8 * k + 2) x2) fun σ1 =>
      if 0 ≤ x2 ∧ x2 < 20 then
        if 0 ≤ x3 ∧ x3 < 20 then z_put σ1 (8 * j + 3) x3 (σ1 (8 * k + 3) x2) fun σ2 =>
          if 0 ≤ x2 ∧ x2 < 20 then
            if 0 ≤ x3 ∧ x3 < 20 then z_put σ2 (8 * j + 4) x3 (σ2 (8 * k + 4) x2) fun σ3 =>
              if 0 ≤ x2 ∧ x2 < 20 then
                if 0 ≤ x3 ∧ x3 < 20 then z_put σ3 (8 * j + 5) x3 (σ3 (8 * k + 5) x2) fun σ4 =>
                  if 0 ≤ x2 ∧ x2 < 20 then
                    if (0 ≤ x3 ∧ x3 < 20) ∧ 0 ≤ (σ4 (8 * k + 6) x2) ∧ (σ4 (8 * k + 6) x2) ≤ 1 then z_put σ4 (8 * j + 6) x3 (σ4 (8 * k + 6) x2) fun σ5 =>
                      some ((), σ5)
                    else none
                  else none
                else none
              else none
            else none
          else none
        else none
      else none
    else none
  else none
def f_X2_copySound_b34 (j : Nat) (k : Nat) (K34 : zS → Int → Option (Unit × zS)) (σ : zS) (x2 : Int) : Option (Unit × zS) :=
  if zr x2 ∧ zr (σ (8 * j) 7) then
    if (σ (8 * j) 7) ≤ x2 then
      some ((), σ)
    else
      z_bind (f_X2_copyMark j k σ x2 x2) fun _ σ1 =>
      K34 σ1 (x2 + 1)
  else none
def f_X2_copySound_l34 (j : Nat) (k : Nat) : Nat → zS → Int → Option (Unit × zS)
  | 0, _, _ => none
  | n + 1, σ, x2 => f_X2_copySound_b34 j k (f_X2_copySound_l34 j k n) σ x2
def f_X2_copySound (j : Nat) (k : Nat) (σ : zS) : Option (Unit × zS) :=
  z_put σ (8 * j) 1 (σ (8 * k) 1) fun σ1 =>
  if 0 ≤ (0 : Int) ∧ 0 ≤ (0 : Int) ∧ 0 ≤ (200 : Int) ∧ (0 : Int) + (200 : Int) ≤ 200 ∧ (0 : Int) + (200 : Int) ≤ 200 then z_copy σ1 (8 * k + 1) (0 : Int) (8 * j + 1) (0 : Int) (200 : Int) fun σ2 =>
    z_put σ2 (8 * j) 7 (σ2 (8 * k) 7) fun σ3 =>
    f_X2_copySound_l34 j k z_fuel σ3 0
  else none
def f_X2_copyAll (j : Nat) (k : Nat) (σ : zS) : Option (Unit × zS) :=
  z_bind (f_X2_copySound j k σ) fun _ σ1 =>
  if 0 ≤ (0 : Int) ∧ 0 ≤ (0 : Int) ∧ 0 ≤ (7 : Int) ∧ (0 : Int) + (7 : Int) ≤ 7 ∧ (0 : Int) + (7 : Int) ≤ 7 then z_copy σ1 (8 * k + 7) (0 : Int) (8 * j + 7) (0 : Int) (7 : Int) fun σ2 =>
    some ((), σ2)
  else none
def f_X2_addFrame_b30 (j : Nat) (σ : zS) : Option (Unit × zS) :=
  some ((), σ)
def f_X2_addFrame (j : Nat) (σ : zS) (x1 : Int) : Option (Unit × zS) :=
  if zr (σ (8 * j) 1) then
    if 200 ≤ (σ (8 * j) 1) then
      f_X2_addFrame_b30 j σ
    else
      if 0 ≤ (σ (8 * j) 1) ∧ (σ (8 * j) 1) < 200 then z_put σ (8 * j + 1) (σ (8 * j) 1) x1 fun σ1 =>
        z_put σ1 (8 * j) 1 ((σ1 (8 * j) 1) + 1) fun σ2 =>
        f_X2_addFrame_b30 j σ2
      else none
  else none
def f_X2_hasFrame_b17 (j : Nat) (σ : zS) (s0 : Int) : Option (Int × zS) :=
  if 0 ≤ s0 ∧ s0 ≤ 1 then some (s0, σ) else none
def f_X2_hasFrame_b16 (j : Nat) (σ : zS) : Option (Int × zS) :=
  f_X2_hasFrame_b17 j σ 0
def f_X2_hasFrame (j : Nat) (σ : zS) (x1 : Int) : Option (Int × zS) :=
  if zr x1 then
    if x1 < 0 then
      f_X2_hasFrame_b16 j σ
    else
      if zr x1 ∧ zr (σ (8 * j) 1) then
        if (σ (8 * j) 1) ≤ x1 then
          f_X2_hasFrame_b16 j σ
        else
          f_X2_hasFrame_b17 j σ 1
      else none
  else none
def f_X2_levelAt_b22 (j : Nat) (σ : zS) (s0 : Int) : Option (Int × zS) :=
  some (s0, σ)
def f_X2_levelAt_b21 (j : Nat) (σ : zS) : Option (Int × zS) :=
  f_X2_levelAt_b22 j σ 0
def f_X2_levelAt (j : Nat) (σ : zS) (x1 : Int) : Option (Int × zS) :=
  if zr x1 then
    if x1 < 0 then
      f_X2_levelAt_b21 j σ
    else
      if zr x1 ∧ zr (σ (8 * j) 1) then
        if (σ (8 * j) 1) ≤ x1 then
          f_X2_levelAt_b21 j σ
        else
          if 0 ≤ x1 ∧ x1 < 200 then
            f_X2_levelAt_b22 j σ (σ (8 * j + 1) x1)
          else none
      else none
  else none
def f_X2_hasMark_b17 (j : Nat) (σ : zS) (s0 : Int) : Option (Int × zS) :=
  if 0 ≤ s0 ∧ s0 ≤ 1 then some (s0, σ) else none
def f_X2_hasMark_b16 (j : Nat) (σ : zS) : Option (Int × zS) :=
  f_X2_hasMark_b17 j σ 0
def f_X2_hasMark (j : Nat) (σ : zS) (x1 : Int) : Option (Int × zS) :=
  if zr x1 then
    if x1 < 0 then
      f_X2_hasMark_b16 j σ
    else
      if zr x1 ∧ zr (σ (8 * j) 7) then
        if (σ (8 * j) 7) ≤ x1 then
          f_X2_hasMark_b16 j σ
        else
          f_X2_hasMark_b17 j σ 1
      else none
  else none
def f_X2_overlaps_b32 (j : Nat) (K2 : zS → Int → Int → Int → Option (Int × zS)) (σ : zS) (x1 : Int) (x2 : Int) (x3 : Int) : Option (Int × zS) :=
  K2 σ x1 x2 (x3 + 1)
def f_X2_overlaps_b2 (j : Nat) (K2 : zS → Int → Int → Int → Option (Int × zS)) (σ : zS) (x1 : Int) (x2 : Int) (x3 : Int) : Option (Int × zS) :=
  if zr x3 ∧ zr (σ (8 * j) 7) then
    if (σ (8 * j) 7) ≤ x3 then
      some (0, σ)
    else
      if 0 ≤ x3 ∧ x3 < 20 then
        if zr x1 ∧ zr (σ (8 * j + 4) x3) then
          if (σ (8 * j + 4) x3) ≤ x1 then
            f_X2_overlaps_b32 j K2 σ x1 x2 x3
          else
            if 0 ≤ x3 ∧ x3 < 20 then
              if zr (σ (8 * j + 3) x3) ∧ zr x2 then
                if x2 ≤ (σ (8 * j + 3) x3) then
                  f_X2_overlaps_b32 j K2 σ x1 x2 x3
                else
                  some (1, σ)
              else none
            else none
        else none
      else none
  else none
def f_X2_overlaps_l2 (j : Nat) : Nat → zS → Int → Int → Int → Option (Int × zS)
  | 0, _, _, _, _ => none
  | n + 1, σ, x1, x2, x3 => f_X2_overlaps_b2 j (f_X2_overlaps_l2 j n) σ x1 x2 x3
def f_X2_overlaps (j : Nat) (σ : zS) (x1 : Int) (x2 : Int) : Option (Int × zS) :=
  f_X2_overlaps_l2 j z_fuel σ x1 x2 0
def f_X2_addMark_b53 (j : Nat) (σ : zS) (x1 : Int) (x2 : Int) (x3 : Int) (x4 : Int) (x5 : Int) : Option (Int × zS) :=
  if 0 ≤ x5 ∧ x5 < 20 then z_put σ (8 * j + 2) x5 x1 fun σ1 =>
    if 0 ≤ x5 ∧ x5 < 20 then z_put σ1 (8 * j + 3) x5 x2 fun σ2 =>
      if 0 ≤ x5 ∧ x5 < 20 then z_put σ2 (8 * j + 4) x5 x3 fun σ3 =>
        if 0 ≤ x5 ∧ x5 < 20 then z_put σ3 (8 * j + 5) x5 x4 fun σ4 =>
          if (0 ≤ x5 ∧ x5 < 20) ∧ 0 ≤ (0 : Int) ∧ (0 : Int) ≤ 1 then z_put σ4 (8 * j + 6) x5 0 fun σ5 =>
            z_put σ5 (8 * j) 7 ((σ5 (8 * j) 7) + 1) fun σ6 =>
            some (x5, σ6)
          else none
        else none
      else none
    else none
  else none
def f_X2_addMark_b18 (j : Nat) (K18 : zS → Int → Int → Int → Int → Int → Option (Int × zS)) (σ : zS) (x1 : Int) (x2 : Int) (x3 : Int) (x4 : Int) (x5 : Int) : Option (Int × zS) :=
  if zr x5 then
    if x5 ≤ 0 then
      f_X2_addMark_b53 j σ x1 x2 x3 x4 x5
    else
      if 0 ≤ (x5 - 1) ∧ (x5 - 1) < 20 then
        if zr (σ (8 * j + 3) (x5 - 1)) ∧ zr x2 then
          if (σ (8 * j + 3) (x5 - 1)) ≤ x2 then
            f_X2_addMark_b53 j σ x1 x2 x3 x4 x5
          else
            z_bind (f_X2_copyMark j j σ (x5 - 1) x5) fun _ σ1 =>
            K18 σ1 x1 x2 x3 x4 (x5 + (-1))
        else none
      else none
  else none
def f_X2_addMark_l18 (j : Nat) : Nat → zS → Int → Int → Int → Int → Int → Option (Int × zS)
  | 0, _, _, _, _, _, _ => none
  | n + 1, σ, x1, x2, x3, x4, x5 => f_X2_addMark_b18 j (f_X2_addMark_l18 j n) σ x1 x2 x3 x4 x5
def f_X2_addMark (j : Nat) (σ : zS) (x1 : Int) (x2 : Int) (x3 : Int) (x4 : Int) : Option (Int × zS) :=
  if zr (σ (8 * j) 7) then
    if (σ (8 * j) 7) < 20 then
      f_X2_addMark_l18 j z_fuel σ x1 x2 x3 x4 (σ (8 * j) 7)
    else
      some ((-3), σ)
  else none
def f_X2_removeMark_b11 (j : Nat) (K11 : zS → Int → Option (Unit × zS)) (σ : zS) (x2 : Int) : Option (Unit × zS) :=
  if zr (x2 + 1) ∧ zr (σ (8 * j) 7) then
    if (σ (8 * j) 7) ≤ (x2 + 1) then
      z_put σ (8 * j) 7 ((σ (8 * j) 7) - 1) fun σ1 =>
      some ((), σ1)
    else
      z_bind (f_X2_copyMark j j σ (x2 + 1) x2) fun _ σ2 =>
      K11 σ2 (x2 + 1)
  else none
def f_X2_removeMark_l11 (j : Nat) : Nat → zS → Int → Option (Unit × zS)
  | 0, _, _ => none
  | n + 1, σ, x2 => f_X2_removeMark_b11 j (f_X2_removeMark_l11 j n) σ x2
def f_X2_removeMark (j : Nat) (σ : zS) (x1 : Int) : Option (Unit × zS) :=
  z_bind (f_X2_hasMark j σ x1) fun r2 σ1 =>
  if zr r2 then
    if ¬ r2 = 0 then
      f_X2_removeMark_l11 j z_fuel σ1 x1
    else
      some ((), σ1)
  else none
def f_X2_numberOfMark_b86 (j : Nat) (σ : zS) (s0 : Int) : Option (Int × zS) :=
  some (s0, σ)
def f_X2_numberOfMark (j : Nat) (σ : zS) (x1 : Int) (x2 : Int) : Option (Int × zS) :=
  z_bind (f_X2_hasMark j σ x1) fun r2 σ1 =>
  if zr r2 then
    if ¬ r2 = 0 then
      if zr x2 then
        if x2 = 0 then
          if 0 ≤ x1 ∧ x1 < 20 then
            some (σ1 (8 * j + 2) x1, σ1)
          else none
        else
          if x2 = 1 then
            if 0 ≤ x1 ∧ x1 < 20 then
              some (σ1 (8 * j + 3) x1, σ1)
            else none
          else
            if x2 = 2 then
              if 0 ≤ x1 ∧ x1 < 20 then
                some (σ1 (8 * j + 4) x1, σ1)
              else none
            else
              if x2 = 3 then
                if 0 ≤ x1 ∧ x1 < 20 then
                  some (σ1 (8 * j + 5) x1, σ1)
                else none
              else
                if x2 = 4 then
                  if 0 ≤ x1 ∧ x1 < 20 then
                    if zr (σ1 (8 * j + 6) x1) then
                      if (σ1 (8 * j + 6) x1) = 0 then
                        f_X2_numberOfMark_b86 j σ1 0
                      else
                        f_X2_numberOfMark_b86 j σ1 1
                    else none
                  else none
                else
                  some ((-1), σ1)
      else none
    else
      some ((-1), σ1)
  else none
def f_X2_hasFillerOfDoubt_b31 (j : Nat) (K2 : zS → Int → Int → Option (Int × zS)) (σ : zS) (x1 : Int) (x2 : Int) : Option (Int × zS) :=
  K2 σ x1 (x2 + 1)
def f_X2_hasFillerOfDoubt_b2 (j : Nat) (K2 : zS → Int → Int → Option (Int × zS)) (σ : zS) (x1 : Int) (x2 : Int) : Option (Int × zS) :=
  if zr x2 ∧ zr (σ (8 * j) 7) then
    if (σ (8 * j) 7) ≤ x2 then
      some (0, σ)
    else
      if 0 ≤ x2 ∧ x2 < 20 then
        if zr (σ (8 * j + 2) x2) then
          if ¬ (σ (8 * j + 2) x2) = 0 then
            f_X2_hasFillerOfDoubt_b31 j K2 σ x1 x2
          else
            if 0 ≤ x2 ∧ x2 < 20 then
              if zr (σ (8 * j + 5) x2) ∧ zr x1 then
                if ¬ (σ (8 * j + 5) x2) = x1 then
                  f_X2_hasFillerOfDoubt_b31 j K2 σ x1 x2
                else
                  some (1, σ)
              else none
            else none
        else none
      else none
  else none
def f_X2_hasFillerOfDoubt_l2 (j : Nat) : Nat → zS → Int → Int → Option (Int × zS)
  | 0, _, _, _ => none
  | n + 1, σ, x1, x2 => f_X2_hasFillerOfDoubt_b2 j (f_X2_hasFillerOfDoubt_l2 j n) σ x1 x2
def f_X2_hasFillerOfDoubt (j : Nat) (σ : zS) (x1 : Int) : Option (Int × zS) :=
  f_X2_hasFillerOfDoubt_l2 j z_fuel σ x1 0
def f_X2_endOfMarkBefore_b22 (j : Nat) (σ : zS) (s0 : Int) : Option (Int × zS) :=
  some (s0, σ)
def f_X2_endOfMarkBefore (j : Nat) (σ : zS) (x1 : Int) : Option (Int × zS) :=
  z_bind (f_X2_hasMark j σ (x1 - 1)) fun r2 σ1 =>
  if zr r2 then
    if r2 = 0 then
      f_X2_endOfMarkBefore_b22 j σ1 0
    else
      if 0 ≤ (x1 - 1) ∧ (x1 - 1) < 20 then
        f_X2_endOfMarkBefore_b22 j σ1 (σ1 (8 * j + 4) (x1 - 1))
      else none
  else none
def f_X2_firstOfMarkAfter_b25 (j : Nat) (σ : zS) (s0 : Int) : Option (Int × zS) :=
  some (s0, σ)
def f_X2_firstOfMarkAfter (j : Nat) (σ : zS) (x1 : Int) : Option (Int × zS) :=
  z_bind (f_X2_hasMark j σ (x1 + 1)) fun r2 σ1 =>
  if zr r2 then
    if r2 = 0 then
      f_X2_firstOfMarkAfter_b25 j σ1 (σ1 (8 * j) 1)
    else
      if 0 ≤ (x1 + 1) ∧ (x1 + 1) < 20 then
        f_X2_firstOfMarkAfter_b25 j σ1 (σ1 (8 * j + 3) (x1 + 1))
      else none
  else none
def f_X2_isQuiet_b32 (j : Nat) (σ : zS) (s0 : Int) : Option (Int × zS) :=
  if 0 ≤ s0 ∧ s0 ≤ 1 then some (s0, σ) else none
def f_X2_isQuiet_b31 (j : Nat) (σ : zS) : Option (Int × zS) :=
  f_X2_isQuiet_b32 j σ 0
def f_X2_isQuiet (j : Nat) (σ : zS) (x1 : Int) : Option (Int × zS) :=
  if 0 ≤ (1 : Int) ∧ (1 : Int) < 7 then
    z_bind (f_X2_levelAt j σ (x1 - 1)) fun r2 σ1 =>
    if zr r2 ∧ zr (σ (8 * j + 7) 1) then
      if (σ (8 * j + 7) 1) < r2 then
        f_X2_isQuiet_b31 j σ1
      else
        z_bind (f_X2_levelAt j σ1 x1) fun r4 σ3 =>
        if zr r4 ∧ zr (σ (8 * j + 7) 1) then
          if (σ (8 * j + 7) 1) < r4 then
            f_X2_isQuiet_b31 j σ3
          else
            f_X2_isQuiet_b32 j σ3 1
        else none
    else none
  else none
def f_X2_nearestQuietSeam_b71 (j : Nat) (K3 : zS → Int → Int → Int → Int → Int → Option (Int × zS)) (σ : zS) (x1 : Int) (x2 : Int) (x3 : Int) (x4 : Int) (x5 : Int) : Option (Int × zS) :=
  K3 σ x1 x2 x3 x4 (x5 + 1)
def f_X2_nearestQuietSeam_b40 (j : Nat) (K3 : zS → Int → Int → Int → Int → Int → Option (Int × zS)) (σ : zS) (x1 : Int) (x2 : Int) (x3 : Int) (x4 : Int) (x5 : Int) : Option (Int × zS) :=
  if zr (x1 + x5) ∧ zr x3 then
    if (x1 + x5) < x3 then
      f_X2_nearestQuietSeam_b71 j K3 σ x1 x2 x3 x4 x5
    else
      if zr (x1 + x5) ∧ zr x4 then
        if x4 < (x1 + x5) then
          f_X2_nearestQuietSeam_b71 j K3 σ x1 x2 x3 x4 x5
        else
          z_bind (f_X2_isQuiet j σ (x1 + x5)) fun r2 σ1 =>
          if zr r2 then
            if r2 = 0 then
              f_X2_nearestQuietSeam_b71 j K3 σ1 x1 x2 x3 x4 x5
            else
              some (x1 + x5, σ1)
          else none
      else none
  else none
def f_X2_nearestQuietSeam_b3 (j : Nat) (K3 : zS → Int → Int → Int → Int → Int → Option (Int × zS)) (σ : zS) (x1 : Int) (x2 : Int) (x3 : Int) (x4 : Int) (x5 : Int) : Option (Int × zS) :=
  if zr x5 ∧ zr x2 then
    if x2 < x5 then
      some ((-1), σ)
    else
      if zr (x1 - x5) ∧ zr x3 then
        if (x1 - x5) < x3 then
          f_X2_nearestQuietSeam_b40 j K3 σ x1 x2 x3 x4 x5
        else
          if zr (x1 - x5) ∧ zr x4 then
            if x4 < (x1 - x5) then
              f_X2_nearestQuietSeam_b40 j K3 σ x1 x2 x3 x4 x5
            else
              z_bind (f_X2_isQuiet j σ (x1 - x5)) fun r2 σ1 =>
              if zr r2 then
                if r2 = 0 then
                  f_X2_nearestQuietSeam_b40 j K3 σ1 x1 x2 x3 x4 x5
                else
                  some (x1 - x5, σ1)
              else none
          else none
      else none
  else none
def f_X2_nearestQuietSeam_l3 (j : Nat) : Nat → zS → Int → Int → Int → Int → Int → Option (Int × zS)
  | 0, _, _, _, _, _, _ => none
  | n + 1, σ, x1, x2, x3, x4, x5 => f_X2_nearestQuietSeam_b3 j (f_X2_nearestQuietSeam_l3 j n) σ x1 x2 x3 x4 x5
def f_X2_nearestQuietSeam (j : Nat) (σ : zS) (x1 : Int) (x2 : Int) (x3 : Int) (x4 : Int) : Option (Int × zS) :=
  f_X2_nearestQuietSeam_l3 j z_fuel σ x1 x2 x3 x4 0
def f_X0_endOfLastCut_b31 (σ : zS) (s0 : Int) : Option (Int × zS) :=
  some (s0, σ)
def f_X0_endOfLastCut_b30 (σ : zS) : Option (Int × zS) :=
  f_X0_endOfLastCut_b31 σ 0
def f_X0_endOfLastCut (σ : zS) : Option (Int × zS) :=
  if zr (σ 48 5) then
    if (σ 48 5) ≤ 0 then
      f_X0_endOfLastCut_b30 σ
    else
      if zr (σ 48 5) then
        if 20 < (σ 48 5) then
          f_X0_endOfLastCut_b30 σ
        else
          if 0 ≤ ((σ 48 5) - 1) ∧ ((σ 48 5) - 1) < 20 then
            f_X0_endOfLastCut_b31 σ (σ 50 ((σ 48 5) - 1))
          else none
      else none
  else none
def f_X0_addCut (σ : zS) (x1 : Int) (x2 : Int) (x3 : Int) (x4 : Int) (x5 : Int) : Option (Unit × zS) :=
  if zr (σ 48 5) then
    if (σ 48 5) < 20 then
      if 0 ≤ (σ 48 5) ∧ (σ 48 5) < 20 then z_put σ 49 (σ 48 5) x1 fun σ1 =>
        if 0 ≤ (σ1 48 5) ∧ (σ1 48 5) < 20 then z_put σ1 50 (σ1 48 5) x2 fun σ2 =>
          if 0 ≤ (σ2 48 5) ∧ (σ2 48 5) < 20 then z_put σ2 51 (σ2 48 5) x3 fun σ3 =>
            if (0 ≤ (σ3 48 5) ∧ (σ3 48 5) < 20) ∧ 0 ≤ x4 ∧ x4 ≤ 1 then z_put σ3 52 (σ3 48 5) x4 fun σ4 =>
              if 0 ≤ (σ4 48 5) ∧ (σ4 48 5) < 20 then z_put σ4 53 (σ4 48 5) x5 fun σ5 =>
                z_put σ5 48 5 ((σ5 48 5) + 1) fun σ6 =>
                some ((), σ6)
              else none
            else none
          else none
        else none
      else none
    else
      some ((), σ)
  else none
def f_X0_addFillerCut_b163 (σ : zS) (x2 : Int) (s1 : Int) (s2 : Int) (s3 : Int) (s4 : Int) : Option (Unit × zS) :=
  z_bind (f_X0_addCut σ s1 s2 s3 s4 x2) fun _ σ1 =>
  some ((), σ1)
def f_X0_addFillerCut_b158 (σ : zS) (x2 : Int) (s1 : Int) (s2 : Int) (s3 : Int) : Option (Unit × zS) :=
  f_X0_addFillerCut_b163 σ x2 s1 s2 s3 1
def f_X0_addFillerCut_b111 (σ : zS) (x2 : Int) (x6 : Int) (x7 : Int) (x9 : Int) (x10 : Int) : Option (Unit × zS) :=
  if 0 ≤ (4 : Int) ∧ (4 : Int) < 7 then
    if zr ((x9 - x6) * (σ 7 4)) ∧ zr 100 ∧ (100 : Int) ≠ 0 then
      if 0 ≤ (3 : Int) ∧ (3 : Int) < 7 then
        if zr (σ 7 3) ∧ zr (((x9 - x6) * (σ 7 4)).tdiv 100) then
          if zr x7 then
            if ¬ x7 = 0 then
              f_X0_addFillerCut_b158 σ x2 x6 x9 (if (((x9 - x6) * (σ 7 4)).tdiv 100) < (σ 7 3) then (((x9 - x6) * (σ 7 4)).tdiv 100) else (σ 7 3))
            else
              if zr x10 then
                if x10 = 0 then
                  f_X0_addFillerCut_b163 σ x2 x6 x9 (if (((x9 - x6) * (σ 7 4)).tdiv 100) < (σ 7 3) then (((x9 - x6) * (σ 7 4)).tdiv 100) else (σ 7 3)) 0
                else
                  f_X0_addFillerCut_b158 σ x2 x6 x9 (if (((x9 - x6) * (σ 7 4)).tdiv 100) < (σ 7 3) then (((x9 - x6) * (σ 7 4)).tdiv 100) else (σ 7 3))
              else none
          else none
        else none
      else none
    else none
  else none
def f_X0_addFillerCut_b100 (σ : zS) (x2 : Int) (x4 : Int) (x6 : Int) (x7 : Int) (x9 : Int) (s0 : Int) : Option (Unit × zS) :=
  if zr s0 then
    if s0 = 0 then
      f_X0_addFillerCut_b111 σ x2 x6 x7 x9 s0
    else
      f_X0_addFillerCut_b111 σ x2 x6 x7 x4 s0
  else none
def f_X0_addFillerCut_b67 (σ : zS) (x2 : Int) (x3 : Int) (x4 : Int) (x6 : Int) (x7 : Int) : Option (Unit × zS) :=
  z_bind (f_X2_firstOfMarkAfter 0 σ x2) fun r2 σ1 =>
  z_bind (f_X2_nearestQuietSeam 0 σ1 x4 x3 (x6 + 1) r2) fun r4 σ3 =>
  if zr r4 then
    if ¬ r4 = (-1) then
      f_X0_addFillerCut_b100 σ3 x2 x4 x6 x7 r4 0
    else
      f_X0_addFillerCut_b100 σ3 x2 x4 x6 x7 r4 1
  else none
def f_X0_addFillerCut_b52 (σ : zS) (x2 : Int) (x3 : Int) (x4 : Int) (x6 : Int) (s0 : Int) : Option (Unit × zS) :=
  if zr s0 then
    if s0 = 0 then
      f_X0_addFillerCut_b67 σ x2 x3 x4 x6 s0
    else
      if 0 ≤ x2 ∧ x2 < 20 then
        f_X0_addFillerCut_b67 σ x2 x3 x4 (σ 3 x2) s0
      else none
  else none
def f_X0_addFillerCut (σ : zS) (x2 : Int) (x3 : Int) : Option (Unit × zS) :=
  if 0 ≤ x2 ∧ x2 < 20 then
    z_bind (f_X0_endOfLastCut σ) fun r2 σ1 =>
    z_bind (f_X2_endOfMarkBefore 0 σ1 x2) fun r4 σ3 =>
    if zr r2 ∧ zr r4 then
      if 0 ≤ x2 ∧ x2 < 20 then
        z_bind (f_X2_nearestQuietSeam 0 σ3 (σ3 3 x2) x3 (if r2 < r4 then r4 else r2) ((σ 4 x2) - 1)) fun r6 σ5 =>
        if zr r6 then
          if ¬ r6 = (-1) then
            f_X0_addFillerCut_b52 σ5 x2 x3 (σ 4 x2) r6 0
          else
            f_X0_addFillerCut_b52 σ5 x2 x3 (σ 4 x2) r6 1
        else none
      else none
    else none
  else none
def f_X0_addBreathCut_b81 (σ : zS) : Option (Unit × zS) :=
  some ((), σ)
def f_X0_addBreathCut (σ : zS) (x2 : Int) : Option (Unit × zS) :=
  if 0 ≤ x2 ∧ x2 < 20 then
    if 0 ≤ x2 ∧ x2 < 20 then
      if 0 ≤ (5 : Int) ∧ (5 : Int) < 7 then
        if 0 ≤ (6 : Int) ∧ (6 : Int) < 7 then
          if zr ((σ 4 x2) - (σ 3 x2)) ∧ zr (σ 7 6) then
            if (σ 7 6) ≤ ((σ 4 x2) - (σ 3 x2)) then
              if zr ((σ 4 x2) - (σ 3 x2)) ∧ zr (σ 7 5) then
                if ((σ 4 x2) - (σ 3 x2)) ≤ (σ 7 5) then
                  f_X0_addBreathCut_b81 σ
                else
                  if zr ((σ 7 5) + 1) ∧ zr 2 ∧ (2 : Int) ≠ 0 then
                    if zr (σ 7 5) ∧ zr 2 ∧ (2 : Int) ≠ 0 then
                      z_bind (f_X0_addCut σ ((σ 3 x2) + (((σ 7 5) + 1).tdiv 2)) ((σ 4 x2) - ((σ 7 5).tdiv 2)) 0 0 x2) fun _ σ1 =>
                      f_X0_addBreathCut_b81 σ1
                    else none
                  else none
              else none
            else
              z_bind (f_X0_addCut σ (σ 3 x2) (σ 4 x2) 0 0 x2) fun _ σ2 =>
              f_X0_addBreathCut_b81 σ2
          else none
        else none
      else none
    else none
  else none
def f_X0_find_b80 (K8 : zS → Int → Int → Int → Option (Unit × zS)) (σ : zS) (x2 : Int) (x3 : Int) (x4 : Int) : Option (Unit × zS) :=
  K8 σ x2 x3 (x4 + 1)
def f_X0_find_b62 (K8 : zS → Int → Int → Int → Option (Unit × zS)) (σ : zS) (x2 : Int) (x3 : Int) (x4 : Int) : Option (Unit × zS) :=
  if 0 ≤ x4 ∧ x4 < 20 then
    if zr (σ 2 x4) then
      if ¬ (σ 2 x4) = 1 then
        f_X0_find_b80 K8 σ x2 x3 x4
      else
        z_bind (f_X0_addBreathCut σ x4) fun _ σ1 =>
        f_X0_find_b80 K8 σ1 x2 x3 x4
    else none
  else none
def f_X0_find_b8 (K8 : zS → Int → Int → Int → Option (Unit × zS)) (σ : zS) (x2 : Int) (x3 : Int) (x4 : Int) : Option (Unit × zS) :=
  if zr x4 ∧ zr (σ 0 7) then
    if (σ 0 7) ≤ x4 then
      some ((), σ)
    else
      if 0 ≤ x4 ∧ x4 < 20 then
        if zr (σ 6 x4) then
          if (σ 6 x4) = 0 then
            if 0 ≤ x4 ∧ x4 < 20 then
              if zr (σ 2 x4) then
                if ¬ (σ 2 x4) = 0 then
                  f_X0_find_b62 K8 σ x2 x3 x4
                else
                  if 0 ≤ x4 ∧ x4 < 20 then
                    if zr (σ 5 x4) ∧ zr x2 then
                      if x2 < (σ 5 x4) then
                        f_X0_find_b62 K8 σ x2 x3 x4
                      else
                        z_bind (f_X0_addFillerCut σ x4 x3) fun _ σ1 =>
                        f_X0_find_b80 K8 σ1 x2 x3 x4
                    else none
                  else none
              else none
            else none
          else
            f_X0_find_b80 K8 σ x2 x3 x4
        else none
      else none
  else none
def f_X0_find_l8 : Nat → zS → Int → Int → Int → Option (Unit × zS)
  | 0, _, _, _, _ => none
  | n + 1, σ, x2, x3, x4 => f_X0_find_b8 (f_X0_find_l8 n) σ x2 x3 x4
def f_X0_find (σ : zS) (x2 : Int) (x3 : Int) : Option (Unit × zS) :=
  z_put σ 48 5 0 fun σ1 =>
  f_X0_find_l8 z_fuel σ1 x2 x3 0
def f_X0_cutOfMark_b2 (K2 : zS → Int → Int → Option (Int × zS)) (σ : zS) (x1 : Int) (x2 : Int) : Option (Int × zS) :=
  if zr x2 ∧ zr (σ 48 5) then
    if (σ 48 5) ≤ x2 then
      some ((-9), σ)
    else
      if 0 ≤ x2 ∧ x2 < 20 then
        if zr (σ 53 x2) ∧ zr x1 then
          if ¬ (σ 53 x2) = x1 then
            K2 σ x1 (x2 + 1)
          else
            some (x2, σ)
        else none
      else none
  else none
def f_X0_cutOfMark_l2 : Nat → zS → Int → Int → Option (Int × zS)
  | 0, _, _, _ => none
  | n + 1, σ, x1, x2 => f_X0_cutOfMark_b2 (f_X0_cutOfMark_l2 n) σ x1 x2
def f_X0_cutOfMark (σ : zS) (x1 : Int) : Option (Int × zS) :=
  f_X0_cutOfMark_l2 z_fuel σ x1 0
def f_X0_numberOfCut_b83 (σ : zS) (s0 : Int) : Option (Int × zS) :=
  some (s0, σ)
def f_X0_numberOfCut_b12 (σ : zS) : Option (Int × zS) :=
  some ((-1), σ)
def f_X0_numberOfCut (σ : zS) (x1 : Int) (x2 : Int) : Option (Int × zS) :=
  if zr x1 then
    if x1 < 0 then
      f_X0_numberOfCut_b12 σ
    else
      if zr x1 ∧ zr (σ 48 5) then
        if x1 < (σ 48 5) then
          if zr x2 then
            if x2 = 0 then
              if 0 ≤ x1 ∧ x1 < 20 then
                some (σ 49 x1, σ)
              else none
            else
              if x2 = 1 then
                if 0 ≤ x1 ∧ x1 < 20 then
                  some (σ 50 x1, σ)
                else none
              else
                if x2 = 2 then
                  if 0 ≤ x1 ∧ x1 < 20 then
                    some (σ 51 x1, σ)
                  else none
                else
                  if x2 = 3 then
                    if 0 ≤ x1 ∧ x1 < 20 then
                      if zr (σ 52 x1) then
                        if (σ 52 x1) = 0 then
                          f_X0_numberOfCut_b83 σ 0
                        else
                          f_X0_numberOfCut_b83 σ 1
                      else none
                    else none
                  else
                    if x2 = 4 then
                      if 0 ≤ x1 ∧ x1 < 20 then
                        some (σ 53 x1, σ)
                      else none
                    else
                      some ((-1), σ)
          else none
        else
          f_X0_numberOfCut_b12 σ
      else none
  else none
def f_X0_cutFrames_b4 (K4 : zS → Int → Int → Option (Int × zS)) (σ : zS) (x1 : Int) (x2 : Int) : Option (Int × zS) :=
  if zr x2 ∧ zr (σ 48 5) then
    if (σ 48 5) ≤ x2 then
      some (x1, σ)
    else
      if 0 ≤ x2 ∧ x2 < 20 then
        if 0 ≤ x2 ∧ x2 < 20 then
          K4 σ (x1 + ((σ 50 x2) - (σ 49 x2))) (x2 + 1)
        else none
      else none
  else none
def f_X0_cutFrames_l4 : Nat → zS → Int → Int → Option (Int × zS)
  | 0, _, _, _ => none
  | n + 1, σ, x1, x2 => f_X0_cutFrames_b4 (f_X0_cutFrames_l4 n) σ x1 x2
def f_X0_cutFrames (σ : zS) : Option (Int × zS) :=
  f_X0_cutFrames_l4 z_fuel σ 0 0
def f_X0_pauseFrames_b4 (K4 : zS → Int → Int → Option (Int × zS)) (σ : zS) (x1 : Int) (x2 : Int) : Option (Int × zS) :=
  if zr x2 ∧ zr (σ 48 5) then
    if (σ 48 5) ≤ x2 then
      some (x1, σ)
    else
      if 0 ≤ x2 ∧ x2 < 20 then
        K4 σ (x1 + (σ 51 x2)) (x2 + 1)
      else none
  else none
def f_X0_pauseFrames_l4 : Nat → zS → Int → Int → Option (Int × zS)
  | 0, _, _, _ => none
  | n + 1, σ, x1, x2 => f_X0_pauseFrames_b4 (f_X0_pauseFrames_l4 n) σ x1 x2
def f_X0_pauseFrames (σ : zS) : Option (Int × zS) :=
  f_X0_pauseFrames_l4 z_fuel σ 0 0
def f_X0_roughCuts_b27 (K4 : zS → Int → Int → Option (Int × zS)) (σ : zS) (x2 : Int) (s0 : Int) (s1 : Int) : Option (Int × zS) :=
  K4 σ (s0 + s1) (x2 + 1)
def f_X0_roughCuts_b4 (K4 : zS → Int → Int → Option (Int × zS)) (σ : zS) (x1 : Int) (x2 : Int) : Option (Int × zS) :=
  if zr x2 ∧ zr (σ 48 5) then
    if (σ 48 5) ≤ x2 then
      some (x1, σ)
    else
      if 0 ≤ x2 ∧ x2 < 20 then
        if zr (σ 52 x2) then
          if (σ 52 x2) = 0 then
            f_X0_roughCuts_b27 K4 σ x2 x1 0
          else
            f_X0_roughCuts_b27 K4 σ x2 x1 1
        else none
      else none
  else none
def f_X0_roughCuts_l4 : Nat → zS → Int → Int → Option (Int × zS)
  | 0, _, _, _ => none
  | n + 1, σ, x1, x2 => f_X0_roughCuts_b4 (f_X0_roughCuts_l4 n) σ x1 x2
def f_X0_roughCuts (σ : zS) : Option (Int × zS) :=
  f_X0_roughCuts_l4 z_fuel σ 0 0
def f_X1_dropOldest_b9 (K9 : zS → Nat → Int → Option (Unit × zS)) (σ : zS) (n1 : Nat) (x2 : Int) : Option (Unit × zS) :=
  if zr x2 then
    if 4 ≤ x2 then
      if 0 ≤ (3 : Int) ∧ (3 : Int) < 4 then z_put σ 61 3 (n1 : Nat) fun σ1 =>
        z_put σ1 60 1 3 fun σ2 =>
        some ((), σ2)
      else none
    else
      if (0 ≤ x2 ∧ x2 < 4) ∧ 0 ≤ σ 61 x2 ∧ σ 61 x2 < 6 then
        if 0 ≤ (x2 - 1) ∧ (x2 - 1) < 4 then z_put σ 61 (x2 - 1) (((σ 61 x2).toNat) : Nat) fun σ3 =>
          K9 σ3 n1 (x2 + 1)
        else none
      else none
  else none
def f_X1_dropOldest_l9 : Nat → zS → Nat → Int → Option (Unit × zS)
  | 0, _, _, _ => none
  | n + 1, σ, n1, x2 => f_X1_dropOldest_b9 (f_X1_dropOldest_l9 n) σ n1 x2
def f_X1_dropOldest (σ : zS) : Option (Unit × zS) :=
  if (0 ≤ (0 : Int) ∧ (0 : Int) < 4) ∧ 0 ≤ σ 61 0 ∧ σ 61 0 < 6 then
    f_X1_dropOldest_l9 z_fuel σ ((σ 61 0).toNat) 1
  else none
def f_X1_keep_b12 (k : Nat) (σ : zS) : Option (Unit × zS) :=
  if (0 ≤ (σ 60 1) ∧ (σ 60 1) < 4) ∧ 0 ≤ σ 61 (σ 60 1) ∧ σ 61 (σ 60 1) < 6 then
    z_bind (f_X2_copyAll ((σ 61 (σ 60 1)).toNat) k σ) fun _ σ1 =>
    z_put σ1 60 1 ((σ1 60 1) + 1) fun σ2 =>
    some ((), σ2)
  else none
def f_X1_keep (k : Nat) (σ : zS) : Option (Unit × zS) :=
  if zr (σ 60 1) then
    if (σ 60 1) < 4 then
      f_X1_keep_b12 k σ
    else
      z_bind (f_X1_dropOldest σ) fun _ σ1 =>
      f_X1_keep_b12 k σ1
  else none
def f_X1_restoreLatest_b30 (k : Nat) (σ : zS) : Option (Unit × zS) :=
  some ((), σ)
def f_X1_restoreLatest (k : Nat) (σ : zS) : Option (Unit × zS) :=
  if zr (σ 60 1) then
    if (σ 60 1) ≤ 0 then
      f_X1_restoreLatest_b30 k σ
    else
      z_put σ 60 1 ((σ 60 1) - 1) fun σ1 =>
      if (0 ≤ (σ1 60 1) ∧ (σ1 60 1) < 4) ∧ 0 ≤ σ1 61 (σ1 60 1) ∧ σ1 61 (σ1 60 1) < 6 then
        z_bind (f_X2_copyAll k ((σ1 61 (σ1 60 1)).toNat) σ1) fun _ σ2 =>
        f_X1_restoreLatest_b30 k σ2
      else none
  else none
def f_X3_gatherFrame_b58 (σ : zS) : Option (Unit × zS) :=
  some ((), σ)
def f_X3_gatherFrame_b35 (σ : zS) (x1 : Int) (x2 : Int) : Option (Unit × zS) :=
  if zr x2 then
    if ¬ x2 = 3 then
      f_X3_gatherFrame_b58 σ
    else
      if zr x1 then
        if x1 < 0 then
          f_X3_gatherFrame_b58 σ
        else
          if zr x1 then
            if 200 ≤ x1 then
              f_X3_gatherFrame_b58 σ
            else
              if (0 ≤ x1 ∧ x1 < 200) ∧ 0 ≤ (1 : Int) ∧ (1 : Int) ≤ 1 then z_put σ 58 x1 1 fun σ1 =>
                f_X3_gatherFrame_b58 σ1
              else none
          else none
      else none
  else none
def f_X3_gatherFrame (σ : zS) (x1 : Int) (x2 : Int) : Option (Unit × zS) :=
  if zr x2 then
    if ¬ x2 = 2 then
      f_X3_gatherFrame_b35 σ x1 x2
    else
      if zr (σ 54 4) then
        if 200 ≤ (σ 54 4) then
          f_X3_gatherFrame_b35 σ x1 x2
        else
          if 0 ≤ (σ 54 4) ∧ (σ 54 4) < 200 then z_put σ 57 (σ 54 4) x1 fun σ1 =>
            z_put σ1 54 4 ((σ1 54 4) + 1) fun σ2 =>
            f_X3_gatherFrame_b35 σ2 x1 x2
          else none
      else none
  else none
def f_X3_gatherRoomAndNoise_b49 (K34 : zS → Int → Option (Unit × zS)) (K49 : zS → Int → Int → Option (Unit × zS)) (σ : zS) (x2 : Int) (x3 : Int) : Option (Unit × zS) :=
  if 0 ≤ x2 ∧ x2 < 20 then
    if zr x3 ∧ zr (σ 4 x2) then
      if (σ 4 x2) ≤ x3 then
        K34 σ (x2 + 1)
      else
        if 0 ≤ x2 ∧ x2 < 20 then
          z_bind (f_X3_gatherFrame σ x3 (σ 2 x2)) fun _ σ1 =>
          K49 σ1 x2 (x3 + 1)
        else none
    else none
  else none
def f_X3_gatherRoomAndNoise_l49 (K34 : zS → Int → Option (Unit × zS)) : Nat → zS → Int → Int → Option (Unit × zS)
  | 0, _, _, _ => none
  | n + 1, σ, x2, x3 => f_X3_gatherRoomAndNoise_b49 K34 (f_X3_gatherRoomAndNoise_l49 K34 n) σ x2 x3
def f_X3_gatherRoomAndNoise_b34 (K34 : zS → Int → Option (Unit × zS)) (σ : zS) (x2 : Int) : Option (Unit × zS) :=
  if zr x2 ∧ zr (σ 0 7) then
    if (σ 0 7) ≤ x2 then
      some ((), σ)
    else
      if 0 ≤ x2 ∧ x2 < 20 then
        f_X3_gatherRoomAndNoise_l49 K34 z_fuel σ x2 (σ 3 x2)
      else none
  else none
def f_X3_gatherRoomAndNoise_l34 : Nat → zS → Int → Option (Unit × zS)
  | 0, _, _ => none
  | n + 1, σ, x2 => f_X3_gatherRoomAndNoise_b34 (f_X3_gatherRoomAndNoise_l34 n) σ x2
def f_X3_gatherRoomAndNoise_b12 (K12 : zS → Int → Option (Unit × zS)) (σ : zS) (x2 : Int) : Option (Unit × zS) :=
  if zr x2 then
    if 200 ≤ x2 then
      f_X3_gatherRoomAndNoise_l34 z_fuel σ 0
    else
      if (0 ≤ x2 ∧ x2 < 200) ∧ 0 ≤ (0 : Int) ∧ (0 : Int) ≤ 1 then z_put σ 58 x2 0 fun σ1 =>
        K12 σ1 (x2 + 1)
      else none
  else none
def f_X3_gatherRoomAndNoise_l12 : Nat → zS → Int → Option (Unit × zS)
  | 0, _, _ => none
  | n + 1, σ, x2 => f_X3_gatherRoomAndNoise_b12 (f_X3_gatherRoomAndNoise_l12 n) σ x2
def f_X3_gatherRoomAndNoise (σ : zS) : Option (Unit × zS) :=
  z_put σ 54 4 0 fun σ1 =>
  z_put σ1 54 5 0 fun σ2 =>
  f_X3_gatherRoomAndNoise_l12 z_fuel σ2 0
def f_X3_add_b40 (σ : zS) : Option (Unit × zS) :=
  some ((), σ)
def f_X3_add (σ : zS) (x1 : Int) (x2 : Int) : Option (Unit × zS) :=
  if zr (σ 54 2) then
    if 200 ≤ (σ 54 2) then
      f_X3_add_b40 σ
    else
      if 0 ≤ (σ 54 2) ∧ (σ 54 2) < 200 then z_put σ 55 (σ 54 2) x1 fun σ1 =>
        if 0 ≤ (σ1 54 2) ∧ (σ1 54 2) < 200 then z_put σ1 56 (σ1 54 2) x2 fun σ2 =>
          z_put σ2 54 2 ((σ2 54 2) + 1) fun σ3 =>
          f_X3_add_b40 σ3
        else none
      else none
  else none
def f_X3_addRecorded_b51 (K3 : zS → Int → Int → Option (Unit × zS)) (σ : zS) (x3 : Int) (x4 : Int) : Option (Unit × zS) :=
  K3 σ x3 (x4 + 1)
def f_X3_addRecorded_b48 (K3 : zS → Int → Int → Option (Unit × zS)) (σ : zS) (x3 : Int) (x4 : Int) (s1 : Int) (s2 : Int) : Option (Unit × zS) :=
  z_bind (f_X3_add σ s1 s2) fun _ σ1 =>
  f_X3_addRecorded_b51 K3 σ1 x3 x4
def f_X3_addRecorded_b3 (K3 : zS → Int → Int → Option (Unit × zS)) (σ : zS) (x3 : Int) (x4 : Int) : Option (Unit × zS) :=
  if zr x4 ∧ zr x3 then
    if x3 ≤ x4 then
      some ((), σ)
    else
      z_bind (f_X2_hasFrame 0 σ x4) fun r2 σ1 =>
      if zr r2 then
        if r2 = 0 then
          f_X3_addRecorded_b51 K3 σ1 x3 x4
        else
          z_bind (f_X2_levelAt 0 σ1 x4) fun r4 σ3 =>
          if 0 ≤ x4 ∧ x4 < 200 then
            if zr (σ3 58 x4) then
              if (σ3 58 x4) = 0 then
                f_X3_addRecorded_b48 K3 σ3 x3 x4 x4 r4
              else
                if zr r4 ∧ zr 2 ∧ (2 : Int) ≠ 0 then
                  f_X3_addRecorded_b48 K3 σ3 x3 x4 x4 (r4.tdiv 2)
                else none
            else none
          else none
      else none
  else none
def f_X3_addRecorded_l3 : Nat → zS → Int → Int → Option (Unit × zS)
  | 0, _, _, _ => none
  | n + 1, σ, x3, x4 => f_X3_addRecorded_b3 (f_X3_addRecorded_l3 n) σ x3 x4
def f_X3_addRecorded (σ : zS) (x2 : Int) (x3 : Int) : Option (Unit × zS) :=
  f_X3_addRecorded_l3 z_fuel σ x3 x2
def f_X3_nextRoomFrame_b16 (σ : zS) : Option (Int × zS) :=
  if 0 ≤ (σ 54 5) ∧ (σ 54 5) < 200 then
    z_put σ 54 5 ((σ 54 5) + 1) fun σ1 =>
    some (σ 57 (σ 54 5), σ1)
  else none
def f_X3_nextRoomFrame (σ : zS) : Option (Int × zS) :=
  if zr (σ 54 5) ∧ zr (σ 54 4) then
    if (σ 54 5) < (σ 54 4) then
      f_X3_nextRoomFrame_b16 σ
    else
      z_put σ 54 5 0 fun σ1 =>
      f_X3_nextRoomFrame_b16 σ1
  else none
def f_X3_addPause_b47 (K2 : zS → Int → Int → Option (Unit × zS)) (σ : zS) (x2 : Int) (x3 : Int) : Option (Unit × zS) :=
  K2 σ x2 (x3 + 1)
def f_X3_addPause_b2 (K2 : zS → Int → Int → Option (Unit × zS)) (σ : zS) (x2 : Int) (x3 : Int) : Option (Unit × zS) :=
  if zr x3 ∧ zr x2 then
    if x2 ≤ x3 then
      some ((), σ)
    else
      if zr (σ 54 4) then
        if ¬ (σ 54 4) = 0 then
          z_bind (f_X3_nextRoomFrame σ) fun r2 σ1 =>
          z_bind (f_X2_levelAt 0 σ1 r2) fun r4 σ3 =>
          z_bind (f_X3_add σ3 (1000 + r2) r4) fun _ σ5 =>
          f_X3_addPause_b47 K2 σ5 x2 x3
        else
          z_bind (f_X3_add σ 2000 0) fun _ σ6 =>
          f_X3_addPause_b47 K2 σ6 x2 x3
      else none
  else none
def f_X3_addPause_l2 : Nat → zS → Int → Int → Option (Unit × zS)
  | 0, _, _, _ => none
  | n + 1, σ, x2, x3 => f_X3_addPause_b2 (f_X3_addPause_l2 n) σ x2 x3
def f_X3_addPause (σ : zS) (x2 : Int) : Option (Unit × zS) :=
  f_X3_addPause_l2 z_fuel σ x2 0
def f_X3_build_b15 (K15 : zS → Int → Int → Option (Unit × zS)) (σ : zS) (x3 : Int) (x4 : Int) : Option (Unit × zS) :=
  if zr x4 ∧ zr (σ 48 5) then
    if (σ 48 5) ≤ x4 then
      z_bind (f_X3_addRecorded σ x3 (σ 0 1)) fun _ σ1 =>
      some ((), σ1)
    else
      if 0 ≤ x4 ∧ x4 < 20 then
        z_bind (f_X3_addRecorded σ x3 (σ 49 x4)) fun _ σ2 =>
        if 0 ≤ x4 ∧ x4 < 20 then
          z_bind (f_X3_addPause σ2 (σ2 51 x4)) fun _ σ3 =>
          if 0 ≤ x4 ∧ x4 < 20 then
            K15 σ3 (σ3 50 x4) (x4 + 1)
          else none
        else none
      else none
  else none
def f_X3_build_l15 : Nat → zS → Int → Int → Option (Unit × zS)
  | 0, _, _, _ => none
  | n + 1, σ, x3, x4 => f_X3_build_b15 (f_X3_build_l15 n) σ x3 x4
def f_X3_build (σ : zS) : Option (Unit × zS) :=
  z_put σ 54 2 0 fun σ1 =>
  z_bind (f_X3_gatherRoomAndNoise σ1) fun _ σ2 =>
  f_X3_build_l15 z_fuel σ2 0 0
def f_X3_placeOfSource_b2 (K2 : zS → Int → Int → Option (Int × zS)) (σ : zS) (x1 : Int) (x2 : Int) : Option (Int × zS) :=
  if zr x2 ∧ zr (σ 54 2) then
    if (σ 54 2) ≤ x2 then
      some ((-9), σ)
    else
      if 0 ≤ x2 ∧ x2 < 200 then
        if zr (σ 55 x2) ∧ zr x1 then
          if ¬ (σ 55 x2) = x1 then
            K2 σ x1 (x2 + 1)
          else
            some (x2, σ)
        else none
      else none
  else none
def f_X3_placeOfSource_l2 : Nat → zS → Int → Int → Option (Int × zS)
  | 0, _, _, _ => none
  | n + 1, σ, x1, x2 => f_X3_placeOfSource_b2 (f_X3_placeOfSource_l2 n) σ x1 x2
def f_X3_placeOfSource (σ : zS) (x1 : Int) : Option (Int × zS) :=
  f_X3_placeOfSource_l2 z_fuel σ x1 0
def f_X3_stepsGreaterThan_b37 (K4 : zS → Int → Int → Int → Option (Int × zS)) (σ : zS) (x1 : Int) (x2 : Int) (x3 : Int) : Option (Int × zS) :=
  K4 σ x1 x2 (x3 + 1)
def f_X3_stepsGreaterThan_b4 (K4 : zS → Int → Int → Int → Option (Int × zS)) (σ : zS) (x1 : Int) (x2 : Int) (x3 : Int) : Option (Int × zS) :=
  if zr x3 ∧ zr (σ 54 2) then
    if (σ 54 2) ≤ x3 then
      some (x2, σ)
    else
      if 0 ≤ x3 ∧ x3 < 200 then
        if 0 ≤ (x3 - 1) ∧ (x3 - 1) < 200 then
          if zr ((σ 56 x3) - (σ 56 (x3 - 1))) then
            if zr (if 0 ≤ ((σ 56 x3) - (σ 56 (x3 - 1))) then ((σ 56 x3) - (σ 56 (x3 - 1))) else 0 - ((σ 56 x3) - (σ 56 (x3 - 1)))) ∧ zr x1 then
              if (if 0 ≤ ((σ 56 x3) - (σ 56 (x3 - 1))) then ((σ 56 x3) - (σ 56 (x3 - 1))) else 0 - ((σ 56 x3) - (σ 56 (x3 - 1)))) ≤ x1 then
                f_X3_stepsGreaterThan_b37 K4 σ x1 x2 x3
              else
                f_X3_stepsGreaterThan_b37 K4 σ x1 (x2 + 1) x3
            else none
          else none
        else none
      else none
  else none
def f_X3_stepsGreaterThan_l4 : Nat → zS → Int → Int → Int → Option (Int × zS)
  | 0, _, _, _, _ => none
  | n + 1, σ, x1, x2, x3 => f_X3_stepsGreaterThan_b4 (f_X3_stepsGreaterThan_l4 n) σ x1 x2 x3
def f_X3_stepsGreaterThan (σ : zS) (x1 : Int) : Option (Int × zS) :=
  f_X3_stepsGreaterThan_l4 z_fuel σ x1 0 1
def f_X3_sumOfLevels_b4 (K4 : zS → Int → Int → Option (Int × zS)) (σ : zS) (x1 : Int) (x2 : Int) : Option (Int × zS) :=
  if zr x2 ∧ zr (σ 54 2) then
    if (σ 54 2) ≤ x2 then
      some (x1, σ)
    else
      if 0 ≤ x2 ∧ x2 < 200 then
        K4 σ (x1 + (σ 56 x2)) (x2 + 1)
      else none
  else none
def f_X3_sumOfLevels_l4 : Nat → zS → Int → Int → Option (Int × zS)
  | 0, _, _, _ => none
  | n + 1, σ, x1, x2 => f_X3_sumOfLevels_b4 (f_X3_sumOfLevels_l4 n) σ x1 x2
def f_X3_sumOfLevels (σ : zS) : Option (Int × zS) :=
  f_X3_sumOfLevels_l4 z_fuel σ 0 0
def f_X3_longestStretchUpTo_b34 (K7 : zS → Int → Int → Int → Int → Option (Int × zS)) (σ : zS) (x1 : Int) (x2 : Int) (x4 : Int) (s0 : Int) : Option (Int × zS) :=
  if zr x2 ∧ zr s0 then
    K7 σ x1 (if x2 < s0 then s0 else x2) s0 (x4 + 1)
  else none
def f_X3_longestStretchUpTo_b7 (K7 : zS → Int → Int → Int → Int → Option (Int × zS)) (σ : zS) (x1 : Int) (x2 : Int) (x3 : Int) (x4 : Int) : Option (Int × zS) :=
  if zr x4 ∧ zr (σ 54 2) then
    if (σ 54 2) ≤ x4 then
      some (x2, σ)
    else
      if 0 ≤ x4 ∧ x4 < 200 then
        if zr (σ 56 x4) ∧ zr x1 then
          if x1 < (σ 56 x4) then
            f_X3_longestStretchUpTo_b34 K7 σ x1 x2 x4 0
          else
            f_X3_longestStretchUpTo_b34 K7 σ x1 x2 x4 (x3 + 1)
        else none
      else none
  else none
def f_X3_longestStretchUpTo_l7 : Nat → zS → Int → Int → Int → Int → Option (Int × zS)
  | 0, _, _, _, _, _ => none
  | n + 1, σ, x1, x2, x3, x4 => f_X3_longestStretchUpTo_b7 (f_X3_longestStretchUpTo_l7 n) σ x1 x2 x3 x4
def f_X3_longestStretchUpTo (σ : zS) (x1 : Int) : Option (Int × zS) :=
  f_X3_longestStretchUpTo_l7 z_fuel σ x1 0 0 0
def f_X5_type_b12 (σ : zS) : Option (Int × zS) :=
  some ((-1), σ)
def f_X5_type (σ : zS) (x1 : Int) : Option (Int × zS) :=
  if zr x1 then
    if x1 < 32 then
      f_X5_type_b12 σ
    else
      if zr x1 then
        if x1 ≤ 126 then
          if zr (σ 62 1) then
            if (σ 62 1) < 120 then
              if 0 ≤ (σ 62 1) ∧ (σ 62 1) < 120 then z_put σ 63 (σ 62 1) x1 fun σ1 =>
                z_put σ1 62 1 ((σ1 62 1) + 1) fun σ2 =>
                some (σ2 62 1, σ2)
              else none
            else
              some ((-3), σ)
          else none
        else
          f_X5_type_b12 σ
      else none
  else none
def f_X5_append_b55 (K55 : zS → Int → Int → Int → Option (Int × zS)) (σ : zS) (x1 : Int) (x2 : Int) (x3 : Int) : Option (Int × zS) :=
  if zr x3 ∧ zr x2 then
    if x2 ≤ x3 then
      some (σ 0 1, σ)
    else
      z_bind (f_X2_addFrame 0 σ x1) fun _ σ1 =>
      K55 σ1 x1 x2 (x3 + 1)
  else none
def f_X5_append_l55 : Nat → zS → Int → Int → Int → Option (Int × zS)
  | 0, _, _, _, _ => none
  | n + 1, σ, x1, x2, x3 => f_X5_append_b55 (f_X5_append_l55 n) σ x1 x2 x3
def f_X5_append_b22 (σ : zS) : Option (Int × zS) :=
  some ((-1), σ)
def f_X5_append (σ : zS) (x1 : Int) (x2 : Int) : Option (Int × zS) :=
  if zr x1 then
    if x1 < 0 then
      f_X5_append_b22 σ
    else
      if zr x1 then
        if 9 < x1 then
          f_X5_append_b22 σ
        else
          if zr x2 then
            if x2 < 1 then
              f_X5_append_b22 σ
            else
              if zr x2 then
                if x2 ≤ 200 then
                  if zr ((σ 0 1) + x2) then
                    if ((σ 0 1) + x2) ≤ 200 then
                      z_bind (f_X1_keep 0 σ) fun _ σ1 =>
                      f_X5_append_l55 z_fuel σ1 x1 x2 0
                    else
                      some ((-3), σ)
                  else none
                else
                  f_X5_append_b22 σ
              else none
          else none
      else none
  else none
def f_X5_babble_b48 (K48 : zS → Int → Int → Int → Option (Int × zS)) (σ : zS) (x2 : Int) (x3 : Int) (x4 : Int) : Option (Int × zS) :=
  if zr x4 ∧ zr x2 then
    if x2 ≤ x4 then
      some (σ 0 1, σ)
    else
      if zr (z_ushr ((1103515245 * x3) + 12345) 16) ∧ zr 10 ∧ (10 : Int) ≠ 0 then
        z_bind (f_X2_addFrame 0 σ ((z_ushr ((1103515245 * x3) + 12345) 16).tmod 10)) fun _ σ1 =>
        K48 σ1 x2 ((1103515245 * x3) + 12345) (x4 + 1)
      else none
  else none
def f_X5_babble_l48 : Nat → zS → Int → Int → Int → Option (Int × zS)
  | 0, _, _, _, _ => none
  | n + 1, σ, x2, x3, x4 => f_X5_babble_b48 (f_X5_babble_l48 n) σ x2 x3 x4
def f_X5_babble_b12 (σ : zS) : Option (Int × zS) :=
  some ((-1), σ)
def f_X5_babble (σ : zS) (x1 : Int) (x2 : Int) : Option (Int × zS) :=
  if zr x2 then
    if x2 < 1 then
      f_X5_babble_b12 σ
    else
      if zr x2 then
        if x2 ≤ 200 then
          if zr ((σ 0 1) + x2) then
            if ((σ 0 1) + x2) ≤ 200 then
              z_bind (f_X1_keep 0 σ) fun _ σ1 =>
              f_X5_babble_l48 z_fuel σ1 x2 x1 0
            else
              some ((-3), σ)
          else none
        else
          f_X5_babble_b12 σ
      else none
  else none
def f_X5_mark_b43 (σ : zS) : Option (Int × zS) :=
  some ((-1), σ)
def f_X5_mark_b21 (σ : zS) : Option (Int × zS) :=
  some ((-1), σ)
def f_X5_mark (σ : zS) (x1 : Int) (x2 : Int) (x3 : Int) (x4 : Int) : Option (Int × zS) :=
  if zr x1 then
    if x1 < 0 then
      f_X5_mark_b21 σ
    else
      if zr x1 then
        if 3 < x1 then
          f_X5_mark_b21 σ
        else
          if zr x4 then
            if x4 < 0 then
              f_X5_mark_b21 σ
            else
              if zr x4 then
                if x4 ≤ 100 then
                  if zr x2 then
                    if x2 < 0 then
                      f_X5_mark_b43 σ
                    else
                      if zr x3 ∧ zr (σ 0 1) then
                        if (σ 0 1) < x3 then
                          f_X5_mark_b43 σ
                        else
                          if zr x3 ∧ zr x2 then
                            if x2 < x3 then
                              z_bind (f_X2_overlaps 0 σ x2 x3) fun r2 σ1 =>
                              if zr r2 then
                                if r2 = 0 then
                                  if zr (σ1 0 7) then
                                    if (σ1 0 7) < 20 then
                                      z_bind (f_X1_keep 0 σ1) fun _ σ3 =>
                                      z_bind (f_X2_addMark 0 σ3 x1 x2 x3 x4) fun r5 σ4 =>
                                      some (r5, σ4)
                                    else
                                      some ((-3), σ1)
                                  else none
                                else
                                  some ((-2), σ1)
                              else none
                            else
                              f_X5_mark_b43 σ
                          else none
                      else none
                  else none
                else
                  f_X5_mark_b21 σ
              else none
          else none
      else none
  else none
def f_X5_unmark (σ : zS) (x1 : Int) : Option (Int × zS) :=
  z_bind (f_X2_hasMark 0 σ x1) fun r2 σ1 =>
  if zr r2 then
    if ¬ r2 = 0 then
      z_bind (f_X1_keep 0 σ1) fun _ σ3 =>
      z_bind (f_X2_removeMark 0 σ3 x1) fun _ σ4 =>
      some (σ4 0 7, σ4)
    else
      some ((-1), σ1)
  else none
def f_X5_hold_b41 (σ : zS) (x1 : Int) (x2 : Int) (s0 : Int) : Option (Int × zS) :=
  if (0 ≤ x1 ∧ x1 < 20) ∧ 0 ≤ x2 ∧ x2 ≤ 1 then z_put σ 6 x1 x2 fun σ1 =>
    some (s0, σ1)
  else none
def f_X5_hold (σ : zS) (x1 : Int) (x2 : Int) : Option (Int × zS) :=
  z_bind (f_X2_hasMark 0 σ x1) fun r2 σ1 =>
  if zr r2 then
    if ¬ r2 = 0 then
      z_bind (f_X1_keep 0 σ1) fun _ σ3 =>
      if 0 ≤ x1 ∧ x1 < 20 then
        if zr (σ3 6 x1) then
          if (σ3 6 x1) = 0 then
            f_X5_hold_b41 σ3 x1 x2 0
          else
            f_X5_hold_b41 σ3 x1 x2 1
        else none
      else none
    else
      some ((-1), σ1)
  else none
def f_X5_setting_b51 (σ : zS) (s0 : Int) : Option (Int × zS) :=
  some (s0, σ)
def f_X5_setting_b10 (σ : zS) : Option (Int × zS) :=
  some ((-1), σ)
def f_X5_setting (σ : zS) (x1 : Int) : Option (Int × zS) :=
  if zr x1 then
    if x1 < 0 then
      f_X5_setting_b10 σ
    else
      if zr x1 then
        if x1 ≤ 8 then
          if zr x1 then
            if 7 ≤ x1 then
              if zr x1 then
                if ¬ x1 = 7 then
                  f_X5_setting_b51 σ (σ 0 7)
                else
                  f_X5_setting_b51 σ (σ 0 1)
              else none
            else
              if 0 ≤ x1 ∧ x1 < 7 then
                some (σ 7 x1, σ)
              else none
          else none
        else
          f_X5_setting_b10 σ
      else none
  else none
def f_X5_currentCuts (σ : zS) : Option (Unit × zS) :=
  if 0 ≤ (0 : Int) ∧ (0 : Int) < 7 then
    if 0 ≤ (2 : Int) ∧ (2 : Int) < 7 then
      z_bind (f_X0_find σ (σ 7 0) (σ 7 2)) fun _ σ1 =>
      some ((), σ1)
    else none
  else none
def f_X5_about_b20 (σ : zS) : Option (Int × zS) :=
  some ((-1), σ)
def f_X5_about (σ : zS) (x1 : Int) (x2 : Int) : Option (Int × zS) :=
  z_bind (f_X2_hasMark 0 σ x1) fun r2 σ1 =>
  if zr r2 then
    if r2 = 0 then
      f_X5_about_b20 σ1
    else
      if zr x2 then
        if x2 < 0 then
          f_X5_about_b20 σ1
        else
          if zr x2 then
            if x2 ≤ 5 then
              if zr x2 then
                if ¬ x2 = 5 then
                  z_bind (f_X2_numberOfMark 0 σ1 x1 x2) fun r4 σ3 =>
                  some (r4, σ3)
                else
                  z_bind (f_X5_currentCuts σ1) fun _ σ5 =>
                  z_bind (f_X0_cutOfMark σ5 x1) fun r7 σ6 =>
                  some (r7, σ6)
              else none
            else
              f_X5_about_b20 σ1
          else none
      else none
  else none
def f_X5_level (σ : zS) (x1 : Int) : Option (Int × zS) :=
  z_bind (f_X2_hasFrame 0 σ x1) fun r2 σ1 =>
  if zr r2 then
    if ¬ r2 = 0 then
      z_bind (f_X2_levelAt 0 σ1 x1) fun r4 σ3 =>
      some (r4, σ3)
    else
      some ((-1), σ1)
  else none
def f_X5_cuts (σ : zS) : Option (Int × zS) :=
  z_bind (f_X5_currentCuts σ) fun _ σ1 =>
  some (σ1 48 5, σ1)
def f_X5_cut_b26 (σ : zS) : Option (Int × zS) :=
  some ((-1), σ)
def f_X5_cut (σ : zS) (x1 : Int) (x2 : Int) : Option (Int × zS) :=
  z_bind (f_X5_currentCuts σ) fun _ σ1 =>
  if zr x1 then
    if x1 < 0 then
      f_X5_cut_b26 σ1
    else
      if zr x1 ∧ zr (σ1 48 5) then
        if (σ1 48 5) ≤ x1 then
          f_X5_cut_b26 σ1
        else
          if zr x2 then
            if x2 < 0 then
              f_X5_cut_b26 σ1
            else
              if zr x2 then
                if x2 ≤ 4 then
                  z_bind (f_X0_numberOfCut σ1 x1 x2) fun r3 σ2 =>
                  some (r3, σ2)
                else
                  f_X5_cut_b26 σ1
              else none
          else none
      else none
  else none
def f_X5_sum (σ : zS) (x1 : Int) : Option (Int × zS) :=
  z_bind (f_X5_currentCuts σ) fun _ σ1 =>
  if zr x1 then
    if x1 = 0 then
      z_bind (f_X0_cutFrames σ1) fun r7 σ6 =>
      some (r7, σ6)
    else
      if x1 = 1 then
        z_bind (f_X0_pauseFrames σ1) fun r5 σ4 =>
        some (r5, σ4)
      else
        if x1 = 2 then
          z_bind (f_X0_roughCuts σ1) fun r3 σ2 =>
          some (r3, σ2)
        else
          some ((-1), σ1)
  else none
def f_X5_bestWindow_b54 (K7 : zS → Int → Int → Int → Option (Int × zS)) (σ : zS) (x1 : Int) (x2 : Int) (x3 : Int) : Option (Int × zS) :=
  K7 σ x1 x2 (x3 + 1)
def f_X5_bestWindow_b7 (K7 : zS → Int → Int → Int → Option (Int × zS)) (σ : zS) (x1 : Int) (x2 : Int) (x3 : Int) : Option (Int × zS) :=
  if zr x3 then
    if 20 < x3 then
      some (x1, σ)
    else
      if 0 ≤ (0 : Int) ∧ (0 : Int) < 7 then
        z_bind (f_X0_find σ (σ 7 0) x3) fun _ σ1 =>
        z_bind (f_X0_roughCuts σ1) fun r3 σ2 =>
        if zr r3 ∧ zr x2 then
          if x2 ≤ r3 then
            f_X5_bestWindow_b54 K7 σ2 x1 x2 x3
          else
            f_X5_bestWindow_b54 K7 σ2 x3 r3 x3
        else none
      else none
  else none
def f_X5_bestWindow_l7 : Nat → zS → Int → Int → Int → Option (Int × zS)
  | 0, _, _, _, _ => none
  | n + 1, σ, x1, x2, x3 => f_X5_bestWindow_b7 (f_X5_bestWindow_l7 n) σ x1 x2 x3
def f_X5_bestWindow (σ : zS) : Option (Int × zS) :=
  f_X5_bestWindow_l7 z_fuel σ 0 21 0
def f_X5_greatestDoubt_b53 (K9 : zS → Int → Int → Option (Int × zS)) (σ : zS) (x1 : Int) (x2 : Int) : Option (Int × zS) :=
  z_bind (f_X0_cutFrames σ) fun r2 σ1 =>
  if zr r2 ∧ zr x1 then
    if x1 < r2 then
      K9 σ1 x1 (x2 + (-1))
    else
      some (x2, σ1)
  else none
def f_X5_greatestDoubt_b32 (K9 : zS → Int → Int → Option (Int × zS)) (σ : zS) (x1 : Int) (x2 : Int) : Option (Int × zS) :=
  if 0 ≤ (2 : Int) ∧ (2 : Int) < 7 then
    z_bind (f_X0_find σ x2 (σ 7 2)) fun _ σ1 =>
    f_X5_greatestDoubt_b53 K9 σ1 x1 x2
  else none
def f_X5_greatestDoubt_b9 (K9 : zS → Int → Int → Option (Int × zS)) (σ : zS) (x1 : Int) (x2 : Int) : Option (Int × zS) :=
  if zr x2 then
    if x2 < 0 then
      some ((-9), σ)
    else
      if zr x2 then
        if x2 = 100 then
          f_X5_greatestDoubt_b32 K9 σ x1 x2
        else
          z_bind (f_X2_hasFillerOfDoubt 0 σ (x2 + 1)) fun r2 σ1 =>
          if zr r2 then
            if r2 = 0 then
              f_X5_greatestDoubt_b53 K9 σ1 x1 x2
            else
              f_X5_greatestDoubt_b32 K9 σ1 x1 x2
          else none
      else none
  else none
def f_X5_greatestDoubt_l9 : Nat → zS → Int → Int → Option (Int × zS)
  | 0, _, _, _ => none
  | n + 1, σ, x1, x2 => f_X5_greatestDoubt_b9 (f_X5_greatestDoubt_l9 n) σ x1 x2
def f_X5_greatestDoubt (σ : zS) (x1 : Int) : Option (Int × zS) :=
  if zr x1 then
    if 0 ≤ x1 then
      f_X5_greatestDoubt_l9 z_fuel σ x1 100
    else
      some ((-1), σ)
  else none
def f_X5_currentResult (σ : zS) : Option (Unit × zS) :=
  if 0 ≤ (0 : Int) ∧ (0 : Int) < 7 then
    if 0 ≤ (2 : Int) ∧ (2 : Int) < 7 then
      z_bind (f_X0_find σ (σ 7 0) (σ 7 2)) fun _ σ1 =>
      z_bind (f_X3_build σ1) fun _ σ2 =>
      some ((), σ2)
    else none
  else none
def f_X5_length (σ : zS) : Option (Int × zS) :=
  z_bind (f_X5_currentResult σ) fun _ σ1 =>
  some (σ1 54 2, σ1)
def f_X5_heard_b47 (σ : zS) (s0 : Int) : Option (Int × zS) :=
  some (s0, σ)
def f_X5_heard_b26 (σ : zS) : Option (Int × zS) :=
  some ((-1), σ)
def f_X5_heard (σ : zS) (x1 : Int) (x2 : Int) : Option (Int × zS) :=
  z_bind (f_X5_currentResult σ) fun _ σ1 =>
  if zr x1 then
    if x1 < 0 then
      f_X5_heard_b26 σ1
    else
      if zr x1 ∧ zr (σ1 54 2) then
        if (σ1 54 2) ≤ x1 then
          f_X5_heard_b26 σ1
        else
          if zr x2 then
            if x2 < 0 then
              f_X5_heard_b26 σ1
            else
              if zr x2 then
                if x2 ≤ 1 then
                  if zr x2 then
                    if ¬ x2 = 0 then
                      if 0 ≤ x1 ∧ x1 < 200 then
                        f_X5_heard_b47 σ1 (σ1 56 x1)
                      else none
                    else
                      if 0 ≤ x1 ∧ x1 < 200 then
                        f_X5_heard_b47 σ1 (σ1 55 x1)
                      else none
                  else none
                else
                  f_X5_heard_b26 σ1
              else none
          else none
      else none
  else none
def f_X5_where (σ : zS) (x1 : Int) : Option (Int × zS) :=
  z_bind (f_X2_hasFrame 0 σ x1) fun r2 σ1 =>
  if zr r2 then
    if ¬ r2 = 0 then
      z_bind (f_X5_currentResult σ1) fun _ σ3 =>
      z_bind (f_X3_placeOfSource σ3 x1) fun r5 σ4 =>
      some (r5, σ4)
    else
      some ((-1), σ1)
  else none
def f_X5_clicks_b10 (σ : zS) : Option (Int × zS) :=
  some ((-1), σ)
def f_X5_clicks (σ : zS) (x1 : Int) : Option (Int × zS) :=
  if zr x1 then
    if x1 < 0 then
      f_X5_clicks_b10 σ
    else
      if zr x1 then
        if x1 ≤ 9 then
          z_bind (f_X5_currentResult σ) fun _ σ1 =>
          z_bind (f_X3_stepsGreaterThan σ1 x1) fun r3 σ2 =>
          some (r3, σ2)
        else
          f_X5_clicks_b10 σ
      else none
  else none
def f_X5_silence (σ : zS) : Option (Int × zS) :=
  z_bind (f_X5_currentResult σ) fun _ σ1 =>
  if 0 ≤ (1 : Int) ∧ (1 : Int) < 7 then
    z_bind (f_X3_longestStretchUpTo σ1 (σ1 7 1)) fun r3 σ2 =>
    some (r3, σ2)
  else none
def f_X5_undo (σ : zS) : Option (Int × zS) :=
  if zr (σ 60 1) then
    if ¬ (σ 60 1) = 0 then
      z_bind (f_X1_restoreLatest 0 σ) fun _ σ1 =>
      some (σ1 60 1, σ1)
    else
      some ((-9), σ)
  else none
def f_X5_withMarks_b21 (K6 : zS → Int → Int → Option (Int × zS)) (K21 : zS → Int → Int → Int → Option (Int × zS)) (σ : zS) (y4 : Int) (x6 : Int) (x7 : Int) : Option (Int × zS) :=
  if zr x7 then
    if 5 ≤ x7 then
      z_bind (f_X0_cutOfMark σ x6) fun r2 σ1 =>
      if zr r2 then
        K6 σ1 ((31 * y4) + r2) (x6 + 1)
      else none
    else
      z_bind (f_X2_numberOfMark 0 σ x6 x7) fun r4 σ3 =>
      if zr r4 then
        K21 σ3 ((31 * y4) + r4) x6 (x7 + 1)
      else none
  else none
def f_X5_withMarks_l21 (K6 : zS → Int → Int → Option (Int × zS)) : Nat → zS → Int → Int → Int → Option (Int × zS)
  | 0, _, _, _, _ => none
  | n + 1, σ, y4, x6, x7 => f_X5_withMarks_b21 K6 (f_X5_withMarks_l21 K6 n) σ y4 x6 x7
def f_X5_withMarks_b6 (K6 : zS → Int → Int → Option (Int × zS)) (σ : zS) (y4 : Int) (x6 : Int) : Option (Int × zS) :=
  if zr x6 ∧ zr (σ 0 7) then
    if (σ 0 7) ≤ x6 then
      some (y4, σ)
    else
      f_X5_withMarks_l21 K6 z_fuel σ y4 x6 0
  else none
def f_X5_withMarks_l6 : Nat → zS → Int → Int → Option (Int × zS)
  | 0, _, _, _ => none
  | n + 1, σ, y4, x6 => f_X5_withMarks_b6 (f_X5_withMarks_l6 n) σ y4 x6
def f_X5_withMarks (σ : zS) (y1 : Int) : Option (Int × zS) :=
  f_X5_withMarks_l6 z_fuel σ y1 0
def f_X5_withCuts_b28 (K16 : zS → Int → Int → Option (Int × zS)) (K28 : zS → Int → Int → Int → Option (Int × zS)) (σ : zS) (y4 : Int) (x6 : Int) (x7 : Int) : Option (Int × zS) :=
  if zr x7 then
    if 5 ≤ x7 then
      K16 σ y4 (x6 + 1)
    else
      z_bind (f_X0_numberOfCut σ x6 x7) fun r2 σ1 =>
      if zr r2 then
        K28 σ1 ((31 * y4) + r2) x6 (x7 + 1)
      else none
  else none
def f_X5_withCuts_l28 (K16 : zS → Int → Int → Option (Int × zS)) : Nat → zS → Int → Int → Int → Option (Int × zS)
  | 0, _, _, _, _ => none
  | n + 1, σ, y4, x6, x7 => f_X5_withCuts_b28 K16 (f_X5_withCuts_l28 K16 n) σ y4 x6 x7
def f_X5_withCuts_b16 (K16 : zS → Int → Int → Option (Int × zS)) (σ : zS) (y4 : Int) (x6 : Int) : Option (Int × zS) :=
  if zr x6 ∧ zr (σ 48 5) then
    if (σ 48 5) ≤ x6 then
      some (y4, σ)
    else
      f_X5_withCuts_l28 K16 z_fuel σ y4 x6 0
  else none
def f_X5_withCuts_l16 : Nat → zS → Int → Int → Option (Int × zS)
  | 0, _, _, _ => none
  | n + 1, σ, y4, x6 => f_X5_withCuts_b16 (f_X5_withCuts_l16 n) σ y4 x6
def f_X5_withCuts (σ : zS) (y1 : Int) : Option (Int × zS) :=
  if zr (σ 48 5) then
    f_X5_withCuts_l16 z_fuel σ ((31 * y1) + (σ 48 5)) 0
  else none
def f_X5_withResult_b16 (K16 : zS → Int → Int → Option (Int × zS)) (σ : zS) (y4 : Int) (x6 : Int) : Option (Int × zS) :=
  if zr x6 ∧ zr (σ 54 2) then
    if (σ 54 2) ≤ x6 then
      some (y4, σ)
    else
      if 0 ≤ x6 ∧ x6 < 200 then
        if zr (σ 55 x6) then
          if 0 ≤ x6 ∧ x6 < 200 then
            if zr (σ 56 x6) then
              K16 σ ((31 * ((31 * y4) + (σ 55 x6))) + (σ 56 x6)) (x6 + 1)
            else none
          else none
        else none
      else none
  else none
def f_X5_withResult_l16 : Nat → zS → Int → Int → Option (Int × zS)
  | 0, _, _, _ => none
  | n + 1, σ, y4, x6 => f_X5_withResult_b16 (f_X5_withResult_l16 n) σ y4 x6
def f_X5_withResult (σ : zS) (y1 : Int) : Option (Int × zS) :=
  if zr (σ 54 2) then
    f_X5_withResult_l16 z_fuel σ ((31 * y1) + (σ 54 2)) 0
  else none
def f_X5_fingerprint_b33 (K33 : zS → Int → Int → Option (Int × zS)) (σ : zS) (y1 : Int) (x3 : Int) : Option (Int × zS) :=
  if zr x3 ∧ zr (σ 0 1) then
    if (σ 0 1) ≤ x3 then
      z_bind (f_X5_currentCuts σ) fun _ σ1 =>
      z_bind (f_X5_withMarks σ1 y1) fun r3 σ2 =>
      z_bind (f_X5_withCuts σ2 r3) fun r5 σ4 =>
      z_bind (f_X5_currentResult σ4) fun _ σ6 =>
      z_bind (f_X5_withResult σ6 r5) fun r8 σ7 =>
      some (r8, σ7)
    else
      if 0 ≤ x3 ∧ x3 < 200 then
        if zr (σ 1 x3) then
          K33 σ ((31 * y1) + (σ 1 x3)) (x3 + 1)
        else none
      else none
  else none
def f_X5_fingerprint_l33 : Nat → zS → Int → Int → Option (Int × zS)
  | 0, _, _, _ => none
  | n + 1, σ, y1, x3 => f_X5_fingerprint_b33 (f_X5_fingerprint_l33 n) σ y1 x3
def f_X5_fingerprint_b6 (K6 : zS → Int → Int → Option (Int × zS)) (σ : zS) (y1 : Int) (x3 : Int) : Option (Int × zS) :=
  if zr x3 then
    if 8 < x3 then
      f_X5_fingerprint_l33 z_fuel σ y1 0
    else
      z_bind (f_X5_setting σ x3) fun r2 σ1 =>
      if zr r2 then
        K6 σ1 ((31 * y1) + r2) (x3 + 1)
      else none
  else none
def f_X5_fingerprint_l6 : Nat → zS → Int → Int → Option (Int × zS)
  | 0, _, _, _ => none
  | n + 1, σ, y1, x3 => f_X5_fingerprint_b6 (f_X5_fingerprint_l6 n) σ y1 x3
def f_X5_fingerprint (σ : zS) : Option (Int × zS) :=
  f_X5_fingerprint_l6 z_fuel σ 151 0
end
section
-- ===== PART A: goes FIRST, ahead of the names: the tables' words, and 'selects' of the private methods out of them =====
/-- a private method of a class that the tables say can be made, by its rows of tables_1 -/
def lw_okq (q : MethodName × Nat) : Prop := (q.1.cls ≠ "java/lang/invoke/MethodHandle" ∧ q.1.cls ≠ "java/lang/invoke/VarHandle") ∧ Cond.instantiable q.1.cls q.2 ∈ tables_1 ∧ Cond.privateMethod q.1 ∈ tables_1 ∧ Cond.instanceMethod q.1 ∈ tables_1
theorem lw_p0 : lw_okq (⟨"SpeechCleaner", "currentCuts", "()LSpeechCleaner$CutList;"⟩, 7) := ⟨⟨by decide +kernel, by decide +kernel⟩, List.mem_of_getElem? (i := 10) (by decide +kernel), List.mem_of_getElem? (i := 276) (by decide +kernel), List.mem_of_getElem? (i := 277) (by decide +kernel)⟩
theorem lw_p1 : lw_okq (⟨"SpeechCleaner", "currentResult", "()LSpeechCleaner$Result;"⟩, 7) := ⟨⟨by decide +kernel, by decide +kernel⟩, List.mem_of_getElem? (i := 10) (by decide +kernel), List.mem_of_getElem? (i := 362) (by decide +kernel), List.mem_of_getElem? (i := 363) (by decide +kernel)⟩
theorem lw_p2 : lw_okq (⟨"SpeechCleaner", "withMarks", "(JLSpeechCleaner$CutList;)J"⟩, 7) := ⟨⟨by decide +kernel, by decide +kernel⟩, List.mem_of_getElem? (i := 10) (by decide +kernel), List.mem_of_getElem? (i := 435) (by decide +kernel), List.mem_of_getElem? (i := 436) (by decide +kernel)⟩
theorem lw_p3 : lw_okq (⟨"SpeechCleaner", "withCuts", "(JLSpeechCleaner$CutList;)J"⟩, 7) := ⟨⟨by decide +kernel, by decide +kernel⟩, List.mem_of_getElem? (i := 10) (by decide +kernel), List.mem_of_getElem? (i := 439) (by decide +kernel), List.mem_of_getElem? (i := 440) (by decide +kernel)⟩
theorem lw_p4 : lw_okq (⟨"SpeechCleaner", "withResult", "(JLSpeechCleaner$Result;)J"⟩, 7) := ⟨⟨by decide +kernel, by decide +kernel⟩, List.mem_of_getElem? (i := 10) (by decide +kernel), List.mem_of_getElem? (i := 447) (by decide +kernel), List.mem_of_getElem? (i := 448) (by decide +kernel)⟩
def lw_privs_1 : List (MethodName × Nat) := [(⟨"SpeechCleaner", "currentCuts", "()LSpeechCleaner$CutList;"⟩, 7), (⟨"SpeechCleaner", "currentResult", "()LSpeechCleaner$Result;"⟩, 7), (⟨"SpeechCleaner", "withMarks", "(JLSpeechCleaner$CutList;)J"⟩, 7), (⟨"SpeechCleaner", "withCuts", "(JLSpeechCleaner$CutList;)J"⟩, 7), (⟨"SpeechCleaner", "withResult", "(JLSpeechCleaner$Result;)J"⟩, 7)]
theorem lw_r1 : ∀ q ∈ lw_privs_1, lw_okq q := List.forall_mem_cons.mpr ⟨lw_p0, List.forall_mem_cons.mpr ⟨lw_p1, List.forall_mem_cons.mpr ⟨lw_p2, List.forall_mem_cons.mpr ⟨lw_p3, List.forall_mem_cons.mpr ⟨lw_p4, fun _ h => absurd h List.not_mem_nil⟩⟩⟩⟩⟩
def lw_privs : List (MethodName × Nat) := lw_privs_1
def lw_tbl : List Cond := k2_sels lw_privs ++ tables_1
theorem lw_privs_ok : ∀ q ∈ lw_privs, lw_okq q := lw_r1
/-- the streams that the claim lets the run draw from -/
abbrev lw_cs : List Choice := [Jvm.Choice.named "NaN.bits"]
theorem lw_bits : nanBits ∈ lw_cs := by first | decide | exact List.mem_cons_self | simp [lw_cs, nanBits]

def RX0 : String := "SpeechCleaner$CutList"
def TX0 : u_T := fun k => match k with
  | 0 => ("SpeechCleaner$CutList", "begins", "[I", true)
  | 1 => ("SpeechCleaner$CutList", "ends", "[I", true)
  | 2 => ("SpeechCleaner$CutList", "pauses", "[I", true)
  | 3 => ("SpeechCleaner$CutList", "rough", "[Z", true)
  | 4 => ("SpeechCleaner$CutList", "markNumbers", "[I", true)
  | _ => ("SpeechCleaner$CutList", "count", "I", false)
def tyX0 : Nat → FieldType := fun k => match k with
  | 0 => .array .int
  | 1 => .array .int
  | 2 => .array .int
  | 3 => .array .boolean
  | 4 => .array .int
  | _ => .int
abbrev wsX00 : List Cond := u_ws RX0 TX0 6
theorem nmX0 : ∀ a, a < 6 → ∀ b, b < 6 → a ≠ b → (TX0 a).2.1 ≠ (TX0 b).2.1 := by decide +kernel
theorem tyX0_ok : ∀ k, k < 6 → parseFieldDescriptor (TX0 k).2.2.1 = some (tyX0 k) := by decide +kernel
abbrev cX0_init : ByteArray := prog_2_method_1_code
def yX0_init : MethodName := ⟨RX0, "<init>", "()V"⟩
abbrev cX0_find : ByteArray := prog_2_method_2_code
def yX0_find : MethodName := ⟨RX0, "find", "(LSpeechCleaner$Recording;II)V"⟩
abbrev cX0_addFillerCut : ByteArray := prog_2_method_3_code
def yX0_addFillerCut : MethodName := ⟨RX0, "addFillerCut", "(LSpeechCleaner$Recording;II)V"⟩
abbrev cX0_addBreathCut : ByteArray := prog_2_method_4_code
def yX0_addBreathCut : MethodName := ⟨RX0, "addBreathCut", "(LSpeechCleaner$Recording;I)V"⟩
abbrev cX0_addCut : ByteArray := prog_2_method_5_code
def yX0_addCut : MethodName := ⟨RX0, "addCut", "(IIIZI)V"⟩
abbrev cX0_endOfLastCut : ByteArray := prog_2_method_6_code
def yX0_endOfLastCut : MethodName := ⟨RX0, "endOfLastCut", "()I"⟩
abbrev cX0_cutOfMark : ByteArray := prog_2_method_7_code
def yX0_cutOfMark : MethodName := ⟨RX0, "cutOfMark", "(I)I"⟩
abbrev cX0_numberOfCut : ByteArray := prog_2_method_8_code
def yX0_numberOfCut : MethodName := ⟨RX0, "numberOfCut", "(II)I"⟩
abbrev cX0_cutFrames : ByteArray := prog_2_method_9_code
def yX0_cutFrames : MethodName := ⟨RX0, "cutFrames", "()I"⟩
abbrev cX0_pauseFrames : ByteArray := prog_2_method_10_code
def yX0_pauseFrames : MethodName := ⟨RX0, "pauseFrames", "()I"⟩
abbrev cX0_roughCuts : ByteArray := prog_2_method_11_code
def yX0_roughCuts : MethodName := ⟨RX0, "roughCuts", "()I"⟩
def RX1 : String := "SpeechCleaner$History"
def TX1 : u_T := fun k => match k with
  | 0 => ("SpeechCleaner$History", "states", "[LSpeechCleaner$Recording;", true)
  | _ => ("SpeechCleaner$History", "count", "I", false)
def tyX1 : Nat → FieldType := fun k => match k with
  | 0 => .array (.object "SpeechCleaner$Recording")
  | _ => .int
abbrev wsX10 : List Cond := u_ws RX1 TX1 2
theorem nmX1 : ∀ a, a < 2 → ∀ b, b < 2 → a ≠ b → (TX1 a).2.1 ≠ (TX1 b).2.1 := by decide +kernel
theorem tyX1_ok : ∀ k, k < 2 → parseFieldDescriptor (TX1 k).2.2.1 = some (tyX1 k) := by decide +kernel
abbrev cX1_init : ByteArray := prog_3_method_1_code
def yX1_init : MethodName := ⟨RX1, "<init>", "()V"⟩
abbrev cX1_keep : ByteArray := prog_3_method_2_code
def yX1_keep : MethodName := ⟨RX1, "keep", "(LSpeechCleaner$Recording;)V"⟩
abbrev cX1_dropOldest : ByteArray := prog_3_method_3_code
def yX1_dropOldest : MethodName := ⟨RX1, "dropOldest", "()V"⟩
abbrev cX1_restoreLatest : ByteArray := prog_3_method_4_code
def yX1_restoreLatest : MethodName := ⟨RX1, "restoreLatest", "(LSpeechCleaner$Recording;)V"⟩
def RX2 : String := "SpeechCleaner$Recording"
def TX2 : u_T := fun k => match k with
  | 0 => ("SpeechCleaner$Recording", "levels", "[I", true)
  | 1 => ("SpeechCleaner$Recording", "frames", "I", false)
  | 2 => ("SpeechCleaner$Recording", "kinds", "[I", true)
  | 3 => ("SpeechCleaner$Recording", "firsts", "[I", true)
  | 4 => ("SpeechCleaner$Recording", "ends", "[I", true)
  | 5 => ("SpeechCleaner$Recording", "doubts", "[I", true)
  | 6 => ("SpeechCleaner$Recording", "held", "[Z", true)
  | 7 => ("SpeechCleaner$Recording", "marks", "I", false)
  | _ => ("SpeechCleaner$Recording", "settings", "[I", true)
def tyX2 : Nat → FieldType := fun k => match k with
  | 0 => .array .int
  | 1 => .int
  | 2 => .array .int
  | 3 => .array .int
  | 4 => .array .int
  | 5 => .array .int
  | 6 => .array .boolean
  | 7 => .int
  | _ => .array .int
abbrev wsX20 : List Cond := u_ws RX2 TX2 9
theorem nmX2 : ∀ a, a < 9 → ∀ b, b < 9 → a ≠ b → (TX2 a).2.1 ≠ (TX2 b).2.1 := by decide +kernel
theorem tyX2_ok : ∀ k, k < 9 → parseFieldDescriptor (TX2 k).2.2.1 = some (tyX2 k) := by decide +kernel
abbrev cX2_init : ByteArray := prog_4_method_1_code
def yX2_init : MethodName := ⟨RX2, "<init>", "()V"⟩
abbrev cX2_copyAll : ByteArray := prog_4_method_2_code
def yX2_copyAll : MethodName := ⟨RX2, "copyAll", "(LSpeechCleaner$Recording;)V"⟩
abbrev cX2_copySound : ByteArray := prog_4_method_3_code
def yX2_copySound : MethodName := ⟨RX2, "copySound", "(LSpeechCleaner$Recording;)V"⟩
abbrev cX2_addFrame : ByteArray := prog_4_method_5_code
def yX2_addFrame : MethodName := ⟨RX2, "addFrame", "(I)V"⟩
abbrev cX2_hasFrame : ByteArray := prog_4_method_6_code
def yX2_hasFrame : MethodName := ⟨RX2, "hasFrame", "(I)Z"⟩
abbrev cX2_levelAt : ByteArray := prog_4_method_7_code
def yX2_levelAt : MethodName := ⟨RX2, "levelAt", "(I)I"⟩
abbrev cX2_hasMark : ByteArray := prog_4_method_8_code
def yX2_hasMark : MethodName := ⟨RX2, "hasMark", "(I)Z"⟩
abbrev cX2_overlaps : ByteArray := prog_4_method_9_code
def yX2_overlaps : MethodName := ⟨RX2, "overlaps", "(II)Z"⟩
abbrev cX2_addMark : ByteArray := prog_4_method_10_code
def yX2_addMark : MethodName := ⟨RX2, "addMark", "(IIII)I"⟩
abbrev cX2_removeMark : ByteArray := prog_4_method_11_code
def yX2_removeMark : MethodName := ⟨RX2, "removeMark", "(I)V"⟩
abbrev cX2_copyMark : ByteArray := prog_4_method_12_code
def yX2_copyMark : MethodName := ⟨RX2, "copyMark", "(LSpeechCleaner$Recording;II)V"⟩
abbrev cX2_numberOfMark : ByteArray := prog_4_method_13_code
def yX2_numberOfMark : MethodName := ⟨RX2, "numberOfMark", "(II)I"⟩
abbrev cX2_hasFillerOfDoubt : ByteArray := prog_4_method_14_code
def yX2_hasFillerOfDoubt : MethodName := ⟨RX2, "hasFillerOfDoubt", "(I)Z"⟩
abbrev cX2_endOfMarkBefore : ByteArray := prog_4_method_15_code
def yX2_endOfMarkBefore : MethodName := ⟨RX2, "endOfMarkBefore", "(I)I"⟩
abbrev cX2_firstOfMarkAfter : ByteArray := prog_4_method_16_code
def yX2_firstOfMarkAfter : MethodName := ⟨RX2, "firstOfMarkAfter", "(I)I"⟩
abbrev cX2_nearestQuietSeam : ByteArray := prog_4_method_17_code
def yX2_nearestQuietSeam : MethodName := ⟨RX2, "nearestQuietSeam", "(IIII)I"⟩
abbrev cX2_isQuiet : ByteArray := prog_4_method_18_code
def yX2_isQuiet : MethodName := ⟨RX2, "isQuiet", "(I)Z"⟩
def RX3 : String := "SpeechCleaner$Result"
def TX3 : u_T := fun k => match k with
  | 0 => ("SpeechCleaner$Result", "sources", "[I", true)
  | 1 => ("SpeechCleaner$Result", "levels", "[I", true)
  | 2 => ("SpeechCleaner$Result", "count", "I", false)
  | 3 => ("SpeechCleaner$Result", "room", "[I", true)
  | 4 => ("SpeechCleaner$Result", "roomFrames", "I", false)
  | 5 => ("SpeechCleaner$Result", "roomPlace", "I", false)
  | _ => ("SpeechCleaner$Result", "noisy", "[Z", true)
def tyX3 : Nat → FieldType := fun k => match k with
  | 0 => .array .int
  | 1 => .array .int
  | 2 => .int
  | 3 => .array .int
  | 4 => .int
  | 5 => .int
  | _ => .array .boolean
abbrev wsX30 : List Cond := u_ws RX3 TX3 7
theorem nmX3 : ∀ a, a < 7 → ∀ b, b < 7 → a ≠ b → (TX3 a).2.1 ≠ (TX3 b).2.1 := by decide +kernel
theorem tyX3_ok : ∀ k, k < 7 → parseFieldDescriptor (TX3 k).2.2.1 = some (tyX3 k) := by decide +kernel
abbrev cX3_init : ByteArray := prog_5_method_1_code
def yX3_init : MethodName := ⟨RX3, "<init>", "()V"⟩
abbrev cX3_build : ByteArray := prog_5_method_2_code
def yX3_build : MethodName := ⟨RX3, "build", "(LSpeechCleaner$Recording;LSpeechCleaner$CutList;)V"⟩
abbrev cX3_gatherRoomAndNoise : ByteArray := prog_5_method_3_code
def yX3_gatherRoomAndNoise : MethodName := ⟨RX3, "gatherRoomAndNoise", "(LSpeechCleaner$Recording;)V"⟩
abbrev cX3_gatherFrame : ByteArray := prog_5_method_4_code
def yX3_gatherFrame : MethodName := ⟨RX3, "gatherFrame", "(II)V"⟩
abbrev cX3_addRecorded : ByteArray := prog_5_method_5_code
def yX3_addRecorded : MethodName := ⟨RX3, "addRecorded", "(LSpeechCleaner$Recording;II)V"⟩
abbrev cX3_addPause : ByteArray := prog_5_method_6_code
def yX3_addPause : MethodName := ⟨RX3, "addPause", "(LSpeechCleaner$Recording;I)V"⟩
abbrev cX3_nextRoomFrame : ByteArray := prog_5_method_7_code
def yX3_nextRoomFrame : MethodName := ⟨RX3, "nextRoomFrame", "()I"⟩
abbrev cX3_add : ByteArray := prog_5_method_8_code
def yX3_add : MethodName := ⟨RX3, "add", "(II)V"⟩
abbrev cX3_placeOfSource : ByteArray := prog_5_method_9_code
def yX3_placeOfSource : MethodName := ⟨RX3, "placeOfSource", "(I)I"⟩
abbrev cX3_stepsGreaterThan : ByteArray := prog_5_method_10_code
def yX3_stepsGreaterThan : MethodName := ⟨RX3, "stepsGreaterThan", "(I)I"⟩
abbrev cX3_sumOfLevels : ByteArray := prog_5_method_11_code
def yX3_sumOfLevels : MethodName := ⟨RX3, "sumOfLevels", "()I"⟩
abbrev cX3_longestStretchUpTo : ByteArray := prog_5_method_12_code
def yX3_longestStretchUpTo : MethodName := ⟨RX3, "longestStretchUpTo", "(I)I"⟩
def RX4 : String := "SpeechCleaner$TextReader"
def TX4 : u_T := fun k => match k with
  | 0 => ("SpeechCleaner$TextReader", "draft", "LSpeechCleaner$Recording;", true)
  | 1 => ("SpeechCleaner$TextReader", "stage", "I", false)
  | 2 => ("SpeechCleaner$TextReader", "kind", "I", false)
  | 3 => ("SpeechCleaner$TextReader", "first", "I", false)
  | 4 => ("SpeechCleaner$TextReader", "doubt", "I", false)
  | 5 => ("SpeechCleaner$TextReader", "doubtDigits", "I", false)
  | _ => ("SpeechCleaner$TextReader", "wrongDoubtPlace", "I", false)
def tyX4 : Nat → FieldType := fun k => match k with
  | 0 => .object "SpeechCleaner$Recording"
  | 1 => .int
  | 2 => .int
  | 3 => .int
  | 4 => .int
  | 5 => .int
  | _ => .int
abbrev wsX40 : List Cond := u_ws RX4 TX4 7
theorem nmX4 : ∀ a, a < 7 → ∀ b, b < 7 → a ≠ b → (TX4 a).2.1 ≠ (TX4 b).2.1 := by decide +kernel
theorem tyX4_ok : ∀ k, k < 7 → parseFieldDescriptor (TX4 k).2.2.1 = some (tyX4 k) := by decide +kernel
abbrev cX4_init : ByteArray := prog_6_method_1_code
def yX4_init : MethodName := ⟨RX4, "<init>", "()V"⟩
def RX5 : String := "SpeechCleaner"
def TX5 : u_T := fun k => match k with
  | 0 => ("SpeechCleaner", "buffer", "[I", true)
  | 1 => ("SpeechCleaner", "characters", "I", false)
  | 2 => ("SpeechCleaner", "recording", "LSpeechCleaner$Recording;", true)
  | 3 => ("SpeechCleaner", "history", "LSpeechCleaner$History;", true)
  | 4 => ("SpeechCleaner", "reader", "LSpeechCleaner$TextReader;", true)
  | 5 => ("SpeechCleaner", "cutList", "LSpeechCleaner$CutList;", true)
  | _ => ("SpeechCleaner", "result", "LSpeechCleaner$Result;", true)
def tyX5 : Nat → FieldType := fun k => match k with
  | 0 => .array .int
  | 1 => .int
  | 2 => .object "SpeechCleaner$Recording"
  | 3 => .object "SpeechCleaner$History"
  | 4 => .object "SpeechCleaner$TextReader"
  | 5 => .object "SpeechCleaner$CutList"
  | _ => .object "SpeechCleaner$Result"
abbrev wsX50 : List Cond := u_ws RX5 TX5 7
theorem nmX5 : ∀ a, a < 7 → ∀ b, b < 7 → a ≠ b → (TX5 a).2.1 ≠ (TX5 b).2.1 := by decide +kernel
theorem tyX5_ok : ∀ k, k < 7 → parseFieldDescriptor (TX5 k).2.2.1 = some (tyX5 k) := by decide +kernel
abbrev cX5_init : ByteArray := prog_1_method_1_code
def yX5_init : MethodName := ⟨RX5, "<init>", "()V"⟩
abbrev cX5_type : ByteArray := prog_1_method_2_code
def yX5_type : MethodName := ⟨RX5, "type", "(I)I"⟩
abbrev cX5_append : ByteArray := prog_1_method_5_code
def yX5_append : MethodName := ⟨RX5, "append", "(II)I"⟩
abbrev cX5_babble : ByteArray := prog_1_method_6_code
def yX5_babble : MethodName := ⟨RX5, "babble", "(II)I"⟩
abbrev cX5_mark : ByteArray := prog_1_method_7_code
def yX5_mark : MethodName := ⟨RX5, "mark", "(IIII)I"⟩
abbrev cX5_unmark : ByteArray := prog_1_method_8_code
def yX5_unmark : MethodName := ⟨RX5, "unmark", "(I)I"⟩
abbrev cX5_hold : ByteArray := prog_1_method_9_code
def yX5_hold : MethodName := ⟨RX5, "hold", "(IZ)I"⟩
abbrev cX5_set : ByteArray := prog_1_method_10_code
def yX5_set : MethodName := ⟨RX5, "set", "(II)I"⟩
abbrev cX5_setting : ByteArray := prog_1_method_11_code
def yX5_setting : MethodName := ⟨RX5, "setting", "(I)I"⟩
abbrev cX5_about : ByteArray := prog_1_method_12_code
def yX5_about : MethodName := ⟨RX5, "about", "(II)I"⟩
abbrev cX5_level : ByteArray := prog_1_method_13_code
def yX5_level : MethodName := ⟨RX5, "level", "(I)I"⟩
abbrev cX5_cuts : ByteArray := prog_1_method_14_code
def yX5_cuts : MethodName := ⟨RX5, "cuts", "()I"⟩
abbrev cX5_cut : ByteArray := prog_1_method_15_code
def yX5_cut : MethodName := ⟨RX5, "cut", "(II)I"⟩
abbrev cX5_sum : ByteArray := prog_1_method_16_code
def yX5_sum : MethodName := ⟨RX5, "sum", "(I)I"⟩
abbrev cX5_bestWindow : ByteArray := prog_1_method_17_code
def yX5_bestWindow : MethodName := ⟨RX5, "bestWindow", "()I"⟩
abbrev cX5_greatestDoubt : ByteArray := prog_1_method_18_code
def yX5_greatestDoubt : MethodName := ⟨RX5, "greatestDoubt", "(I)I"⟩
abbrev cX5_length : ByteArray := prog_1_method_19_code
def yX5_length : MethodName := ⟨RX5, "length", "()I"⟩
abbrev cX5_heard : ByteArray := prog_1_method_20_code
def yX5_heard : MethodName := ⟨RX5, "heard", "(II)I"⟩
abbrev cX5_where : ByteArray := prog_1_method_21_code
def yX5_where : MethodName := ⟨RX5, "where", "(I)I"⟩
abbrev cX5_clicks : ByteArray := prog_1_method_22_code
def yX5_clicks : MethodName := ⟨RX5, "clicks", "(I)I"⟩
abbrev cX5_loudness : ByteArray := prog_1_method_23_code
def yX5_loudness : MethodName := ⟨RX5, "loudness", "()F"⟩
abbrev cX5_share : ByteArray := prog_1_method_24_code
def yX5_share : MethodName := ⟨RX5, "share", "()F"⟩
abbrev cX5_silence : ByteArray := prog_1_method_25_code
def yX5_silence : MethodName := ⟨RX5, "silence", "()I"⟩
abbrev cX5_undo : ByteArray := prog_1_method_26_code
def yX5_undo : MethodName := ⟨RX5, "undo", "()I"⟩
abbrev cX5_fingerprint : ByteArray := prog_1_method_27_code
def yX5_fingerprint : MethodName := ⟨RX5, "fingerprint", "()J"⟩
abbrev cX5_withMarks : ByteArray := prog_1_method_28_code
def yX5_withMarks : MethodName := ⟨RX5, "withMarks", "(JLSpeechCleaner$CutList;)J"⟩
abbrev cX5_withCuts : ByteArray := prog_1_method_29_code
def yX5_withCuts : MethodName := ⟨RX5, "withCuts", "(JLSpeechCleaner$CutList;)J"⟩
abbrev cX5_withResult : ByteArray := prog_1_method_30_code
def yX5_withResult : MethodName := ⟨RX5, "withResult", "(JLSpeechCleaner$Result;)J"⟩
abbrev cX5_currentCuts : ByteArray := prog_1_method_31_code
def yX5_currentCuts : MethodName := ⟨RX5, "currentCuts", "()LSpeechCleaner$CutList;"⟩
abbrev cX5_currentResult : ByteArray := prog_1_method_32_code
def yX5_currentResult : MethodName := ⟨RX5, "currentResult", "()LSpeechCleaner$Result;"⟩
def RX6 : String := "SpeechCleanerModel"
def TX6 : u_T := fun k => match k with
  | _ => ("", "", "", false)
def tyX6 : Nat → FieldType := fun k => match k with
  | _ => .int
abbrev wsX60 : List Cond := u_ws RX6 TX6 0
theorem nmX6 : ∀ a, a < 0 → ∀ b, b < 0 → a ≠ b → (TX6 a).2.1 ≠ (TX6 b).2.1 := by decide +kernel
theorem tyX6_ok : ∀ k, k < 0 → parseFieldDescriptor (TX6 k).2.2.1 = some (tyX6 k) := by decide +kernel
def RJ9 : String := "java/lang/Math"
def TJ9 : u_T := fun k => match k with
  | _ => ("", "", "", false)
def tyJ9 : Nat → FieldType := fun k => match k with
  | _ => .int
abbrev wsJ90 : List Cond := u_ws RJ9 TJ9 0
theorem nmJ9 : ∀ a, a < 0 → ∀ b, b < 0 → a ≠ b → (TJ9 a).2.1 ≠ (TJ9 b).2.1 := by decide +kernel
theorem tyJ9_ok : ∀ k, k < 0 → parseFieldDescriptor (TJ9 k).2.2.1 = some (tyJ9 k) := by decide +kernel
abbrev cJ9_abs_0f7a4 : ByteArray := prog_9_method_59_code
def yJ9_abs_0f7a4 : MethodName := ⟨RJ9, "abs", "(I)I"⟩
abbrev cJ9_max_7cf53 : ByteArray := prog_9_method_65_code
def yJ9_max_7cf53 : MethodName := ⟨RJ9, "max", "(II)I"⟩
abbrev cJ9_min_7cf53 : ByteArray := prog_9_method_69_code
def yJ9_min_7cf53 : MethodName := ⟨RJ9, "min", "(II)I"⟩
def RJ10 : String := "java/lang/System"
def TJ10 : u_T := fun k => match k with
  | _ => ("", "", "", false)
def tyJ10 : Nat → FieldType := fun k => match k with
  | _ => .int
abbrev wsJ100 : List Cond := u_ws RJ10 TJ10 0
theorem nmJ10 : ∀ a, a < 0 → ∀ b, b < 0 → a ≠ b → (TJ10 a).2.1 ≠ (TJ10 b).2.1 := by decide +kernel
theorem tyJ10_ok : ∀ k, k < 0 → parseFieldDescriptor (TJ10 k).2.2.1 = some (tyJ10 k) := by decide +kernel
def RL : String := "SpeechCleanerLaw"
abbrev cL_cell : ByteArray := method_2_code
def yL_cell : MethodName := ⟨RL, "cell", "([II)I"⟩
abbrev cL_up : ByteArray := method_3_code
def yL_up : MethodName := ⟨RL, "up", "(II)I"⟩
abbrev cL_fails : ByteArray := method_4_code
def yL_fails : MethodName := ⟨RL, "fails", "(LSpeechCleaner;)Z"⟩
abbrev cL_cuts : ByteArray := method_5_code
def yL_cuts : MethodName := ⟨RL, "cuts", "(LSpeechCleaner;)Z"⟩
abbrev cL_result : ByteArray := method_6_code
def yL_result : MethodName := ⟨RL, "result", "(LSpeechCleaner;)Z"⟩
abbrev cL_asks : ByteArray := method_7_code
def yL_asks : MethodName := ⟨RL, "asks", "(LSpeechCleaner;I)Z"⟩
abbrev cL_law : ByteArray := code
def yL_law : MethodName := ⟨RL, "law", "([I)Z"⟩
/-- the words that every contract here stands on: the tables' own, and 'selects' of the private methods -/
def z_ws : List Cond := lw_tbl.filter goodWord
theorem z_ws_t (i : Nat) {w : Cond} (h : tables_1[i]? = some w) (hg : goodWord w = true) : w ∈ z_ws := List.mem_filter.mpr ⟨List.mem_append_right _ (List.mem_of_getElem? h), hg⟩
theorem z_ws_p (i : Nat) {w : Cond} (h : (k2_sels lw_privs)[i]? = some w) (hg : goodWord w = true) : w ∈ z_ws := List.mem_filter.mpr ⟨List.mem_append_left _ (List.mem_of_getElem? h), hg⟩
theorem z_ws_good {ws : List Cond} (h : ∀ w ∈ ws, w ∈ z_ws) {y : MethodName} {c : ByteArray} {n : Nat} {r : Option FieldType} : GoodIn (.code y c n r :: z_ws) ws := fun w hw => ⟨List.mem_cons_of_mem _ (h w hw), good_of_word (List.mem_filter.mp (h w hw)).2⟩
theorem z_ws_in {ws : List Cond} (h : ∀ w ∈ ws, w ∈ lw_tbl) (hg : ws.all goodWord = true) : ∀ w ∈ ws, w ∈ z_ws := fun w hw => List.mem_filter.mpr ⟨h w hw, List.all_eq_true.mp hg w hw⟩

theorem z_inX0 : ∀ w ∈ u_ws RX0 TX0 6, w ∈ z_ws := z_ws_in (by decide +kernel) (by decide +kernel)
theorem z_inX1 : ∀ w ∈ u_ws RX1 TX1 2, w ∈ z_ws := z_ws_in (by decide +kernel) (by decide +kernel)
theorem z_inX2 : ∀ w ∈ u_ws RX2 TX2 9, w ∈ z_ws := z_ws_in (by decide +kernel) (by decide +kernel)
theorem z_inX3 : ∀ w ∈ u_ws RX3 TX3 7, w ∈ z_ws := z_ws_in (by decide +kernel) (by decide +kernel)
theorem z_inX4 : ∀ w ∈ u_ws RX4 TX4 7, w ∈ z_ws := z_ws_in (by decide +kernel) (by decide +kernel)
theorem z_inX5 : ∀ w ∈ u_ws RX5 TX5 7, w ∈ z_ws := z_ws_in (by decide +kernel) (by decide +kernel)
end
section
/-! THE BASE: numbers of the machine, worlds whose objects stay where they are, and a row for each instruction over such a world -/
def zi (z : Int) : Int32 := Int32.ofInt z
def zl (z : Int) : Int64 := Int64.ofInt z
theorem zi_add (a b : Int) : zi a + zi b = zi (a + b) := (Int32.ofInt_add a b).symm
theorem zi_sub (a b : Int) : zi a - zi b = zi (a - b) := (Int32.ofInt_sub a b).symm
theorem zi_mul (a b : Int) : zi a * zi b = zi (a * b) := (Int32.ofInt_mul a b).symm
theorem zi_neg (a : Int) : - zi a = zi (-a) := (Int32.ofInt_neg a).symm
theorem zl_add (a b : Int) : zl a + zl b = zl (a + b) := (Int64.ofInt_add a b).symm
theorem zl_mul (a b : Int) : zl a * zl b = zl (a * b) := (Int64.ofInt_mul a b).symm
theorem zi_int {a : Int} (h : zr a) : (zi a).toInt = a := Int32.toInt_ofInt_of_le h.1 h.2
theorem zi_of (x : Int32) : zi x.toInt = x := Int32.ofInt_toInt x
theorem zi_lt {a b : Int} (ha : zr a) (hb : zr b) : zi a < zi b ↔ a < b := by rw [Int32.lt_iff_toInt_lt, zi_int ha, zi_int hb]
theorem zi_le {a b : Int} (ha : zr a) (hb : zr b) : zi a ≤ zi b ↔ a ≤ b := by rw [Int32.le_iff_toInt_le, zi_int ha, zi_int hb]
theorem zi_eq {a b : Int} (ha : zr a) (hb : zr b) : zi a = zi b ↔ a = b := by rw [← Int32.toInt_inj, zi_int ha, zi_int hb]
theorem zi_div {a b : Int} (ha : zr a) (hb : zr b) : zi a / zi b = zi (a.tdiv b) := by
  apply Int32.toInt_inj.mp
  rw [Int32.toInt_div, zi_int ha, zi_int hb]
  exact (Int32.toInt_ofInt (n := a.tdiv b)).symm
theorem zi_rem {a b : Int} (ha : zr a) (hb : zr b) : zi a - zi a / zi b * zi b = zi (a.tmod b) := by
  rw [zi_div ha hb, zi_mul, zi_sub]
  have h := Int.mul_tdiv_add_tmod a b
  have h2 : a.tdiv b * b = b * a.tdiv b := Int.mul_comm _ _
  exact congrArg zi (by omega)
theorem zi_clamp {a : Int} (h0 : 0 ≤ a) (h1 : a < 2147483648) : (zi a).toNatClampNeg = a.toNat := Int32.toNatClampNeg_ofInt_of_le (by omega) h1
theorem zi_0 : zi 0 = 0 := rfl
theorem zr_0 : zr 0 := by decide
theorem zi_neg_iff {a : Int} (ha : zr a) : zi a < 0 ↔ a < 0 := by rw [← zi_0, zi_lt ha zr_0]
theorem zi_in {i : Int} {n : Nat} (h0 : 0 ≤ i) (h1 : i < (n : Int)) (hn : n ≤ 2147483648) : vp_in (zi i) n := by
  have hr : zr i := ⟨by omega, by omega⟩
  intro h
  rcases h with h | h
  · rw [zi_neg_iff hr] at h; omega
  · rw [zi_clamp h0 (by omega)] at h; omega
theorem zi_long {a : Int} (h : zr a) : (zi a).toInt64 = zl a := Int32.toInt64_ofInt (by have := h.1; exact this) (by have := h.2; show a ≤ 2147483647; omega)
theorem zi_ushr16 (a : Int) : ((zi a).toUInt32 >>> ((zi 16).toUInt32 &&& Int32.toUInt32 31)).toInt32 = zi (z_ushr a 16) := by
  have h16 : ((zi 16).toUInt32 &&& Int32.toUInt32 31) = 16 := by decide
  rw [h16]
  apply Int32.toBitVec_inj.mp
  apply BitVec.eq_of_toNat_eq
  have h1 : (zi a).toBitVec = BitVec.ofInt 32 a := rfl
  have h2 : (zi (z_ushr a 16)).toBitVec = BitVec.ofInt 32 (z_ushr a 16) := rfl
  rw [h2]
  show (((zi a).toUInt32 >>> (16 : UInt32)).toBitVec).toNat = _
  rw [UInt32.toBitVec_shiftRight]
  have h5 : (zi a).toUInt32.toBitVec = BitVec.ofInt 32 a := rfl
  rw [h5]
  have h3 : ((16 : UInt32).toBitVec % 32) = (16 : BitVec 32) := by decide
  simp only [BitVec.toNat_ofInt, z_ushr]
  have h4 : (BitVec.ofInt 32 a >>> ((16 : UInt32).toBitVec % 32)).toNat = (a % 4294967296).toNat / 65536 := by
    rw [h3]
    show (BitVec.ofInt 32 a >>> (16 : Nat)).toNat = _
    rw [BitVec.toNat_ushiftRight, BitVec.toNat_ofInt, Nat.shiftRight_eq_div_pow]
    rfl
  rw [h4]
  omega
-- the world: cell k stands at 'ad k' and is 'mk k' of what it holds
def z_wd (mk : Nat → (Int → Int) → va_E) (N : Nat) (ad : Nat → Nat) (σ : zS) : va_W := (List.range N).map (fun k => (ad k, mk k (σ k)))
theorem z_wd_get {mk : Nat → (Int → Int) → va_E} {N : Nat} {ad : Nat → Nat} {σ : zS} {k : Nat} (h : k < N) : (z_wd mk N ad σ)[k]? = some (ad k, mk k (σ k)) := by simp [z_wd, h]
theorem z_wd_some {mk : Nat → (Int → Int) → va_E} {N : Nat} {ad : Nat → Nat} {σ : zS} {k : Nat} {q : Nat × va_E} (h : (z_wd mk N ad σ)[k]? = some q) : k < N ∧ q = (ad k, mk k (σ k)) := by
  by_cases hk : k < N
  · rw [z_wd_get hk] at h; exact ⟨hk, (Option.some.inj h).symm⟩
  · simp [z_wd, hk] at h
theorem z_wd_set {mk : Nat → (Int → Int) → va_E} {N : Nat} {ad : Nat → Nat} {σ τ : zS} {k : Nat} {e : va_E} (he : e = mk k (τ k)) (ho : ∀ a, a ≠ k → τ a = σ a) : (z_wd mk N ad σ).set k (ad k, e) = z_wd mk N ad τ := by
  apply List.ext_getElem?
  intro i
  rw [List.getElem?_set]
  by_cases hi : k = i
  · subst hi
    by_cases hk : k < N
    · rw [z_wd_get hk]; simp [z_wd, hk, he]
    · simp [z_wd, hk]
  · rw [if_neg hi]
    by_cases hk : i < N
    · rw [z_wd_get hk, z_wd_get hk, ho i (fun h => hi h.symm)]
    · simp [z_wd, hk]
theorem z_wd_D {mk : Nat → (Int → Int) → va_E} {N : Nat} {ad : Nat → Nat} {σ τ : zS} {A : Nat → Prop} (h : va_D A (z_wd mk N ad σ)) : va_D A (z_wd mk N ad τ) := by
  refine ⟨fun i j p q hi hj e => ?_, fun k q hk => ?_⟩
  · obtain ⟨h1, rfl⟩ := z_wd_some hi
    obtain ⟨h2, rfl⟩ := z_wd_some hj
    exact h.1 i j _ _ (z_wd_get h1) (z_wd_get h2) e
  · obtain ⟨h1, rfl⟩ := z_wd_some hk
    exact (h.2 k (ad k, mk k (σ k)) (z_wd_get h1) : A (ad k))
theorem z_wd_A {mk : Nat → (Int → Int) → va_E} {N : Nat} {ad : Nat → Nat} {σ τ : zS} {sz : Nat} : va_A (z_wd mk N ad σ) sz = va_A (z_wd mk N ad τ) sz := by
  have H : ∀ (σ τ : zS) (q : Nat), va_A (z_wd mk N ad σ) sz q → va_A (z_wd mk N ad τ) sz q := by
    intro σ τ q h
    rcases h with ⟨k, e, hk⟩ | h
    · obtain ⟨h1, h2⟩ := z_wd_some hk
      refine Or.inl ⟨k, mk k (τ k), ?_⟩
      rw [z_wd_get h1]
      rw [(Prod.mk.inj h2).1]
    · exact Or.inr h
  funext q
  exact propext ⟨H σ τ q, H τ σ q⟩
/-- the row of an array of ints whose values are f -/
abbrev z_ar (f : Int → Int) : Nat → Int32 := fun i => zi (f (i : Int))
theorem z_ar_up {f : Int → Int} {i v : Int} (h0 : 0 ≤ i) (h1 : i < 2147483648) : upd (z_ar f) (zi i).toNatClampNeg (zi v) = z_ar (fun b => if b = i then v else f b) := by
  funext j
  rw [zi_clamp h0 h1]
  simp only [upd, z_ar]
  by_cases h : j = i.toNat
  · rw [if_pos h, if_pos (by omega)]
  · rw [if_neg h, if_neg (by omega)]
-- the geometry of a world: its side (0 the class, 1 the reference), where the cells stand, the array classes, the classes' places
abbrev zG : Type := Nat × (Nat → Nat) × ClassId × ClassId × ClassId × va_G
abbrev vwCl : List vw_C := [(RX0, TX0, 6), (RX1, TX1, 2), (RX2, TX2, 9), (RX3, TX3, 7), (RX4, TX4, 7), (RX5, TX5, 7)]
def z_mk0 (ad : Nat → Nat) (cI cZ cR : ClassId) (k : Nat) (f : Int → Int) : va_E :=
  if k < 48 then
    (match k % 8 with
    | 0 => .inr (2, [.ref (ad (k + 1)), .int (zi (f 1)), .ref (ad (k + 2)), .ref (ad (k + 3)), .ref (ad (k + 4)), .ref (ad (k + 5)), .ref (ad (k + 6)), .int (zi (f 7)), .ref (ad (k + 7))])
    | 1 => .inl (cI, 200, .inl (z_ar f))
    | 6 => .inl (cZ, 20, .inl (z_ar f))
    | 7 => .inl (cI, 7, .inl (z_ar f))
    | _ => .inl (cI, 20, .inl (z_ar f)))
  else (match k with
    | 48 => .inr (0, [.ref (ad 49), .ref (ad 50), .ref (ad 51), .ref (ad 52), .ref (ad 53), .int (zi (f 5))])
    | 49 => .inl (cI, 20, .inl (z_ar f))
    | 50 => .inl (cI, 20, .inl (z_ar f))
    | 51 => .inl (cI, 20, .inl (z_ar f))
    | 52 => .inl (cZ, 20, .inl (z_ar f))
    | 53 => .inl (cI, 20, .inl (z_ar f))
    | 54 => .inr (3, [.ref (ad 55), .ref (ad 56), .int (zi (f 2)), .ref (ad 57), .int (zi (f 4)), .int (zi (f 5)), .ref (ad 58)])
    | 55 => .inl (cI, 200, .inl (z_ar f))
    | 56 => .inl (cI, 200, .inl (z_ar f))
    | 57 => .inl (cI, 200, .inl (z_ar f))
    | 58 => .inl (cZ, 200, .inl (z_ar f))
    | 59 => .inr (4, [.ref (ad 40), .int (zi (f 1)), .int (zi (f 2)), .int (zi (f 3)), .int (zi (f 4)), .int (zi (f 5)), .int (zi (f 6))])
    | 60 => .inr (1, [.ref (ad 61), .int (zi (f 1))])
    | 61 => .inl (cR, 4, .inr (.inr (.inr (.inr (fun i => some (ad (8 * (f (i : Int)).toNat)))))))
    | 62 => .inr (5, [.ref (ad 63), .int (zi (f 1)), .ref (ad 0), .ref (ad 60), .ref (ad 59), .ref (ad 48), .ref (ad 54)])
    | _ => .inl (cI, 120, .inl (z_ar f)))
def z_mk1 (ad : Nat → Nat) (cI : ClassId) (k : Nat) (f : Int → Int) : va_E := match k with
  | 0 => .inr (6, [.ref (ad 1), .ref (ad 2), .int (zi (f 2)), .ref (ad 3), .int (zi (f 4)), .int (zi (f 5)), .int (zi (f 6)), .int (zi (f 7)), .int (zi (f 8)), .ref (ad 4), .ref (ad 5), .ref (ad 6), .int (zi (f 12)), .ref (ad 7), .ref (ad 8), .int (zi (f 15)), .ref (ad 9), .int (zi (f 17)), .int (zi (f 18))])
  | 1 => .inl (cI, 320, .inl (z_ar f))
  | 2 => .inl (cI, 1280, .inl (z_ar f))
  | 3 => .inl (cI, 120, .inl (z_ar f))
  | 4 => .inl (cI, 120, .inl (z_ar f))
  | 5 => .inl (cI, 100, .inl (z_ar f))
  | 6 => .inl (cI, 100, .inl (z_ar f))
  | 7 => .inl (cI, 1400, .inl (z_ar f))
  | 8 => .inl (cI, 1400, .inl (z_ar f))
  | _ => .inl (cI, 200, .inl (z_ar f))
def z_mk (g : zG) : Nat → (Int → Int) → va_E := match g with
  | (0, ad, cI, cZ, cR, _) => z_mk0 ad cI cZ cR
  | (_, ad, cI, _, _, _) => z_mk1 ad cI
def z_N (g : zG) : Nat := match g.1 with
  | 0 => 64
  | _ => 10
abbrev z_ad (g : zG) (k : Nat) : Nat := g.2.1 k
def z_tys (g : zG) : List (ClassId × FieldType) := [(g.2.2.1, .int), (g.2.2.2.1, .boolean), (g.2.2.2.2.1, .object RX2)]
abbrev z_w (g : zG) (σ : zS) : va_W := z_wd (z_mk g) (z_N g) g.2.1 σ
-- the configuration of a walk: all that stays the same from instruction to instruction
abbrev zC : Type := Program × Launch × Env × Room × State × MethodId × Array Value × List Frame × Method × Code × (State → Prop) × Nat × Nat × (Nat → Prop) × Heap × Nat × zG
abbrev z_g (C : zC) : zG := C.2.2.2.2.2.2.2.2.2.2.2.2.2.2.2.2
abbrev z_l (C : zC) : Launch := C.2.1
abbrev z_R (C : zC) : Room := C.2.2.2.1
/-- the machine, from the place pc with these locals, this stack, and a heap whose world holds σ, comes to its end -/
def z_W (C : zC) (σ : zS) (pc : Nat) (lv : List (Nat × Value)) (st : List Value) : Prop := match C with
  | (p, l, e, R, s, m, args, below, meth, c, Q, cells, slots, A, H0, nL, g) => ∀ (H : Heap) (locs : List Loc) (ls : Array Slot), va_P g.2.2.2.2.2 vwCl (z_w g σ) H → va_S A H0 H locs → lv_has ls nL lv → W p l e R s m args below meth c H locs cells slots Q (F0 m pc ls st)
/-- what holds all the while: the machine, the code, the tables' words, the classes -/
def z_ok (C : zC) (cc : ByteArray) (own : String) (sd : Nat) : Prop := match C with
  | (p, _, _, R, s, m, args, _, _, c, _, cells, slots, A, H0, nL, g) => p.tables.exec = Jvm.exec ∧ c.code = cc ∧ c.maxLocals = nL ∧ s.vm.findClass own = some m.cls ∧ (∀ w ∈ z_ws, w.before args s = true) ∧ va_K g.2.2.2.2.2 vwCl (z_tys g) s ∧ (∀ σ, va_D A (z_w g σ)) ∧ (∀ q, H0.size ≤ q → A q) ∧ g.1 = sd ∧ cells ≤ R.cells ∧ slots ≤ R.slots ∧ H0 = s.heap
end
section
/-! A ROW FOR EACH INSTRUCTION over a world whose objects stay -/
section
variable {C : zC} {cc : ByteArray} {own : String} {sd : Nat} {σ : zS} {pc : Nat} {lv : List (Nat × Value)} {st : List Value} {α : Type} {r : α}
theorem z_iconst (hx : z_ok C cc own sd) {n : Int} (hd : decode cc pc = .ok (.iconst n, 1)) (kk : z_W C σ (pc + 1) lv (.int (zi n) :: st)) : z_W C σ pc lv st := by
  obtain ⟨p, l, e, R, s, m, args, below, meth, c, Q, cells, slots, A, H0, nL, g⟩ := C
  intro H locs ls hP hS hl
  exact lv_iconst hx.1 hx.2.1 hd rfl (kk H locs ls hP hS hl)
theorem z_bipush (hx : z_ok C cc own sd) {n : Int} (hd : decode cc pc = .ok (.bipush n, 2)) (hn : (Int8.ofInt n).toInt32 = zi n) (kk : z_W C σ (pc + 2) lv (.int (zi n) :: st)) : z_W C σ pc lv st := by
  obtain ⟨p, l, e, R, s, m, args, below, meth, c, Q, cells, slots, A, H0, nL, g⟩ := C
  intro H locs ls hP hS hl
  exact lv_bipush hx.1 hx.2.1 hd hn (kk H locs ls hP hS hl)
theorem z_sipush (hx : z_ok C cc own sd) {n : Int} (hd : decode cc pc = .ok (.sipush n, 3)) (hn : (Int16.ofInt n).toInt32 = zi n) (kk : z_W C σ (pc + 3) lv (.int (zi n) :: st)) : z_W C σ pc lv st := by
  obtain ⟨p, l, e, R, s, m, args, below, meth, c, Q, cells, slots, A, H0, nL, g⟩ := C
  intro H locs ls hP hS hl
  exact lv_sipush hx.1 hx.2.1 hd hn (kk H locs ls hP hS hl)
theorem z_ldc (hx : z_ok C cc own sd) {n : Int} {index : Nat} (hw : Cond.constant own index (zi n) ∈ z_ws) (hd : decode cc pc = .ok (.ldc index, 2)) (kk : z_W C σ (pc + 2) lv (.int (zi n) :: st)) : z_W C σ pc lv st := by
  obtain ⟨p, l, e, R, s, m, args, below, meth, c, Q, cells, slots, A, H0, nL, g⟩ := C
  intro H locs ls hP hS hl
  exact lv_ldc hx.1 hx.2.1 hx.2.2.2.1 (hx.2.2.2.2.1 _ hw) hd (kk H locs ls hP hS hl)
theorem z_ldc2 (hx : z_ok C cc own sd) {n : Int} {index : Nat} (hw : Cond.constantLong own index (zl n) ∈ z_ws) (hd : decode cc pc = .ok (.ldc2_w index, 3)) (kk : z_W C σ (pc + 3) lv (.long (zl n) :: st)) : z_W C σ pc lv st := by
  obtain ⟨p, l, e, R, s, m, args, below, meth, c, Q, cells, slots, A, H0, nL, g⟩ := C
  intro H locs ls hP hS hl
  exact lv_ldc2 hx.1 hx.2.1 hx.2.2.2.1 (hx.2.2.2.2.1 _ hw) hd (kk H locs ls hP hS hl)
-- locals
theorem z_iload_n (hx : z_ok C cc own sd) (q : Nat) {k : Fin 4} {x : Int32} (hd : decode cc pc = .ok (.iload_n k, 1)) (hk : lv[q]? = some ((k : Nat), .int x)) (kk : z_W C σ (pc + 1) lv (.int x :: st)) : z_W C σ pc lv st := by
  obtain ⟨p, l, e, R, s, m, args, below, meth, c, Q, cells, slots, A, H0, nL, g⟩ := C
  intro H locs ls hP hS hl
  exact lv_iload_n hx.1 hx.2.1 hd rfl (lv_at hl q hk) (kk H locs ls hP hS hl)
theorem z_iload (hx : z_ok C cc own sd) (q : Nat) {k : Nat} {x : Int32} (hd : decode cc pc = .ok (.iload k, 2)) (hk : lv[q]? = some (k, .int x)) (kk : z_W C σ (pc + 2) lv (.int x :: st)) : z_W C σ pc lv st := by
  obtain ⟨p, l, e, R, s, m, args, below, meth, c, Q, cells, slots, A, H0, nL, g⟩ := C
  intro H locs ls hP hS hl
  exact lv_iload hx.1 hx.2.1 hd (lv_at hl q hk) (kk H locs ls hP hS hl)
theorem z_lload_n (hx : z_ok C cc own sd) (q : Nat) {k : Fin 4} {x : Int64} (hd : decode cc pc = .ok (.lload_n k, 1)) (hk : lv[q]? = some ((k : Nat), .long x)) (kk : z_W C σ (pc + 1) lv (.long x :: st)) : z_W C σ pc lv st := by
  obtain ⟨p, l, e, R, s, m, args, below, meth, c, Q, cells, slots, A, H0, nL, g⟩ := C
  intro H locs ls hP hS hl
  exact lv_lload_n hx.1 hx.2.1 hd rfl (lv_at hl q hk) (kk H locs ls hP hS hl)
theorem z_lload (hx : z_ok C cc own sd) (q : Nat) {k : Nat} {x : Int64} (hd : decode cc pc = .ok (.lload k, 2)) (hk : lv[q]? = some (k, .long x)) (kk : z_W C σ (pc + 2) lv (.long x :: st)) : z_W C σ pc lv st := by
  obtain ⟨p, l, e, R, s, m, args, below, meth, c, Q, cells, slots, A, H0, nL, g⟩ := C
  intro H locs ls hP hS hl
  exact lv_lload hx.1 hx.2.1 hd (lv_at hl q hk) (kk H locs ls hP hS hl)
theorem z_aload_n (hx : z_ok C cc own sd) (q : Nat) {k : Fin 4} {x : Nat} (hd : decode cc pc = .ok (.aload_n k, 1)) (hk : lv[q]? = some ((k : Nat), .ref x)) (kk : z_W C σ (pc + 1) lv (.ref x :: st)) : z_W C σ pc lv st := by
  obtain ⟨p, l, e, R, s, m, args, below, meth, c, Q, cells, slots, A, H0, nL, g⟩ := C
  intro H locs ls hP hS hl
  exact lv_aload_n hx.1 hx.2.1 hd rfl (lv_at hl q hk) (kk H locs ls hP hS hl)
theorem z_istore_n (hx : z_ok C cc own sd) {nL : Nat} (hn : C.2.2.2.2.2.2.2.2.2.2.2.2.2.2.2.1 = nL) {k : Fin 4} {x : Int32} {lv' : List (Nat × Value)} (hd : decode cc pc = .ok (.istore_n k, 1)) (hlt : (k : Nat) < nL) (hl' : ((k : Nat), Value.int x) :: lv.filter (fun q => !(q.1 == (k : Nat)) && !(q.1 + 1 == (k : Nat) && q.2.category == 2)) = lv') (kk : z_W C σ (pc + 1) lv' st) : z_W C σ pc lv (.int x :: st) := by
  obtain ⟨p, l, e, R, s, m, args, below, meth, c, Q, cells, slots, A, H0, nL, g⟩ := C
  intro H locs ls hP hS hl
  cases hn
  exact lv_istore_n hx.1 hx.2.1 hd rfl hl hlt hl' (fun ls' hl => kk H locs ls' hP hS hl)
theorem z_istore (hx : z_ok C cc own sd) {nL : Nat} (hn : C.2.2.2.2.2.2.2.2.2.2.2.2.2.2.2.1 = nL) {k : Nat} {x : Int32} {lv' : List (Nat × Value)} (hd : decode cc pc = .ok (.istore k, 2)) (hlt : (k : Nat) < nL) (hl' : (k, Value.int x) :: lv.filter (fun q => !(q.1 == k) && !(q.1 + 1 == k && q.2.category == 2)) = lv') (kk : z_W C σ (pc + 2) lv' st) : z_W C σ pc lv (.int x :: st) := by
  obtain ⟨p, l, e, R, s, m, args, below, meth, c, Q, cells, slots, A, H0, nL, g⟩ := C
  intro H locs ls hP hS hl
  cases hn
  exact lv_istore hx.1 hx.2.1 hd hl hlt hl' (fun ls' hl => kk H locs ls' hP hS hl)
theorem z_lstore_n (hx : z_ok C cc own sd) {nL : Nat} (hn : C.2.2.2.2.2.2.2.2.2.2.2.2.2.2.2.1 = nL) {k : Fin 4} {x : Int64} {lv' : List (Nat × Value)} (hd : decode cc pc = .ok (.lstore_n k, 1)) (hlt : (k : Nat) + 1 < nL) (hl' : ((k : Nat), Value.long x) :: lv.filter (fun q => !(q.1 == (k : Nat)) && (!(q.1 == (k : Nat) + 1) && !(q.1 + 1 == (k : Nat) && q.2.category == 2))) = lv') (kk : z_W C σ (pc + 1) lv' st) : z_W C σ pc lv (.long x :: st) := by
  obtain ⟨p, l, e, R, s, m, args, below, meth, c, Q, cells, slots, A, H0, nL, g⟩ := C
  intro H locs ls hP hS hl
  cases hn
  exact lv_lstore_n hx.1 hx.2.1 hd rfl hl hlt hl' (fun ls' hl => kk H locs ls' hP hS hl)
theorem z_lstore (hx : z_ok C cc own sd) {nL : Nat} (hn : C.2.2.2.2.2.2.2.2.2.2.2.2.2.2.2.1 = nL) {k : Nat} {x : Int64} {lv' : List (Nat × Value)} (hd : decode cc pc = .ok (.lstore k, 2)) (hlt : (k : Nat) + 1 < nL) (hl' : (k, Value.long x) :: lv.filter (fun q => !(q.1 == k) && (!(q.1 == k + 1) && !(q.1 + 1 == k && q.2.category == 2))) = lv') (kk : z_W C σ (pc + 2) lv' st) : z_W C σ pc lv (.long x :: st) := by
  obtain ⟨p, l, e, R, s, m, args, below, meth, c, Q, cells, slots, A, H0, nL, g⟩ := C
  intro H locs ls hP hS hl
  cases hn
  exact lv_lstore hx.1 hx.2.1 hd hl hlt hl' (fun ls' hl => kk H locs ls' hP hS hl)
theorem z_astore_n (hx : z_ok C cc own sd) {nL : Nat} (hn : C.2.2.2.2.2.2.2.2.2.2.2.2.2.2.2.1 = nL) {k : Fin 4} {x : Nat} {lv' : List (Nat × Value)} (hd : decode cc pc = .ok (.astore_n k, 1)) (hlt : (k : Nat) < nL) (hl' : ((k : Nat), Value.ref x) :: lv.filter (fun q => !(q.1 == (k : Nat)) && !(q.1 + 1 == (k : Nat) && q.2.category == 2)) = lv') (kk : z_W C σ (pc + 1) lv' st) : z_W C σ pc lv (.ref x :: st) := by
  obtain ⟨p, l, e, R, s, m, args, below, meth, c, Q, cells, slots, A, H0, nL, g⟩ := C
  intro H locs ls hP hS hl
  cases hn
  exact lv_astore_n hx.1 hx.2.1 hd rfl hl hlt hl' (fun ls' hl => kk H locs ls' hP hS hl)
theorem z_iinc (hx : z_ok C cc own sd) {nL : Nat} (hn : C.2.2.2.2.2.2.2.2.2.2.2.2.2.2.2.1 = nL) (q : Nat) {k : Nat} {n x : Int} {lv' : List (Nat × Value)} (hd : decode cc pc = .ok (.iinc k n, 3)) (hk : lv[q]? = some (k, .int (zi x))) (hlt : k < nL) (hl' : (k, Value.int (zi (x + n))) :: lv.filter (fun q => !(q.1 == k) && !(q.1 + 1 == k && q.2.category == 2)) = lv') (kk : z_W C σ (pc + 3) lv' st) : z_W C σ pc lv st := by
  obtain ⟨p, l, e, R, s, m, args, below, meth, c, Q, cells, slots, A, H0, nL, g⟩ := C
  intro H locs ls hP hS hl
  cases hn
  exact lv_iinc hx.1 hx.2.1 hd hl hk (zi_add x n) hlt hl' (fun ls' hl => kk H locs ls' hP hS hl)
theorem z_sub (ks : List Nat) {lv' : List (Nat × Value)} (hl' : lv_pick lv ks = lv') (kk : z_W C σ pc lv' st) : z_W C σ pc lv st := by
  obtain ⟨p, l, e, R, s, m, args, below, meth, c, Q, cells, slots, A, H0, nL, g⟩ := C
  intro H locs ls hP hS hl
  exact kk H locs ls hP hS (lv_sub hl ks hl')
-- arithmetic
theorem z_iadd (hx : z_ok C cc own sd) {a b : Int} (hd : decode cc pc = .ok (.iadd, 1)) (kk : z_W C σ (pc + 1) lv (.int (zi (a + b)) :: st)) : z_W C σ pc lv (.int (zi b) :: .int (zi a) :: st) := by
  obtain ⟨p, l, e, R, s, m, args, below, meth, c, Q, cells, slots, A, H0, nL, g⟩ := C
  intro H locs ls hP hS hl
  refine lv_iadd hx.1 hx.2.1 hd ?_
  rw [zi_add]
  exact kk H locs ls hP hS hl
theorem z_isub (hx : z_ok C cc own sd) {a b : Int} (hd : decode cc pc = .ok (.isub, 1)) (kk : z_W C σ (pc + 1) lv (.int (zi (a - b)) :: st)) : z_W C σ pc lv (.int (zi b) :: .int (zi a) :: st) := by
  obtain ⟨p, l, e, R, s, m, args, below, meth, c, Q, cells, slots, A, H0, nL, g⟩ := C
  intro H locs ls hP hS hl
  refine lv_isub hx.1 hx.2.1 hd ?_
  rw [zi_sub]
  exact kk H locs ls hP hS hl
theorem z_imul (hx : z_ok C cc own sd) {a b : Int} (hd : decode cc pc = .ok (.imul, 1)) (kk : z_W C σ (pc + 1) lv (.int (zi (a * b)) :: st)) : z_W C σ pc lv (.int (zi b) :: .int (zi a) :: st) := by
  obtain ⟨p, l, e, R, s, m, args, below, meth, c, Q, cells, slots, A, H0, nL, g⟩ := C
  intro H locs ls hP hS hl
  refine lv_imul hx.1 hx.2.1 hd ?_
  rw [zi_mul]
  exact kk H locs ls hP hS hl
theorem z_ineg (hx : z_ok C cc own sd) {a : Int} (hd : decode cc pc = .ok (.ineg, 1)) (kk : z_W C σ (pc + 1) lv (.int (zi (-a)) :: st)) : z_W C σ pc lv (.int (zi a) :: st) := by
  obtain ⟨p, l, e, R, s, m, args, below, meth, c, Q, cells, slots, A, H0, nL, g⟩ := C
  intro H locs ls hP hS hl
  refine lv_ineg hx.1 hx.2.1 hd ?_
  rw [zi_neg]
  exact kk H locs ls hP hS hl
theorem z_idiv (hx : z_ok C cc own sd) {a b : Int} {A : Option α} (hd : decode cc pc = .ok (.idiv, 1)) (h : (if zr a ∧ zr b ∧ b ≠ 0 then A else none) = some r) (kk : A = some r → z_W C σ (pc + 1) lv (.int (zi (a.tdiv b)) :: st)) : z_W C σ pc lv (.int (zi b) :: .int (zi a) :: st) := by
  obtain ⟨⟨ha, hb, hn⟩, h⟩ := z_gd h
  have kk := kk h
  obtain ⟨p, l, e, R, s, m, args, below, meth, c, Q, cells, slots, A, H0, nL, g⟩ := C
  intro H locs ls hP hS hl
  refine lv_idiv hx.1 hx.2.1 hd (fun h => hn ((zi_eq hb zr_0).mp h)) ?_
  rw [zi_div ha hb]
  exact kk H locs ls hP hS hl
theorem z_irem (hx : z_ok C cc own sd) {a b : Int} {A : Option α} (hd : decode cc pc = .ok (.irem, 1)) (h : (if zr a ∧ zr b ∧ b ≠ 0 then A else none) = some r) (kk : A = some r → z_W C σ (pc + 1) lv (.int (zi (a.tmod b)) :: st)) : z_W C σ pc lv (.int (zi b) :: .int (zi a) :: st) := by
  obtain ⟨⟨ha, hb, hn⟩, h⟩ := z_gd h
  have kk := kk h
  obtain ⟨p, l, e, R, s, m, args, below, meth, c, Q, cells, slots, A, H0, nL, g⟩ := C
  intro H locs ls hP hS hl
  refine lv_irem hx.1 hx.2.1 hd (fun h => hn ((zi_eq hb zr_0).mp h)) ?_
  rw [zi_rem ha hb]
  exact kk H locs ls hP hS hl
theorem z_iushr16 (hx : z_ok C cc own sd) {a : Int} (hd : decode cc pc = .ok (.iushr, 1)) (kk : z_W C σ (pc + 1) lv (.int (zi (z_ushr a 16)) :: st)) : z_W C σ pc lv (.int (zi 16) :: .int (zi a) :: st) := by
  obtain ⟨p, l, e, R, s, m, args, below, meth, c, Q, cells, slots, A, H0, nL, g⟩ := C
  intro H locs ls hP hS hl
  exact lv_iushr hx.1 hx.2.1 hd (zi_ushr16 a) (kk H locs ls hP hS hl)
theorem z_ladd (hx : z_ok C cc own sd) {a b : Int} (hd : decode cc pc = .ok (.ladd, 1)) (kk : z_W C σ (pc + 1) lv (.long (zl (a + b)) :: st)) : z_W C σ pc lv (.long (zl b) :: .long (zl a) :: st) := by
  obtain ⟨p, l, e, R, s, m, args, below, meth, c, Q, cells, slots, A, H0, nL, g⟩ := C
  intro H locs ls hP hS hl
  refine lv_ladd hx.1 hx.2.1 hd ?_
  rw [zl_add]
  exact kk H locs ls hP hS hl
theorem z_lmul (hx : z_ok C cc own sd) {a b : Int} (hd : decode cc pc = .ok (.lmul, 1)) (kk : z_W C σ (pc + 1) lv (.long (zl (a * b)) :: st)) : z_W C σ pc lv (.long (zl b) :: .long (zl a) :: st) := by
  obtain ⟨p, l, e, R, s, m, args, below, meth, c, Q, cells, slots, A, H0, nL, g⟩ := C
  intro H locs ls hP hS hl
  refine lv_lmul hx.1 hx.2.1 hd ?_
  rw [zl_mul]
  exact kk H locs ls hP hS hl
theorem z_i2l (hx : z_ok C cc own sd) {a : Int} {A : Option α} (hd : decode cc pc = .ok (.i2l, 1)) (h : (if zr a then A else none) = some r) (kk : A = some r → z_W C σ (pc + 1) lv (.long (zl a) :: st)) : z_W C σ pc lv (.int (zi a) :: st) := by
  obtain ⟨ha, h⟩ := z_gd h
  have kk := kk h
  obtain ⟨p, l, e, R, s, m, args, below, meth, c, Q, cells, slots, A, H0, nL, g⟩ := C
  intro H locs ls hP hS hl
  exact lv_i2l hx.1 hx.2.1 hd (zi_long ha) (kk H locs ls hP hS hl)
-- the stack
theorem z_dup (hx : z_ok C cc own sd) {va : Value} (hd : decode cc pc = .ok (.dup, 1)) (hc : va.category = 1) (kk : z_W C σ (pc + 1) lv (va :: va :: st)) : z_W C σ pc lv (va :: st) := by
  obtain ⟨p, l, e, R, s, m, args, below, meth, c, Q, cells, slots, A, H0, nL, g⟩ := C
  intro H locs ls hP hS hl
  exact lv_dup hx.1 hx.2.1 hd hc (kk H locs ls hP hS hl)
theorem z_pop (hx : z_ok C cc own sd) {va : Value} (hd : decode cc pc = .ok (.pop, 1)) (hc : va.category = 1) (kk : z_W C σ (pc + 1) lv st) : z_W C σ pc lv (va :: st) := by
  obtain ⟨p, l, e, R, s, m, args, below, meth, c, Q, cells, slots, A, H0, nL, g⟩ := C
  intro H locs ls hP hS hl
  exact lv_pop hx.1 hx.2.1 hd hc (kk H locs ls hP hS hl)
theorem z_dup2 (hx : z_ok C cc own sd) {va vb : Value} (hd : decode cc pc = .ok (.dup2, 1)) (hc : va.category = 1) (hc2 : vb.category = 1) (kk : z_W C σ (pc + 1) lv (va :: vb :: va :: vb :: st)) : z_W C σ pc lv (va :: vb :: st) := by
  obtain ⟨p, l, e, R, s, m, args, below, meth, c, Q, cells, slots, A, H0, nL, g⟩ := C
  intro H locs ls hP hS hl
  exact lv_dup2_11 hx.1 hx.2.1 hd hc hc2 (kk H locs ls hP hS hl)
theorem z_goto (hx : z_ok C cc own sd) {off : Int} {tgt : Nat} (hd : decode cc pc = .ok (.goto off, 3)) (ht : (pc : Int) + off = (tgt : Int)) (kk : z_W C σ tgt lv st) : z_W C σ pc lv st := by
  obtain ⟨p, l, e, R, s, m, args, below, meth, c, Q, cells, slots, A, H0, nL, g⟩ := C
  intro H locs ls hP hS hl
  exact lv_goto hx.1 hx.2.1 hd ht (kk H locs ls hP hS hl)
-- branches (by program)
theorem z_icmp_lt (hx : z_ok C cc own sd) {a b : Int} {off : Int} {tgt : Nat} {gd : Prop} [Decidable gd] {A B : Option α} (hd : decode cc pc = .ok (.if_icmp .lt off, 3)) (ht : (pc : Int) + off = (tgt : Int)) (h : (if gd then (if a < b then A else B) else none) = some r) (hg : gd → zr a ∧ zr b) (kt : a < b → A = some r → z_W C σ tgt lv st) (kf : ¬ (a < b) → B = some r → z_W C σ (pc + 3) lv st) : z_W C σ pc lv (.int (zi b) :: .int (zi a) :: st) := by
  obtain ⟨g9, h⟩ := z_gd h
  obtain ⟨ha, hb⟩ := hg g9
  have kt := fun hc => kt hc (by rw [if_pos hc] at h; exact h)
  have kf := fun hc => kf hc (by rw [if_neg hc] at h; exact h)
  obtain ⟨p, l, e, R, s, m, args, below, meth, c, Q, cells, slots, A0, H0, nL, g⟩ := C
  intro H locs ls hP hS hl
  exact lv_icmp_lt hx.1 hx.2.1 hd ht (fun hc => kt ((zi_lt ha hb).mp hc) H locs ls hP hS hl) (fun hc => kf (fun h9 => hc ((zi_lt ha hb).mpr h9)) H locs ls hP hS hl)
theorem z_if_lt (hx : z_ok C cc own sd) {a : Int} {off : Int} {tgt : Nat} {gd : Prop} [Decidable gd] {A B : Option α} (hd : decode cc pc = .ok (.ifCond .lt off, 3)) (ht : (pc : Int) + off = (tgt : Int)) (h : (if gd then (if a < 0 then A else B) else none) = some r) (hg : gd → zr a) (kt : a < 0 → A = some r → z_W C σ tgt lv st) (kf : ¬ (a < 0) → B = some r → z_W C σ (pc + 3) lv st) : z_W C σ pc lv (.int (zi a) :: st) := by
  obtain ⟨g9, h⟩ := z_gd h
  obtain ha := hg g9
  have hb := zr_0
  have kt := fun hc => kt hc (by rw [if_pos hc] at h; exact h)
  have kf := fun hc => kf hc (by rw [if_neg hc] at h; exact h)
  obtain ⟨p, l, e, R, s, m, args, below, meth, c, Q, cells, slots, A0, H0, nL, g⟩ := C
  intro H locs ls hP hS hl
  exact lv_if_lt hx.1 hx.2.1 hd ht (fun hc => kt ((zi_lt ha hb).mp hc) H locs ls hP hS hl) (fun hc => kf (fun h9 => hc ((zi_lt ha hb).mpr h9)) H locs ls hP hS hl)
theorem z_icmp_le (hx : z_ok C cc own sd) {a b : Int} {off : Int} {tgt : Nat} {gd : Prop} [Decidable gd] {A B : Option α} (hd : decode cc pc = .ok (.if_icmp .le off, 3)) (ht : (pc : Int) + off = (tgt : Int)) (h : (if gd then (if a ≤ b then A else B) else none) = some r) (hg : gd → zr a ∧ zr b) (kt : a ≤ b → A = some r → z_W C σ tgt lv st) (kf : ¬ (a ≤ b) → B = some r → z_W C σ (pc + 3) lv st) : z_W C σ pc lv (.int (zi b) :: .int (zi a) :: st) := by
  obtain ⟨g9, h⟩ := z_gd h
  obtain ⟨ha, hb⟩ := hg g9
  have kt := fun hc => kt hc (by rw [if_pos hc] at h; exact h)
  have kf := fun hc => kf hc (by rw [if_neg hc] at h; exact h)
  obtain ⟨p, l, e, R, s, m, args, below, meth, c, Q, cells, slots, A0, H0, nL, g⟩ := C
  intro H locs ls hP hS hl
  exact lv_icmp_le hx.1 hx.2.1 hd ht (fun hc => kt ((zi_le ha hb).mp hc) H locs ls hP hS hl) (fun hc => kf (fun h9 => hc ((zi_le ha hb).mpr h9)) H locs ls hP hS hl)
theorem z_if_le (hx : z_ok C cc own sd) {a : Int} {off : Int} {tgt : Nat} {gd : Prop} [Decidable gd] {A B : Option α} (hd : decode cc pc = .ok (.ifCond .le off, 3)) (ht : (pc : Int) + off = (tgt : Int)) (h : (if gd then (if a ≤ 0 then A else B) else none) = some r) (hg : gd → zr a) (kt : a ≤ 0 → A = some r → z_W C σ tgt lv st) (kf : ¬ (a ≤ 0) → B = some r → z_W C σ (pc + 3) lv st) : z_W C σ pc lv (.int (zi a) :: st) := by
  obtain ⟨g9, h⟩ := z_gd h
  obtain ha := hg g9
  have hb := zr_0
  have kt := fun hc => kt hc (by rw [if_pos hc] at h; exact h)
  have kf := fun hc => kf hc (by rw [if_neg hc] at h; exact h)
  obtain ⟨p, l, e, R, s, m, args, below, meth, c, Q, cells, slots, A0, H0, nL, g⟩ := C
  intro H locs ls hP hS hl
  exact lv_if_le hx.1 hx.2.1 hd ht (fun hc => kt ((zi_le ha hb).mp hc) H locs ls hP hS hl) (fun hc => kf (fun h9 => hc ((zi_le ha hb).mpr h9)) H locs ls hP hS hl)
theorem z_icmp_gt (hx : z_ok C cc own sd) {a b : Int} {off : Int} {tgt : Nat} {gd : Prop} [Decidable gd] {A B : Option α} (hd : decode cc pc = .ok (.if_icmp .gt off, 3)) (ht : (pc : Int) + off = (tgt : Int)) (h : (if gd then (if b < a then A else B) else none) = some r) (hg : gd → zr a ∧ zr b) (kt : b < a → A = some r → z_W C σ tgt lv st) (kf : ¬ (b < a) → B = some r → z_W C σ (pc + 3) lv st) : z_W C σ pc lv (.int (zi b) :: .int (zi a) :: st) := by
  obtain ⟨g9, h⟩ := z_gd h
  obtain ⟨ha, hb⟩ := hg g9
  have kt := fun hc => kt hc (by rw [if_pos hc] at h; exact h)
  have kf := fun hc => kf hc (by rw [if_neg hc] at h; exact h)
  obtain ⟨p, l, e, R, s, m, args, below, meth, c, Q, cells, slots, A0, H0, nL, g⟩ := C
  intro H locs ls hP hS hl
  exact lv_icmp_gt hx.1 hx.2.1 hd ht (fun hc => kt ((zi_lt hb ha).mp hc) H locs ls hP hS hl) (fun hc => kf (fun h9 => hc ((zi_lt hb ha).mpr h9)) H locs ls hP hS hl)
theorem z_if_gt (hx : z_ok C cc own sd) {a : Int} {off : Int} {tgt : Nat} {gd : Prop} [Decidable gd] {A B : Option α} (hd : decode cc pc = .ok (.ifCond .gt off, 3)) (ht : (pc : Int) + off = (tgt : Int)) (h : (if gd then (if 0 < a then A else B) else none) = some r) (hg : gd → zr a) (kt : 0 < a → A = some r → z_W C σ tgt lv st) (kf : ¬ (0 < a) → B = some r → z_W C σ (pc + 3) lv st) : z_W C σ pc lv (.int (zi a) :: st) := by
  obtain ⟨g9, h⟩ := z_gd h
  obtain ha := hg g9
  have hb := zr_0
  have kt := fun hc => kt hc (by rw [if_pos hc] at h; exact h)
  have kf := fun hc => kf hc (by rw [if_neg hc] at h; exact h)
  obtain ⟨p, l, e, R, s, m, args, below, meth, c, Q, cells, slots, A0, H0, nL, g⟩ := C
  intro H locs ls hP hS hl
  exact lv_if_gt hx.1 hx.2.1 hd ht (fun hc => kt ((zi_lt hb ha).mp hc) H locs ls hP hS hl) (fun hc => kf (fun h9 => hc ((zi_lt hb ha).mpr h9)) H locs ls hP hS hl)
theorem z_icmp_ge (hx : z_ok C cc own sd) {a b : Int} {off : Int} {tgt : Nat} {gd : Prop} [Decidable gd] {A B : Option α} (hd : decode cc pc = .ok (.if_icmp .ge off, 3)) (ht : (pc : Int) + off = (tgt : Int)) (h : (if gd then (if b ≤ a then A else B) else none) = some r) (hg : gd → zr a ∧ zr b) (kt : b ≤ a → A = some r → z_W C σ tgt lv st) (kf : ¬ (b ≤ a) → B = some r → z_W C σ (pc + 3) lv st) : z_W C σ pc lv (.int (zi b) :: .int (zi a) :: st) := by
  obtain ⟨g9, h⟩ := z_gd h
  obtain ⟨ha, hb⟩ := hg g9
  have kt := fun hc => kt hc (by rw [if_pos hc] at h; exact h)
  have kf := fun hc => kf hc (by rw [if_neg hc] at h; exact h)
  obtain ⟨p, l, e, R, s, m, args, below, meth, c, Q, cells, slots, A0, H0, nL, g⟩ := C
  intro H locs ls hP hS hl
  exact lv_icmp_ge hx.1 hx.2.1 hd ht (fun hc => kt ((zi_le hb ha).mp hc) H locs ls hP hS hl) (fun hc => kf (fun h9 => hc ((zi_le hb ha).mpr h9)) H locs ls hP hS hl)
theorem z_if_ge (hx : z_ok C cc own sd) {a : Int} {off : Int} {tgt : Nat} {gd : Prop} [Decidable gd] {A B : Option α} (hd : decode cc pc = .ok (.ifCond .ge off, 3)) (ht : (pc : Int) + off = (tgt : Int)) (h : (if gd then (if 0 ≤ a then A else B) else none) = some r) (hg : gd → zr a) (kt : 0 ≤ a → A = some r → z_W C σ tgt lv st) (kf : ¬ (0 ≤ a) → B = some r → z_W C σ (pc + 3) lv st) : z_W C σ pc lv (.int (zi a) :: st) := by
  obtain ⟨g9, h⟩ := z_gd h
  obtain ha := hg g9
  have hb := zr_0
  have kt := fun hc => kt hc (by rw [if_pos hc] at h; exact h)
  have kf := fun hc => kf hc (by rw [if_neg hc] at h; exact h)
  obtain ⟨p, l, e, R, s, m, args, below, meth, c, Q, cells, slots, A0, H0, nL, g⟩ := C
  intro H locs ls hP hS hl
  exact lv_if_ge hx.1 hx.2.1 hd ht (fun hc => kt ((zi_le hb ha).mp hc) H locs ls hP hS hl) (fun hc => kf (fun h9 => hc ((zi_le hb ha).mpr h9)) H locs ls hP hS hl)
theorem z_icmp_eq (hx : z_ok C cc own sd) {a b : Int} {off : Int} {tgt : Nat} {gd : Prop} [Decidable gd] {A B : Option α} (hd : decode cc pc = .ok (.if_icmp .eq off, 3)) (ht : (pc : Int) + off = (tgt : Int)) (h : (if gd then (if a = b then A else B) else none) = some r) (hg : gd → zr a ∧ zr b) (kt : a = b → A = some r → z_W C σ tgt lv st) (kf : ¬ (a = b) → B = some r → z_W C σ (pc + 3) lv st) : z_W C σ pc lv (.int (zi b) :: .int (zi a) :: st) := by
  obtain ⟨g9, h⟩ := z_gd h
  obtain ⟨ha, hb⟩ := hg g9
  have kt := fun hc => kt hc (by rw [if_pos hc] at h; exact h)
  have kf := fun hc => kf hc (by rw [if_neg hc] at h; exact h)
  obtain ⟨p, l, e, R, s, m, args, below, meth, c, Q, cells, slots, A0, H0, nL, g⟩ := C
  intro H locs ls hP hS hl
  exact lv_icmp_eq hx.1 hx.2.1 hd ht (fun hc => kt ((zi_eq ha hb).mp hc) H locs ls hP hS hl) (fun hc => kf (fun h9 => hc ((zi_eq ha hb).mpr h9)) H locs ls hP hS hl)
theorem z_if_eq (hx : z_ok C cc own sd) {a : Int} {off : Int} {tgt : Nat} {gd : Prop} [Decidable gd] {A B : Option α} (hd : decode cc pc = .ok (.ifCond .eq off, 3)) (ht : (pc : Int) + off = (tgt : Int)) (h : (if gd then (if a = 0 then A else B) else none) = some r) (hg : gd → zr a) (kt : a = 0 → A = some r → z_W C σ tgt lv st) (kf : ¬ (a = 0) → B = some r → z_W C σ (pc + 3) lv st) : z_W C σ pc lv (.int (zi a) :: st) := by
  obtain ⟨g9, h⟩ := z_gd h
  obtain ha := hg g9
  have hb := zr_0
  have kt := fun hc => kt hc (by rw [if_pos hc] at h; exact h)
  have kf := fun hc => kf hc (by rw [if_neg hc] at h; exact h)
  obtain ⟨p, l, e, R, s, m, args, below, meth, c, Q, cells, slots, A0, H0, nL, g⟩ := C
  intro H locs ls hP hS hl
  exact lv_if_eq hx.1 hx.2.1 hd ht (fun hc => kt ((zi_eq ha hb).mp hc) H locs ls hP hS hl) (fun hc => kf (fun h9 => hc ((zi_eq ha hb).mpr h9)) H locs ls hP hS hl)
theorem z_icmp_ne (hx : z_ok C cc own sd) {a b : Int} {off : Int} {tgt : Nat} {gd : Prop} [Decidable gd] {A B : Option α} (hd : decode cc pc = .ok (.if_icmp .ne off, 3)) (ht : (pc : Int) + off = (tgt : Int)) (h : (if gd then (if ¬ a = b then A else B) else none) = some r) (hg : gd → zr a ∧ zr b) (kt : ¬ a = b → A = some r → z_W C σ tgt lv st) (kf : ¬ (¬ a = b) → B = some r → z_W C σ (pc + 3) lv st) : z_W C σ pc lv (.int (zi b) :: .int (zi a) :: st) := by
  obtain ⟨g9, h⟩ := z_gd h
  obtain ⟨ha, hb⟩ := hg g9
  have kt := fun hc => kt hc (by rw [if_pos hc] at h; exact h)
  have kf := fun hc => kf hc (by rw [if_neg hc] at h; exact h)
  obtain ⟨p, l, e, R, s, m, args, below, meth, c, Q, cells, slots, A0, H0, nL, g⟩ := C
  intro H locs ls hP hS hl
  exact lv_icmp_ne hx.1 hx.2.1 hd ht (fun hc => kt ((not_congr (zi_eq ha hb)).mp hc) H locs ls hP hS hl) (fun hc => kf (Decidable.not_not.mpr ((zi_eq ha hb).mp hc)) H locs ls hP hS hl)
theorem z_if_ne (hx : z_ok C cc own sd) {a : Int} {off : Int} {tgt : Nat} {gd : Prop} [Decidable gd] {A B : Option α} (hd : decode cc pc = .ok (.ifCond .ne off, 3)) (ht : (pc : Int) + off = (tgt : Int)) (h : (if gd then (if ¬ a = 0 then A else B) else none) = some r) (hg : gd → zr a) (kt : ¬ a = 0 → A = some r → z_W C σ tgt lv st) (kf : ¬ (¬ a = 0) → B = some r → z_W C σ (pc + 3) lv st) : z_W C σ pc lv (.int (zi a) :: st) := by
  obtain ⟨g9, h⟩ := z_gd h
  obtain ha := hg g9
  have hb := zr_0
  have kt := fun hc => kt hc (by rw [if_pos hc] at h; exact h)
  have kf := fun hc => kf hc (by rw [if_neg hc] at h; exact h)
  obtain ⟨p, l, e, R, s, m, args, below, meth, c, Q, cells, slots, A0, H0, nL, g⟩ := C
  intro H locs ls hP hS hl
  exact lv_if_ne hx.1 hx.2.1 hd ht (fun hc => kt ((not_congr (zi_eq ha hb)).mp hc) H locs ls hP hS hl) (fun hc => kf (Decidable.not_not.mpr ((zi_eq ha hb).mp hc)) H locs ls hP hS hl)
end
end
section
/-! ROWS OF FIELDS, ARRAYS, CALLS, BEGINNINGS AND ENDS -/
theorem z_up_row (σ : zS) (k : Nat) (i v : Int) : z_up σ k i v k = fun b => if b = i then v else σ k b := by
  funext b; simp [z_up]
theorem z_up_ne (σ : zS) (k : Nat) (i v : Int) (a : Nat) (h : a ≠ k) : z_up σ k i v a = σ a := by
  funext b; simp [z_up, h]
theorem z_side0 {g : zG} (h : g.1 = 0) : z_mk g = z_mk0 g.2.1 g.2.2.1 g.2.2.2.1 g.2.2.2.2.1 := by
  obtain ⟨sd, ad, cI, cZ, cR, D⟩ := g
  cases h
  rfl
theorem z_side1 {g : zG} (h : g.1 = 1) : z_mk g = z_mk1 g.2.1 g.2.2.1 := by
  obtain ⟨sd, ad, cI, cZ, cR, D⟩ := g
  cases h
  rfl
theorem z_N0 {g : zG} (h : g.1 = 0) : z_N g = 64 := by simp [z_N, h]
theorem z_N1 {g : zG} (h : g.1 = 1) : z_N g = 10 := by simp [z_N, h]
section
variable {C : zC} {cc : ByteArray} {own : String} {sd : Nat} {σ : zS} {pc : Nat} {lv : List (Nat × Value)} {st : List Value} {α : Type} {r : α}
theorem z_ok_sd (hx : z_ok C cc own sd) : (z_g C).1 = sd := by
  obtain ⟨p, l, e, R, s, m, args, below, meth, c, Q, cells, slots, A, H0, nL, g⟩ := C
  exact hx.2.2.2.2.2.2.2.2.1
theorem z_getf (hx : z_ok C cc own sd) {CN : String} {T : u_T} {N ci index : Nat} {k : Nat} (hk : k < z_N (z_g C)) {fs : List Value} (hm : z_mk (z_g C) k (σ k) = .inr (ci, fs)) (hc : vwCl[ci]? = some (CN, T, N)) (hin : ∀ w ∈ u_ws CN T N, w ∈ z_ws) (j : Nat) (hj : j < N) (hw : Cond.fieldLink own index CN (T j).2.1 (T j).2.2.1 ∈ z_ws) (hT : (T j).1 = CN) {v : Value} (hv : fs[j]? = some v) (hd : decode cc pc = .ok (.getfield index, 3)) (kk : z_W C σ (pc + 3) lv (v :: st)) : z_W C σ pc lv (.ref (z_ad (z_g C) k) :: st) := by
  obtain ⟨p, l, e, R, s, m, args, below, meth, c, Q, cells, slots, A, H0, nL, g⟩ := C
  intro H locs ls hP hS hl
  have he := z_wd_get (mk := z_mk g) (ad := g.2.1) (σ := σ) hk
  rw [hm] at he
  obtain ⟨h1, h2, h3, h4, h5, h6, h7, h8, h9, h10, h11, h12⟩ := hx
  exact va_get h1 h2 h5 hin h4 h6 hP k he hc j hj (h5 _ hw) (fun x hx => by rw [← hT]; exact hx) hv hd (kk H locs ls hP hS hl)
theorem z_putf (hx : z_ok C cc own sd) {CN : String} {T : u_T} {N ci index : Nat} {k : Nat} (hk : k < z_N (z_g C)) (fs : (Int → Int) → List Value) (hm : ∀ f, z_mk (z_g C) k f = .inr (ci, fs f)) (hc : vwCl[ci]? = some (CN, T, N)) (hin : ∀ w ∈ u_ws CN T N, w ∈ z_ws) (ty0 : Nat → FieldType) (hty : ∀ k, k < N → parseFieldDescriptor (T k).2.2.1 = some (ty0 k)) (hnm : ∀ a, a < N → ∀ b, b < N → a ≠ b → (T a).2.1 ≠ (T b).2.1) (j : Nat) (hj : j < N) (hw : Cond.fieldLink own index CN (T j).2.1 (T j).2.2.1 ∈ z_ws) (hT : (T j).1 = CN) (hfin : (T j).2.2.2 = false) (hI : ty0 j = .int) {v : Int} (hlen : ∀ f, j < (fs f).length) (hset : ∀ f, (fs f).set j (.int (zi v)) = fs (fun b => if b = (j : Int) then v else f b)) {i : Int} (hi : (j : Int) = i) {K : zS → Option α} (hd : decode cc pc = .ok (.putfield index, 3)) (h : z_put σ k i v K = some r) (kk : ∀ σ1, K σ1 = some r → z_W C σ1 (pc + 3) lv st) : z_W C σ pc lv (.int (zi v) :: .ref (z_ad (z_g C) k) :: st) := by
  have kk := kk _ h
  obtain ⟨p, l, e, R, s, m, args, below, meth, c, Q, cells, slots, A, H0, nL, g⟩ := C
  intro H locs ls hP hS hl
  have he := z_wd_get (mk := z_mk g) (ad := g.2.1) (σ := σ) hk
  rw [hm] at he
  obtain ⟨h1, h2, h3, h4, h5, h6, h7, h8, h9, h10, h11, h12⟩ := hx
  refine va_put h1 h2 h5 hin ty0 hty hnm h4 h6 hP (h7 σ) hS k he hc j hj (h5 _ hw) (fun x hx => by rw [← hT]; exact hx) hfin (ty := .int) (v := .int (zi v)) (by rw [hty j hj, hI]) rfl rfl (hlen _) hd (fun H1 locs1 hP1 hD1 hS1 => ?_)
  refine kk H1 locs1 ls ?_ hS1 hl
  have e1 := z_wd_set (mk := z_mk g) (N := z_N g) (ad := g.2.1) (σ := σ) (τ := z_up σ k i v) (k := k) (e := .inr (ci, (fs (σ k)).set j (.int (zi v)))) (by rw [z_up_row, hm, hset, hi]) (fun a ha => z_up_ne σ k i v a ha)
  rw [e1] at hP1
  exact hP1
theorem z_ald_aux {f : Int → Int} {i : Int} (h0 : 0 ≤ i) (h1 : i < 2147483648) : z_ar f (zi i).toNatClampNeg = zi (f i) := by
  show zi (f _) = _
  rw [zi_clamp h0 h1, Int.toNat_of_nonneg h0]
theorem z_iald (hx : z_ok C cc own sd) {k N : Nat} {n : Int} (hk : k < z_N (z_g C)) (hm : z_mk (z_g C) k (σ k) = .inl ((z_g C).2.2.1, N, .inl (z_ar (σ k)))) (hN : (N : Int) = n) (hb : n ≤ 2147483647) {i : Int} {A : Option α} (hd : decode cc pc = .ok (.iaload, 1)) (h : (if 0 ≤ i ∧ i < n then A else none) = some r) (kk : A = some r → z_W C σ (pc + 1) lv (.int (zi (σ k i)) :: st)) : z_W C σ pc lv (.int (zi i) :: .ref (z_ad (z_g C) k) :: st) := by
  obtain ⟨⟨i0, i1⟩, h⟩ := z_gd h
  have kk := kk h
  obtain ⟨p, l, e, R, s, m, args, below, meth, c, Q, cells, slots, A, H0, nL, g⟩ := C
  intro H locs ls hP hS hl
  have he := z_wd_get (mk := z_mk g) (ad := g.2.1) (σ := σ) hk
  rw [hm] at he
  obtain ⟨h1, h2, h3, h4, h5, h6, h7, h8, h9, h10, h11, h12⟩ := hx
  refine va_iald h1 h2 h6 hP k 0 he rfl (zi_in i0 (by omega) (by omega)) hd ?_
  rw [z_ald_aux i0 (by omega)]
  exact kk H locs ls hP hS hl
theorem z_zald (hx : z_ok C cc own sd) {k N : Nat} {n : Int} (hk : k < z_N (z_g C)) (hm : z_mk (z_g C) k (σ k) = .inl ((z_g C).2.2.2.1, N, .inl (z_ar (σ k)))) (hN : (N : Int) = n) (hb : n ≤ 2147483647) {i : Int} {A : Option α} (hd : decode cc pc = .ok (.baload, 1)) (h : (if 0 ≤ i ∧ i < n then A else none) = some r) (kk : A = some r → z_W C σ (pc + 1) lv (.int (zi (σ k i)) :: st)) : z_W C σ pc lv (.int (zi i) :: .ref (z_ad (z_g C) k) :: st) := by
  obtain ⟨⟨i0, i1⟩, h⟩ := z_gd h
  have kk := kk h
  obtain ⟨p, l, e, R, s, m, args, below, meth, c, Q, cells, slots, A, H0, nL, g⟩ := C
  intro H locs ls hP hS hl
  have he := z_wd_get (mk := z_mk g) (ad := g.2.1) (σ := σ) hk
  rw [hm] at he
  obtain ⟨h1, h2, h3, h4, h5, h6, h7, h8, h9, h10, h11, h12⟩ := hx
  refine va_zald h1 h2 h6 hP k 1 he rfl (zi_in i0 (by omega) (by omega)) hd ?_
  rw [z_ald_aux i0 (by omega)]
  exact kk H locs ls hP hS hl
theorem z_iast (hx : z_ok C cc own sd) {k N : Nat} {n : Int} (hk : k < z_N (z_g C)) (hm : ∀ f, z_mk (z_g C) k f = .inl ((z_g C).2.2.1, N, .inl (z_ar f))) (hN : (N : Int) = n) (hb : n ≤ 2147483647) {i v : Int} {K : zS → Option α} (hd : decode cc pc = .ok (.iastore, 1)) (h : (if 0 ≤ i ∧ i < n then z_put σ k i v K else none) = some r) (kk : ∀ σ1, K σ1 = some r → z_W C σ1 (pc + 1) lv st) : z_W C σ pc lv (.int (zi v) :: .int (zi i) :: .ref (z_ad (z_g C) k) :: st) := by
  obtain ⟨⟨i0, i1⟩, h⟩ := z_gd h
  have kk := kk _ h
  obtain ⟨p, l, e, R, s, m, args, below, meth, c, Q, cells, slots, A, H0, nL, g⟩ := C
  intro H locs ls hP hS hl
  have he := z_wd_get (mk := z_mk g) (ad := g.2.1) (σ := σ) hk
  rw [hm] at he
  obtain ⟨h1, h2, h3, h4, h5, h6, h7, h8, h9, h10, h11, h12⟩ := hx
  refine va_iast h1 h2 h6 hP (h7 σ) hS k 0 he rfl (zi_in i0 (by omega) (by omega)) hd (fun H1 locs1 hP1 hD1 hS1 => ?_)
  refine kk H1 locs1 ls ?_ hS1 hl
  rw [z_ar_up i0 (by omega)] at hP1
  have e1 := z_wd_set (mk := z_mk g) (N := z_N g) (ad := g.2.1) (σ := σ) (τ := z_up σ k i v) (k := k) (e := .inl (g.2.2.1, N, .inl (z_ar (fun b => if b = i then v else σ k b)))) (by rw [z_up_row]; exact (hm _).symm) (fun a ha => z_up_ne σ k i v a ha)
  show va_P g.2.2.2.2.2 vwCl (z_wd (z_mk g) (z_N g) g.2.1 (z_up σ k i v)) H1
  rw [← e1]
  exact hP1
theorem z_nar {v : Int} (h : 0 ≤ v ∧ v ≤ 1) : vp_nar .boolean (zi v) = zi v ∧ narrow .boolean (.int (zi v)) = .int (zi v) := by
  rcases (show v = 0 ∨ v = 1 by omega) with rfl | rfl <;> exact ⟨rfl, rfl⟩
theorem z_zast (hx : z_ok C cc own sd) {k N : Nat} {n : Int} (hk : k < z_N (z_g C)) (hm : ∀ f, z_mk (z_g C) k f = .inl ((z_g C).2.2.2.1, N, .inl (z_ar f))) (hN : (N : Int) = n) (hb : n ≤ 2147483647) {i v : Int} {K : zS → Option α} (hd : decode cc pc = .ok (.bastore, 1)) (h : (if (0 ≤ i ∧ i < n) ∧ 0 ≤ v ∧ v ≤ 1 then z_put σ k i v K else none) = some r) (kk : ∀ σ1, K σ1 = some r → z_W C σ1 (pc + 1) lv st) : z_W C σ pc lv (.int (zi v) :: .int (zi i) :: .ref (z_ad (z_g C) k) :: st) := by
  obtain ⟨⟨⟨i0, i1⟩, hv⟩, h⟩ := z_gd h
  have kk := kk _ h
  obtain ⟨p, l, e, R, s, m, args, below, meth, c, Q, cells, slots, A, H0, nL, g⟩ := C
  intro H locs ls hP hS hl
  have he := z_wd_get (mk := z_mk g) (ad := g.2.1) (σ := σ) hk
  rw [hm] at he
  obtain ⟨h1, h2, h3, h4, h5, h6, h7, h8, h9, h10, h11, h12⟩ := hx
  refine va_zast h1 h2 h6 hP (h7 σ) hS k 1 he rfl (zi_in i0 (by omega) (by omega)) hd (fun H1 locs1 hP1 hD1 hS1 => ?_)
  refine kk H1 locs1 ls ?_ hS1 hl
  rw [(z_nar hv).1, z_ar_up i0 (by omega)] at hP1
  have e1 := z_wd_set (mk := z_mk g) (N := z_N g) (ad := g.2.1) (σ := σ) (τ := z_up σ k i v) (k := k) (e := .inl (g.2.2.2.1, N, .inl (z_ar (fun b => if b = i then v else σ k b)))) (by rw [z_up_row]; exact (hm _).symm) (fun a ha => z_up_ne σ k i v a ha)
  show va_P g.2.2.2.2.2 vwCl (z_wd (z_mk g) (z_N g) g.2.1 (z_up σ k i v)) H1
  rw [← e1]
  exact hP1
theorem z_alen (hx : z_ok C cc own sd) {k N : Nat} {n : Int} (hk : k < z_N (z_g C)) (hm : z_mk (z_g C) k (σ k) = .inl ((z_g C).2.2.1, N, .inl (z_ar (σ k)))) (hN : Int32.ofNat N = zi n) (hd : decode cc pc = .ok (.arraylength, 1)) (kk : z_W C σ (pc + 1) lv (.int (zi n) :: st)) : z_W C σ pc lv (.ref (z_ad (z_g C) k) :: st) := by
  obtain ⟨p, l, e, R, s, m, args, below, meth, c, Q, cells, slots, A, H0, nL, g⟩ := C
  intro H locs ls hP hS hl
  have he := z_wd_get (mk := z_mk g) (ad := g.2.1) (σ := σ) hk
  rw [hm] at he
  obtain ⟨h1, h2, h3, h4, h5, h6, h7, h8, h9, h10, h11, h12⟩ := hx
  exact va_alen h1 h2 h6 hP k 0 he rfl hN hd (kk H locs ls hP hS hl)
end
end
section
/-! CONTRACTS, CALLS, BEGINNINGS AND ENDS -/
/-- the world behind a method -/
def z_B (g : zG) (A : Nat → Prop) (u : zS) (t : State) : Prop := va_P g.2.2.2.2.2 vwCl (z_w g u) t.heap ∧ va_K g.2.2.2.2.2 vwCl (z_tys g) t ∧ va_D A (z_w g u)
def z_QI (g : zG) (r0 : Int) (σ' : zS) (A : Nat → Prop) : Array Value → State → Outcome → State → Prop := va_Qi (fun (x : Int32) (u : zS) => x = zi r0 ∧ u = σ') (z_B g A) A
def z_QV (g : zG) (σ' : zS) (A : Nat → Prop) : Array Value → State → Outcome → State → Prop := va_Qv (fun (u : zS) => u = σ') (z_B g A) A
def z_QL (g : zG) (r0 : Int) (σ' : zS) (A : Nat → Prop) : Array Value → State → Outcome → State → Prop := va_Ql (fun (x : Int64) (u : zS) => x = zl r0 ∧ u = σ') (z_B g A) A
def z_QR (g : zG) (k : Nat) (σ' : zS) (A : Nat → Prop) : Array Value → State → Outcome → State → Prop := va_Qr (fun (u : zS) => u = σ') (fun u a t => a = z_ad g k ∧ z_B g A u t) A
/-- what a method finds: the world, the classes -/
def z_Pre (g : zG) (σ : zS) (sz : Nat) (U : State) : Prop := U.heap.size = sz ∧ va_P g.2.2.2.2.2 vwCl (z_w g σ) U.heap ∧ va_K g.2.2.2.2.2 vwCl (z_tys g) U ∧ va_D (fun _ => True) (z_w g σ)
/-- a method's contract over a world: from what the cells hold to what they hold then -/
def z_Met (l : Launch) (y : MethodName) (cc : ByteArray) (nL : Nat) (ret : Option FieldType) (rm : Room) (g : zG) (av : List Value) (σ : zS) (Qk : (Nat → Prop) → Array Value → State → Outcome → State → Prop) : Prop :=
  ∀ sz : Nat, Met l y (.code y cc nL ret :: z_ws) rm (va_Pc av (z_Pre g σ sz)) (Qk (va_A (z_w g σ) sz)) 0 0 (va_A (z_w g σ) sz)
abbrev z_nL (C : zC) : Nat := C.2.2.2.2.2.2.2.2.2.2.2.2.2.2.2.1
/-- the end that is due -/
def z_fin (C : zC) (ret : Option FieldType) (Qk : (Nat → Prop) → Array Value → State → Outcome → State → Prop) : Prop := match C with
  | (_, _, _, _, s, _, args, below, meth, _, Q, cells, slots, A, _, _, _) => meth.sig.returnType = ret ∧ meth.locks = false ∧ Q = MQ below (Qk A) args s cells slots A
theorem z_enter {l : Launch} {y : MethodName} {cc : ByteArray} {nL : Nat} {ret : Option FieldType} {rm : Room} {g : zG} {av : List Value} {σ : zS} {Qk : (Nat → Prop) → Array Value → State → Outcome → State → Prop} {own : String} {sd : Nat} {lv0 : List (Nat × Value)} (hy : plainName y.cls = true) (hown : y.cls = own) (hlen : (lg_sl av).length ≤ nL) (hg : g.1 = sd) (hlv : lv_args 0 av = lv0)
    (body : ∀ C : zC, z_ok C cc own sd → z_l C = l → z_g C = g → z_R C = rm → z_nL C = nL → z_fin C ret Qk → z_W C σ 0 lv0 []) : z_Met l y cc nL ret rm g av σ Qk := by
  intro sz
  refine Met.ofW (cc := cc) (maxL := nL) (ret := ret) hy rfl ?_
  intro p e s m args below meth c s₁ B hml hv
  obtain ⟨rfl, hsz, hP, hK, hD0⟩ := hv
  have hx := B.exec
  have hb := B.bytes
  have hr := B.returns
  have hts := atoms_spec (ws := .code y cc nL ret :: z_ws) B.pre
  have hown2 : s.vm.findClass y.cls = some m.cls := findClass_of_methodNamed B.named
  have hlocks := B.notSynchronized
  subst hsz
  have hD := hD0.self (sz := s.heap.size)
  have hl := lv_entry av (n := nL) hlen
  rw [lg_entry_eq]
  rw [hlv] at hl
  refine body (p, l, e, rm, s, m, av.toArray, below, meth, c, MQ below (Qk (va_A (z_w g σ) s.heap.size)) av.toArray s 0 0 (va_A (z_w g σ) s.heap.size), 0, 0, va_A (z_w g σ) s.heap.size, s.heap, nL, g) ?_ rfl rfl rfl rfl ⟨hr, hlocks, rfl⟩ s.heap [] _ hP va_S.rf hl
  exact ⟨hx, hb, hml, hown ▸ hown2, fun w hw => hts w (List.mem_cons_of_mem _ hw), hK, fun τ => z_wd_D hD, fun q h => Or.inr h, hg, Nat.zero_le _, Nat.zero_le _, rfl⟩
section
variable {C : zC} {cc : ByteArray} {own : String} {sd : Nat} {σ : zS} {pc : Nat} {lv : List (Nat × Value)} {st : List Value} {α : Type} {r : α}
theorem z_iret (hx : z_ok C cc own sd) {r0 : Int} (hq : z_fin C (some .int) (z_QI (z_g C) r0 σ)) (hd : decode cc pc = .ok (.ireturn, 1)) : z_W C σ pc lv [.int (zi r0)] := by
  obtain ⟨p, l, e, R, s, m, args, below, meth, c, Q, cells, slots, A, H0, nL, g⟩ := C
  intro H locs ls hP hS hl
  obtain ⟨h1, h2, h3, h4, h5, h6, h7, h8, h9, h10, h11, rfl⟩ := hx
  obtain ⟨q1, q2, q3⟩ := hq
  rw [q3]
  exact W.iret h1 h2 q1 (fun t ht hW => ⟨⟨zi r0, σ, rfl, ⟨rfl, rfl⟩, by rw [ht]; exact hP, va_K.moved hW.alike h6, h7 σ⟩, hS.F ht⟩) hS.2.2 hd q2
theorem z_zret (hx : z_ok C cc own sd) {r0 : Int} (hz : 0 ≤ r0 ∧ r0 ≤ 1) (hq : z_fin C (some .boolean) (z_QI (z_g C) r0 σ)) (hd : decode cc pc = .ok (.ireturn, 1)) : z_W C σ pc lv [.int (zi r0)] := by
  obtain ⟨p, l, e, R, s, m, args, below, meth, c, Q, cells, slots, A, H0, nL, g⟩ := C
  intro H locs ls hP hS hl
  obtain ⟨h1, h2, h3, h4, h5, h6, h7, h8, h9, h10, h11, rfl⟩ := hx
  obtain ⟨q1, q2, q3⟩ := hq
  rw [q3]
  exact W.zret h1 h2 q1 (z_nar hz).2 (fun t ht hW => ⟨⟨zi r0, σ, rfl, ⟨rfl, rfl⟩, by rw [ht]; exact hP, va_K.moved hW.alike h6, h7 σ⟩, hS.F ht⟩) hS.2.2 hd q2
theorem z_vret (hx : z_ok C cc own sd) (hq : z_fin C none (z_QV (z_g C) σ)) (hd : decode cc pc = .ok (.return_, 1)) : z_W C σ pc lv [] := by
  obtain ⟨p, l, e, R, s, m, args, below, meth, c, Q, cells, slots, A, H0, nL, g⟩ := C
  intro H locs ls hP hS hl
  obtain ⟨h1, h2, h3, h4, h5, h6, h7, h8, h9, h10, h11, rfl⟩ := hx
  obtain ⟨q1, q2, q3⟩ := hq
  rw [q3]
  exact W.vret h1 h2 q1 (fun t ht hW => ⟨⟨σ, rfl, rfl, by rw [ht]; exact hP, va_K.moved hW.alike h6, h7 σ⟩, hS.F ht⟩) hS.2.2 hd q2
theorem z_lret (hx : z_ok C cc own sd) {r0 : Int} (hq : z_fin C (some .long) (z_QL (z_g C) r0 σ)) (hd : decode cc pc = .ok (.lreturn, 1)) : z_W C σ pc lv [.long (zl r0)] := by
  obtain ⟨p, l, e, R, s, m, args, below, meth, c, Q, cells, slots, A, H0, nL, g⟩ := C
  intro H locs ls hP hS hl
  obtain ⟨h1, h2, h3, h4, h5, h6, h7, h8, h9, h10, h11, rfl⟩ := hx
  obtain ⟨q1, q2, q3⟩ := hq
  rw [q3]
  exact W.lret h1 h2 q1 (fun t ht hW => ⟨⟨zl r0, σ, rfl, ⟨rfl, rfl⟩, by rw [ht]; exact hP, va_K.moved hW.alike h6, h7 σ⟩, hS.F ht⟩) hS.2.2 hd q2
theorem z_aret (hx : z_ok C cc own sd) {k : Nat} {n : String} (hq : z_fin C (some (.object n)) (z_QR (z_g C) k σ)) (hd : decode cc pc = .ok (.areturn, 1)) : z_W C σ pc lv [.ref (z_ad (z_g C) k)] := by
  obtain ⟨p, l, e, R, s, m, args, below, meth, c, Q, cells, slots, A, H0, nL, g⟩ := C
  intro H locs ls hP hS hl
  obtain ⟨h1, h2, h3, h4, h5, h6, h7, h8, h9, h10, h11, rfl⟩ := hx
  obtain ⟨q1, q2, q3⟩ := hq
  rw [q3]
  exact W.aret h1 h2 q1 (Or.inl ⟨n, rfl⟩) (Or.inr ⟨_, rfl⟩) (fun t ht hW => ⟨⟨σ, g.2.1 k, rfl, rfl, rfl, by rw [ht]; exact hP, va_K.moved hW.alike h6, h7 σ⟩, hS.F ht⟩) hS.2.2 hd q2
/-- the words of a call of a method of an object's own class -/
def z_cv (own : String) (idx : Nat) (y : MethodName) (cc : ByteArray) (nL : Nat) (ret : Option FieldType) (n : Nat) : Prop :=
  (∀ w ∈ wsV own idx y.cls y (.code y cc nL ret :: z_ws), w ∈ z_ws) ∧ (y.cls = y.cls ∧ y.cls ≠ "java/lang/invoke/MethodHandle" ∧ y.cls ≠ "java/lang/invoke/VarHandle" ∧ (parseMethodDescriptor y.desc).map (fun d => d.parameters.length) = some n)
theorem z_cv_of {own : String} {idx : Nat} {y : MethodName} {cc : ByteArray} {nL : Nat} {ret : Option FieldType} {n : Nat} (w1 : Cond.methodLink own idx y ∈ z_ws) (w2 : Cond.instanceMethod y ∈ z_ws) (w3 : Cond.selects y.cls y y ∈ z_ws) (w4 : Cond.initialized y.cls ∈ z_ws) (w5 : Cond.code y cc nL ret ∈ z_ws) (hd : y.cls ≠ "java/lang/invoke/MethodHandle" ∧ y.cls ≠ "java/lang/invoke/VarHandle" ∧ (parseMethodDescriptor y.desc).map (fun d => d.parameters.length) = some n) : z_cv own idx y cc nL ret n := by
  refine ⟨fun w hw => ?_, rfl, hd⟩
  rcases List.mem_append.mp hw with h | h
  · rcases List.mem_cons.mp h with rfl | h
    · exact w1
    rcases List.mem_cons.mp h with rfl | h
    · exact w2
    rcases List.mem_cons.mp h with rfl | h
    · exact w3
    rcases List.mem_cons.mp h with rfl | h
    · exact w4
    cases h
  · rcases List.mem_cons.mp h with rfl | h
    · exact w5
    · exact h
theorem z_blind {g : zG} {σ : zS} {sz : Nat} {av : List Value} : FrameBlind (va_Pc av (z_Pre g σ sz)) := fun a U f mk q => ⟨q.1, q.2.1, q.2.2.1, va_K.moved (u := U) (U := U.calling f mk a) (Vm.Alike.refl U.vm) q.2.2.2.1, q.2.2.2.2⟩
theorem z_free {g : zG} {A : Nat → Prop} {H0 H : Heap} {locs : List Loc} {σ : zS} (hD : va_D A (z_w g σ)) (hA : ∀ q, H0.size ≤ q → A q) (hS : va_S A H0 H locs) : ∀ q, va_A (z_w g σ) H.size q → A q := by
  intro q h
  rcases h with ⟨k, e, hk⟩ | h
  · exact hD.2 k _ hk
  · exact hA q (Nat.le_trans hS.1 h)
/-- the run of a call, whatever it answers -/
theorem z_run {p : Program} {l : Launch} {e : Env} {R : Room} {s : State} {m : MethodId} {args : Array Value} {below : List Frame} {meth : Method} {c : Code} {Q : State → Prop} {cells slots : Nat} {A : Nat → Prop} {H0 : Heap} {nL : Nat} {g : zG} (hx : z_ok (p, l, e, R, s, m, args, below, meth, c, Q, cells, slots, A, H0, nL, g) cc own sd) {y : MethodName} {cc' : ByteArray} {nL' n idx : Nat} {ret' : Option FieldType} {rm' : Room} {As : List Value} {k ci : Nat} {CN : String} {T : u_T} {N : Nat} {fs : List Value} {Qk : (Nat → Prop) → Array Value → State → Outcome → State → Prop}
    (hM : z_Met l y cc' nL' ret' rm' g (.ref (z_ad g k) :: As) σ Qk) (hk : k < z_N g) (hm : z_mk g k (σ k) = .inr (ci, fs)) (hc : vwCl[ci]? = some (CN, T, N)) (hCN : CN = y.cls) (hw : z_cv own idx y cc' nL' ret' n) (hR : rm'.frames + 1 ≤ R.frames ∧ 8 + (nL' + 11) + rm'.locals ≤ R.locals) (hrc : rm'.cells = 0 ∧ rm'.slots = 0) (hn : As.length = n)
    {H : Heap} {locs : List Loc} {ls : Array Slot} (hP : va_P g.2.2.2.2.2 vwCl (z_w g σ) H) (hl : ls.size = nL) {stk : List Value} (hst : stk = As.reverse ++ .ref (z_ad g k) :: st) (hsum : (st.map fun v => v.category).sum ≤ 8) (hd : decode cc pc = .ok (.invokevirtual idx, 3)) :
    va_Run p l e R s m args below meth c H locs cells slots 0 0 (F0 m pc ls stk) st (Qk (va_A (z_w g σ) H.size) (Value.ref (z_ad g k) :: As).toArray) (va_A (z_w g σ) H.size) := by
  have he := z_wd_get (mk := z_mk g) (ad := g.2.1) (σ := σ) hk
  rw [hm] at he
  obtain ⟨h1, h2, h3, h4, h5, h6, h7, h8, h9, h10, h11, h12⟩ := hx
  subst hCN
  exact va_runV (As := As) (rest := st) ⟨h1, h2, h3, h4, h5⟩ (hM H.size) (cwV n h5 (fun w h => ⟨hw.1 w h, good_of_word (List.mem_filter.mp (hw.1 w h)).2⟩) rfl hrc.1 hrc.2 ⟨rfl, hw.2.2⟩ hR) ⟨z_blind, va_recv h6 hP hc he, fun U hU hW => ⟨rfl, by rw [hU], by rw [hU]; exact hP, va_K.moved hW.alike h6, (h7 σ).weaken (fun _ _ _ _ => trivial)⟩⟩ rfl hn hl hst (lv_room hsum) hd ⟨h10, h11⟩
theorem z_calli (hx : z_ok C cc own sd) {y : MethodName} {cc' : ByteArray} {nL' n idx : Nat} {ret' : Option FieldType} {rm' : Room} {As : List Value} {k ci : Nat} {CN : String} {T : u_T} {N : Nat} {fs : List Value} {r0 : Int} {σ1 : zS}
    (hM : z_Met (z_l C) y cc' nL' ret' rm' (z_g C) (.ref (z_ad (z_g C) k) :: As) σ (z_QI (z_g C) r0 σ1)) (hk : k < z_N (z_g C)) (hm : z_mk (z_g C) k (σ k) = .inr (ci, fs)) (hc : vwCl[ci]? = some (CN, T, N)) (hCN : CN = y.cls) (hw : z_cv own idx y cc' nL' ret' n) (hR : rm'.frames + 1 ≤ (z_R C).frames ∧ 8 + (nL' + 11) + rm'.locals ≤ (z_R C).locals) (hrc : rm'.cells = 0 ∧ rm'.slots = 0) (hn : As.length = n)
    {stk : List Value} (hst : stk = As.reverse ++ .ref (z_ad (z_g C) k) :: st) (hsum : (st.map fun v => v.category).sum ≤ 8) (hd : decode cc pc = .ok (.invokevirtual idx, 3)) (kk : z_W C σ1 (pc + 3) lv (.int (zi r0) :: st)) : z_W C σ pc lv stk := by
  obtain ⟨p, l, e, R, s, m, args, below, meth, c, Q, cells, slots, A, H0, nL, g⟩ := C
  intro H locs ls hP hS hl
  have hF := z_free (g := g) (σ := σ) (hx.2.2.2.2.2.2.1 σ) hx.2.2.2.2.2.2.2.1 hS
  refine va_calli (z_run hx hM hk hm hc hCN hw hR hrc hn hP hl.1 hst hsum hd) hS (fun q _ h => hF q h) hF (fun r1 u t H1 locs1 ht hvm hw1 hB hz1 hk1 hS1 => ?_)
  obtain ⟨rfl, rfl⟩ := hw1
  obtain ⟨hP1, hK1, hD1⟩ := hB
  rw [ht] at hP1
  exact kk H1 locs1 ls hP1 hS1 hl
theorem z_callv (hx : z_ok C cc own sd) {y : MethodName} {cc' : ByteArray} {nL' n idx : Nat} {ret' : Option FieldType} {rm' : Room} {As : List Value} {k ci : Nat} {CN : String} {T : u_T} {N : Nat} {fs : List Value} {σ1 : zS}
    (hM : z_Met (z_l C) y cc' nL' ret' rm' (z_g C) (.ref (z_ad (z_g C) k) :: As) σ (z_QV (z_g C) σ1)) (hk : k < z_N (z_g C)) (hm : z_mk (z_g C) k (σ k) = .inr (ci, fs)) (hc : vwCl[ci]? = some (CN, T, N)) (hCN : CN = y.cls) (hw : z_cv own idx y cc' nL' ret' n) (hR : rm'.frames + 1 ≤ (z_R C).frames ∧ 8 + (nL' + 11) + rm'.locals ≤ (z_R C).locals) (hrc : rm'.cells = 0 ∧ rm'.slots = 0) (hn : As.length = n)
    {stk : List Value} (hst : stk = As.reverse ++ .ref (z_ad (z_g C) k) :: st) (hsum : (st.map fun v => v.category).sum ≤ 8) (hd : decode cc pc = .ok (.invokevirtual idx, 3)) (kk : z_W C σ1 (pc + 3) lv st) : z_W C σ pc lv stk := by
  obtain ⟨p, l, e, R, s, m, args, below, meth, c, Q, cells, slots, A, H0, nL, g⟩ := C
  intro H locs ls hP hS hl
  have hF := z_free (g := g) (σ := σ) (hx.2.2.2.2.2.2.1 σ) hx.2.2.2.2.2.2.2.1 hS
  refine va_callv (z_run hx hM hk hm hc hCN hw hR hrc hn hP hl.1 hst hsum hd) hS (fun q _ h => hF q h) hF (fun u t H1 locs1 ht hvm hw1 hB hz1 hk1 hS1 => ?_)
  obtain rfl := hw1
  obtain ⟨hP1, hK1, hD1⟩ := hB
  rw [ht] at hP1
  exact kk H1 locs1 ls hP1 hS1 hl
theorem z_calll (hx : z_ok C cc own sd) {y : MethodName} {cc' : ByteArray} {nL' n idx : Nat} {ret' : Option FieldType} {rm' : Room} {As : List Value} {k ci : Nat} {CN : String} {T : u_T} {N : Nat} {fs : List Value} {r0 : Int} {σ1 : zS}
    (hM : z_Met (z_l C) y cc' nL' ret' rm' (z_g C) (.ref (z_ad (z_g C) k) :: As) σ (z_QL (z_g C) r0 σ1)) (hk : k < z_N (z_g C)) (hm : z_mk (z_g C) k (σ k) = .inr (ci, fs)) (hc : vwCl[ci]? = some (CN, T, N)) (hCN : CN = y.cls) (hw : z_cv own idx y cc' nL' ret' n) (hR : rm'.frames + 1 ≤ (z_R C).frames ∧ 8 + (nL' + 11) + rm'.locals ≤ (z_R C).locals) (hrc : rm'.cells = 0 ∧ rm'.slots = 0) (hn : As.length = n)
    {stk : List Value} (hst : stk = As.reverse ++ .ref (z_ad (z_g C) k) :: st) (hsum : (st.map fun v => v.category).sum ≤ 8) (hd : decode cc pc = .ok (.invokevirtual idx, 3)) (kk : z_W C σ1 (pc + 3) lv (.long (zl r0) :: st)) : z_W C σ pc lv stk := by
  obtain ⟨p, l, e, R, s, m, args, below, meth, c, Q, cells, slots, A, H0, nL, g⟩ := C
  intro H locs ls hP hS hl
  have hF := z_free (g := g) (σ := σ) (hx.2.2.2.2.2.2.1 σ) hx.2.2.2.2.2.2.2.1 hS
  refine va_calll (z_run hx hM hk hm hc hCN hw hR hrc hn hP hl.1 hst hsum hd) hS (fun q _ h => hF q h) hF (fun r1 u t H1 locs1 ht hvm hw1 hB hz1 hk1 hS1 => ?_)
  obtain ⟨rfl, rfl⟩ := hw1
  obtain ⟨hP1, hK1, hD1⟩ := hB
  rw [ht] at hP1
  exact kk H1 locs1 ls hP1 hS1 hl
theorem z_callr (hx : z_ok C cc own sd) {y : MethodName} {cc' : ByteArray} {nL' n idx : Nat} {ret' : Option FieldType} {rm' : Room} {As : List Value} {k ci kr : Nat} {CN : String} {T : u_T} {N : Nat} {fs : List Value} {σ1 : zS}
    (hM : z_Met (z_l C) y cc' nL' ret' rm' (z_g C) (.ref (z_ad (z_g C) k) :: As) σ (z_QR (z_g C) kr σ1)) (hk : k < z_N (z_g C)) (hm : z_mk (z_g C) k (σ k) = .inr (ci, fs)) (hc : vwCl[ci]? = some (CN, T, N)) (hCN : CN = y.cls) (hw : z_cv own idx y cc' nL' ret' n) (hR : rm'.frames + 1 ≤ (z_R C).frames ∧ 8 + (nL' + 11) + rm'.locals ≤ (z_R C).locals) (hrc : rm'.cells = 0 ∧ rm'.slots = 0) (hn : As.length = n)
    {stk : List Value} (hst : stk = As.reverse ++ .ref (z_ad (z_g C) k) :: st) (hsum : (st.map fun v => v.category).sum ≤ 8) (hd : decode cc pc = .ok (.invokevirtual idx, 3)) (kk : z_W C σ1 (pc + 3) lv (.ref (z_ad (z_g C) kr) :: st)) : z_W C σ pc lv stk := by
  obtain ⟨p, l, e, R, s, m, args, below, meth, c, Q, cells, slots, A, H0, nL, g⟩ := C
  intro H locs ls hP hS hl
  have hF := z_free (g := g) (σ := σ) (hx.2.2.2.2.2.2.1 σ) hx.2.2.2.2.2.2.2.1 hS
  refine va_callr (z_run hx hM hk hm hc hCN hw hR hrc hn hP hl.1 hst hsum hd) hS (fun q _ h => hF q h) hF (fun u ra t H1 locs1 ht hvm hw1 hB hz1 hk1 hS1 => ?_)
  obtain rfl := hw1
  obtain ⟨rfl, hP1, hK1, hD1⟩ := hB
  rw [ht] at hP1
  exact kk H1 locs1 ls hP1 hS1 hl
end
end
section
/-! STATIC CALLS, MATH, COPIES, SWITCHES, ROWS OF REFERENCES -/
section
variable {C : zC} {cc : ByteArray} {own : String} {sd : Nat} {σ : zS} {pc : Nat} {lv : List (Nat × Value)} {st : List Value} {α : Type} {r : α}
/-- the words of a call of a static method -/
def z_cs (own : String) (idx : Nat) (y : MethodName) (cc : ByteArray) (nL : Nat) (ret : Option FieldType) (n : Nat) : Prop :=
  (∀ w ∈ va_wsS own idx y (.code y cc nL ret :: z_ws), w ∈ z_ws) ∧ (y.cls ≠ "java/lang/invoke/MethodHandle" ∧ y.cls ≠ "java/lang/invoke/VarHandle" ∧ (parseMethodDescriptor y.desc).map (fun d => d.parameters.length) = some n)
theorem z_cs_of {own : String} {idx : Nat} {y : MethodName} {cc : ByteArray} {nL : Nat} {ret : Option FieldType} {n : Nat} (w1 : Cond.methodLink own idx y ∈ z_ws) (w2 : Cond.static y ∈ z_ws) (w4 : Cond.initialized y.cls ∈ z_ws) (w5 : Cond.code y cc nL ret ∈ z_ws) (hd : y.cls ≠ "java/lang/invoke/MethodHandle" ∧ y.cls ≠ "java/lang/invoke/VarHandle" ∧ (parseMethodDescriptor y.desc).map (fun d => d.parameters.length) = some n) : z_cs own idx y cc nL ret n := by
  refine ⟨fun w hw => ?_, hd⟩
  rcases List.mem_append.mp hw with h | h
  · rcases List.mem_cons.mp h with rfl | h
    · exact w1
    rcases List.mem_cons.mp h with rfl | h
    · exact w2
    rcases List.mem_cons.mp h with rfl | h
    · exact w4
    cases h
  · rcases List.mem_cons.mp h with rfl | h
    · exact w5
    · exact h
theorem z_calls (hx : z_ok C cc own sd) {y : MethodName} {cc' : ByteArray} {nL' n idx : Nat} {ret' : Option FieldType} {rm' : Room} {As : List Value} {r0 : Int} {σ1 : zS}
    (hM : z_Met (z_l C) y cc' nL' ret' rm' (z_g C) As σ (z_QI (z_g C) r0 σ1)) (hw : z_cs own idx y cc' nL' ret' n) (hR : rm'.frames + 1 ≤ (z_R C).frames ∧ 8 + (nL' + 11) + rm'.locals ≤ (z_R C).locals) (hrc : rm'.cells = 0 ∧ rm'.slots = 0) (hn : As.length = n)
    {stk : List Value} (hst : stk = As.reverse ++ st) (hsum : (st.map fun v => v.category).sum ≤ 8) (hd : decode cc pc = .ok (.invokestatic idx, 3)) (kk : z_W C σ1 (pc + 3) lv (.int (zi r0) :: st)) : z_W C σ pc lv stk := by
  obtain ⟨p, l, e, R, s, m, args, below, meth, c, Q, cells, slots, A, H0, nL, g⟩ := C
  intro H locs ls hP hS hl
  have hF := z_free (g := g) (σ := σ) (hx.2.2.2.2.2.2.1 σ) hx.2.2.2.2.2.2.2.1 hS
  obtain ⟨h1, h2, h3, h4, h5, h6, h7, h8, h9, h10, h11, h12⟩ := hx
  refine va_calli (va_runS (As := As) (rest := st) ⟨h1, h2, h3, h4, h5⟩ (hM H.size) (va_cwS n h5 (fun w h => ⟨hw.1 w h, good_of_word (List.mem_filter.mp (hw.1 w h)).2⟩) rfl hrc.1 hrc.2 hw.2 hR) ⟨z_blind, fun U hU hW => ⟨rfl, by rw [hU], by rw [hU]; exact hP, va_K.moved hW.alike h6, (h7 σ).weaken (fun _ _ _ _ => trivial)⟩⟩ rfl hn hl.1 hst (lv_room hsum) hd ⟨h10, h11⟩) hS (fun q _ h => hF q h) hF (fun r1 u t H1 locs1 ht hvm hw1 hB hz1 hk1 hS1 => ?_)
  obtain ⟨rfl, rfl⟩ := hw1
  obtain ⟨hP1, hK1, hD1⟩ := hB
  rw [ht] at hP1
  exact kk H1 locs1 ls hP1 hS1 hl
theorem z_max (hx : z_ok C cc own sd) {a b : Int} {A : Option α} {index : Nat} (w1 : Cond.methodLink own index Lib.Math.max.name ∈ z_ws) (w2 : Cond.static Lib.Math.max.name ∈ z_ws) (w3 : Cond.initialized "java/lang/Math" ∈ z_ws) (w4 : Cond.code Lib.Math.max.name Lib.Math.max.code 2 (some .int) ∈ z_ws) (hR : 1 ≤ (z_R C).frames ∧ 21 ≤ (z_R C).locals) (hsum : (st.map fun v => v.category).sum ≤ 8) (hd : decode cc pc = .ok (.invokestatic index, 3)) (h : (if zr a ∧ zr b then A else none) = some r) (kk : A = some r → z_W C σ (pc + 3) lv (.int (zi (if a < b then b else a)) :: st)) : z_W C σ pc lv (.int (zi b) :: .int (zi a) :: st) := by
  obtain ⟨⟨ha, hb⟩, h⟩ := z_gd h
  have kk := kk h
  obtain ⟨p, l, e, R, s, m, args, below, meth, c, Q, cells, slots, A, H0, nL, g⟩ := C
  intro H locs ls hP hS hl
  obtain ⟨h1, h2, h3, h4, h5, h6, h7, h8, h9, h10, h11, h12⟩ := hx
  refine va_mmax h1 h2 (by rw [h3, hl.1]) h4 (h5 _ w1) (h5 _ w2) (h5 _ w3) (h5 _ w4) hR.1 (by have : 21 ≤ R.locals := hR.2; omega) h10 h11 hd ?_
  have e9 : (if zi a < zi b then zi b else zi a) = zi (if a < b then b else a) := by
    by_cases h9 : a < b
    · rw [if_pos h9, if_pos ((zi_lt ha hb).mpr h9)]
    · rw [if_neg h9, if_neg (fun h8 => h9 ((zi_lt ha hb).mp h8))]
  rw [e9]
  exact kk H locs ls hP hS hl
theorem z_min (hx : z_ok C cc own sd) {a b : Int} {A : Option α} {index : Nat} (w1 : Cond.methodLink own index Lib.Math.min.name ∈ z_ws) (w2 : Cond.static Lib.Math.min.name ∈ z_ws) (w3 : Cond.initialized "java/lang/Math" ∈ z_ws) (w4 : Cond.code Lib.Math.min.name Lib.Math.min.code 2 (some .int) ∈ z_ws) (hR : 1 ≤ (z_R C).frames ∧ 21 ≤ (z_R C).locals) (hsum : (st.map fun v => v.category).sum ≤ 8) (hd : decode cc pc = .ok (.invokestatic index, 3)) (h : (if zr a ∧ zr b then A else none) = some r) (kk : A = some r → z_W C σ (pc + 3) lv (.int (zi (if b < a then b else a)) :: st)) : z_W C σ pc lv (.int (zi b) :: .int (zi a) :: st) := by
  obtain ⟨⟨ha, hb⟩, h⟩ := z_gd h
  have kk := kk h
  obtain ⟨p, l, e, R, s, m, args, below, meth, c, Q, cells, slots, A, H0, nL, g⟩ := C
  intro H locs ls hP hS hl
  obtain ⟨h1, h2, h3, h4, h5, h6, h7, h8, h9, h10, h11, h12⟩ := hx
  refine va_mmin h1 h2 (by rw [h3, hl.1]) h4 (h5 _ w1) (h5 _ w2) (h5 _ w3) (h5 _ w4) hR.1 (by have : 21 ≤ R.locals := hR.2; omega) h10 h11 hd ?_
  have e9 : (if zi b < zi a then zi b else zi a) = zi (if b < a then b else a) := by
    by_cases h9 : b < a
    · rw [if_pos h9, if_pos ((zi_lt hb ha).mpr h9)]
    · rw [if_neg h9, if_neg (fun h8 => h9 ((zi_lt hb ha).mp h8))]
  rw [e9]
  exact kk H locs ls hP hS hl
theorem z_abs (hx : z_ok C cc own sd) {a : Int} {A : Option α} {index : Nat} (w1 : Cond.methodLink own index Lib.Math.abs.name ∈ z_ws) (w2 : Cond.static Lib.Math.abs.name ∈ z_ws) (w3 : Cond.initialized "java/lang/Math" ∈ z_ws) (w4 : Cond.code Lib.Math.abs.name Lib.Math.abs.code 1 (some .int) ∈ z_ws) (hR : 1 ≤ (z_R C).frames ∧ 21 ≤ (z_R C).locals) (hsum : (st.map fun v => v.category).sum ≤ 8) (hd : decode cc pc = .ok (.invokestatic index, 3)) (h : (if zr a then A else none) = some r) (kk : A = some r → z_W C σ (pc + 3) lv (.int (zi (if 0 ≤ a then a else 0 - a)) :: st)) : z_W C σ pc lv (.int (zi a) :: st) := by
  obtain ⟨ha, h⟩ := z_gd h
  have kk := kk h
  obtain ⟨p, l, e, R, s, m, args, below, meth, c, Q, cells, slots, A, H0, nL, g⟩ := C
  intro H locs ls hP hS hl
  obtain ⟨h1, h2, h3, h4, h5, h6, h7, h8, h9, h10, h11, h12⟩ := hx
  refine va_mabs h1 h2 (by rw [h3, hl.1]) h4 (h5 _ w1) (h5 _ w2) (h5 _ w3) (h5 _ w4) hR.1 (by have : 21 ≤ R.locals := hR.2; omega) h10 h11 hd ?_
  have e0 : (0 : Int32) ≤ zi a ↔ 0 ≤ a := zi_le zr_0 ha
  have e9 : (if 0 ≤ zi a then zi a else 0 - zi a) = zi (if 0 ≤ a then a else 0 - a) := by
    by_cases h9 : 0 ≤ a
    · rw [if_pos h9, if_pos (e0.mpr h9)]
    · rw [if_neg h9, if_neg (fun h8 => h9 (e0.mp h8))]
      exact zi_sub 0 a
  rw [e9]
  exact kk H locs ls hP hS hl
theorem z_cpy_row (σ : zS) (k1 : Nat) (i1 : Int) (k2 : Nat) (i2 n : Int) : z_cpy σ k1 i1 k2 i2 n k2 = fun b => if i2 ≤ b ∧ b < i2 + n then σ k1 (i1 + (b - i2)) else σ k2 b := by
  funext b; simp [z_cpy]
theorem z_cpy_ne (σ : zS) (k1 : Nat) (i1 : Int) (k2 : Nat) (i2 n : Int) (a : Nat) (h : a ≠ k2) : z_cpy σ k1 i1 k2 i2 n a = σ a := by
  funext b; simp [z_cpy, h]
theorem z_ar_cpy {f g : Int → Int} {a b n : Int} (ha : 0 ≤ a ∧ a < 2147483648) (hb : 0 ≤ b ∧ b < 2147483648) (hn : 0 ≤ n ∧ n < 2147483648) : va_cpy (z_ar f) (z_ar g) (zi a).toNatClampNeg (zi b).toNatClampNeg (zi n).toNatClampNeg = z_ar (fun j => if b ≤ j ∧ j < b + n then f (a + (j - b)) else g j) := by
  funext j
  rw [zi_clamp ha.1 ha.2, zi_clamp hb.1 hb.2, zi_clamp hn.1 hn.2]
  simp only [va_cpy, z_ar]
  by_cases h : b.toNat ≤ j ∧ j < b.toNat + n.toNat
  · rw [if_pos h, if_pos (by omega)]
    exact congrArg (fun z => zi (f z)) (by omega)
  · rw [if_neg h, if_neg (by omega)]
theorem z_copyi (hx : z_ok C cc own sd) {k1 k2 N1 N2 : Nat} {n1 n2 : Int} (hk1 : k1 < z_N (z_g C)) (hk2 : k2 < z_N (z_g C)) (hm1 : z_mk (z_g C) k1 (σ k1) = .inl ((z_g C).2.2.1, N1, .inl (z_ar (σ k1)))) (hm2 : ∀ f, z_mk (z_g C) k2 f = .inl ((z_g C).2.2.1, N2, .inl (z_ar f))) (hN1 : (N1 : Int) = n1) (hN2 : (N2 : Int) = n2) (hb1 : n1 ≤ 2147483647) (hb2 : n2 ≤ 2147483647) {a b n : Int} {K : zS → Option α} {index : Nat} (w1 : Cond.methodLink own index arraycopyName ∈ z_ws) (w2 : Cond.native arraycopyName ∈ z_ws) (w3 : Cond.static arraycopyName ∈ z_ws) (w4 : Cond.initialized "java/lang/System" ∈ z_ws) (hR : 1 ≤ (z_R C).frames ∧ 8 + (nativeFrameWords "java/lang/System" "arraycopy" 5 + 11) ≤ (z_R C).locals) (hsum : (st.map fun v => v.category).sum ≤ 8)
    (hd : decode cc pc = .ok (.invokestatic index, 3)) (h : (if 0 ≤ a ∧ 0 ≤ b ∧ 0 ≤ n ∧ a + n ≤ n1 ∧ b + n ≤ n2 then z_copy σ k1 a k2 b n K else none) = some r) (kk : ∀ σ1, K σ1 = some r → z_W C σ1 (pc + 3) lv st) : z_W C σ pc lv (.int (zi n) :: .int (zi b) :: .ref (z_ad (z_g C) k2) :: .int (zi a) :: .ref (z_ad (z_g C) k1) :: st) := by
  obtain ⟨⟨a0, b0, n0, ha, hb⟩, h⟩ := z_gd h
  have kk := kk _ h
  obtain ⟨p, l, e, R, s, m, args, below, meth, c, Q, cells, slots, A, H0, nL, g⟩ := C
  intro H locs ls hP hS hl
  have he1 := z_wd_get (mk := z_mk g) (ad := g.2.1) (σ := σ) hk1
  have he2 := z_wd_get (mk := z_mk g) (ad := g.2.1) (σ := σ) hk2
  rw [hm1] at he1
  rw [hm2] at he2
  obtain ⟨h1, h2, h3, h4, h5, h6, h7, h8, h9, h10, h11, h12⟩ := hx
  have hra : zr a := ⟨by omega, by omega⟩
  have hrb : zr b := ⟨by omega, by omega⟩
  have hrn : zr n := ⟨by omega, by omega⟩
  refine va_copyi h1 h2 (by rw [h3, hl.1]) h4 (h5 _ w1) (h5 _ w2) (h5 _ w3) (h5 _ w4) h6 hP (h7 σ) hS k1 k2 0 0 (ty := .int) he1 he2 rfl rfl rfl (by rw [zi_neg_iff hra]; omega) (by rw [zi_neg_iff hrb]; omega) (by rw [zi_neg_iff hrn]; omega) (by rw [zi_clamp a0 (by omega), zi_clamp n0 (by omega)]; omega) (by rw [zi_clamp b0 (by omega), zi_clamp n0 (by omega)]; omega) (fun _ _ => rfl) hR.1 (by have h9 : 8 + (nativeFrameWords "java/lang/System" "arraycopy" 5 + 11) ≤ R.locals := hR.2; omega) hd (fun H1 locs1 hP1 hD1 hS1 => ?_)
  refine kk H1 locs1 ls ?_ hS1 hl
  rw [z_ar_cpy ⟨a0, by omega⟩ ⟨b0, by omega⟩ ⟨n0, by omega⟩] at hP1
  have e1 := z_wd_set (mk := z_mk g) (N := z_N g) (ad := g.2.1) (σ := σ) (τ := z_cpy σ k1 a k2 b n) (k := k2) (e := .inl (g.2.2.1, N2, .inl (z_ar (fun j => if b ≤ j ∧ j < b + n then σ k1 (a + (j - b)) else σ k2 j)))) (by rw [z_cpy_row]; exact (hm2 _).symm) (fun a' ha' => z_cpy_ne σ k1 a k2 b n a' ha')
  show va_P g.2.2.2.2.2 vwCl (z_wd (z_mk g) (z_N g) g.2.1 (z_cpy σ k1 a k2 b n)) H1
  rw [← e1]
  exact hP1
theorem z_tswOut (hx : z_ok C cc own sd) {dflt lo hi : Int} {offs : Array Int} {len : Nat} {a : Int} {tgt : Nat} (hd : decode cc pc = .ok (.tableswitch dflt lo hi offs, len)) (hr : zr a) (h : a < lo ∨ hi < a) (ht : (pc : Int) + dflt = (tgt : Int)) (kk : z_W C σ tgt lv st) : z_W C σ pc lv (.int (zi a) :: st) := by
  obtain ⟨p, l, e, R, s, m, args, below, meth, c, Q, cells, slots, A, H0, nL, g⟩ := C
  intro H locs ls hP hS hl
  exact lv_tableOut hx.1 hx.2.1 hd (by rw [zi_int hr]; exact h) ht (kk H locs ls hP hS hl)
theorem z_tswIn (hx : z_ok C cc own sd) {dflt lo hi : Int} {offs : Array Int} {len : Nat} {a : Int} {off : Int} {tgt : Nat} (hd : decode cc pc = .ok (.tableswitch dflt lo hi offs, len)) (hr : zr a) (h1 : ¬ a < lo) (h2 : ¬ hi < a) (ho : offs[(a - lo).toNat]? = some off) (ht : (pc : Int) + off = (tgt : Int)) (kk : z_W C σ tgt lv st) : z_W C σ pc lv (.int (zi a) :: st) := by
  obtain ⟨p, l, e, R, s, m, args, below, meth, c, Q, cells, slots, A, H0, nL, g⟩ := C
  intro H locs ls hP hS hl
  exact lv_tableIn hx.1 hx.2.1 hd (by rw [zi_int hr]; exact h1) (by rw [zi_int hr]; exact h2) (by rw [zi_int hr]; exact ho) ht (kk H locs ls hP hS hl)
theorem z_lookup (hx : z_ok C cc own sd) {dflt : Int} {ps : Array (Int × Int)} {len : Nat} {a : Int} {off : Int} {tgt : Nat} (hd : decode cc pc = .ok (.lookupswitch dflt ps, len)) (hp : (ps.toList.zip (ps.toList.drop 1)).all (fun (a, next) => a.1 < next.1) = true) (hr : zr a) (ho : Op.lookupswitch.offset ps.toList dflt a = off) (ht : (pc : Int) + off = (tgt : Int)) (kk : z_W C σ tgt lv st) : z_W C σ pc lv (.int (zi a) :: st) := by
  obtain ⟨p, l, e, R, s, m, args, below, meth, c, Q, cells, slots, A, H0, nL, g⟩ := C
  intro H locs ls hP hS hl
  exact lv_lookup hx.1 hx.2.1 hd hp (by rw [zi_int hr]; exact ho) ht (kk H locs ls hP hS hl)
end
end
section
/-! the words of the tables that the walks need -/
theorem wf_X2_19 : Cond.fieldLink RX2 19 RX2 "kinds" "[I" ∈ z_ws := z_ws_t 33 (by decide +kernel) (by decide +kernel)
theorem wf_X2_22 : Cond.fieldLink RX2 22 RX2 "firsts" "[I" ∈ z_ws := z_ws_t 36 (by decide +kernel) (by decide +kernel)
theorem wf_X2_25 : Cond.fieldLink RX2 25 RX2 "ends" "[I" ∈ z_ws := z_ws_t 39 (by decide +kernel) (by decide +kernel)
theorem wf_X2_28 : Cond.fieldLink RX2 28 RX2 "doubts" "[I" ∈ z_ws := z_ws_t 42 (by decide +kernel) (by decide +kernel)
theorem wf_X2_31 : Cond.fieldLink RX2 31 RX2 "held" "[Z" ∈ z_ws := z_ws_t 44 (by decide +kernel) (by decide +kernel)
theorem wf_X2_15 : Cond.fieldLink RX2 15 RX2 "frames" "I" ∈ z_ws := z_ws_t 30 (by decide +kernel) (by decide +kernel)
theorem wf_X2_9 : Cond.fieldLink RX2 9 RX2 "levels" "[I" ∈ z_ws := z_ws_t 28 (by decide +kernel) (by decide +kernel)
theorem wm_X2_44 : Cond.methodLink RX2 44 arraycopyName ∈ z_ws := z_ws_t 25 (by decide +kernel) (by decide +kernel)
theorem wna_ac : Cond.native arraycopyName ∈ z_ws := z_ws_t 27 (by decide +kernel) (by decide +kernel)
theorem wst_ac : Cond.static arraycopyName ∈ z_ws := z_ws_t 26 (by decide +kernel) (by decide +kernel)
theorem wi_J10 : Cond.initialized "java/lang/System" ∈ z_ws := z_ws_t 3 (by decide +kernel) (by decide +kernel)
theorem wf_X2_35 : Cond.fieldLink RX2 35 RX2 "marks" "I" ∈ z_ws := z_ws_t 47 (by decide +kernel) (by decide +kernel)
theorem wm_X2_54 : Cond.methodLink RX2 54 yX2_copyMark ∈ z_ws := z_ws_t 219 (by decide +kernel) (by decide +kernel)
theorem wi_X2 : Cond.initialized RX2 ∈ z_ws := z_ws_t 2 (by decide +kernel) (by decide +kernel)
theorem wc_X2_copyMark : Cond.code yX2_copyMark cX2_copyMark 4 none ∈ z_ws := z_ws_t 222 (by decide +kernel) (by decide +kernel)
theorem win_X2_copyMark : Cond.instanceMethod yX2_copyMark ∈ z_ws := z_ws_t 220 (by decide +kernel) (by decide +kernel)
theorem wse_X2_copyMark : Cond.selects RX2 yX2_copyMark yX2_copyMark ∈ z_ws := z_ws_t 221 (by decide +kernel) (by decide +kernel)
theorem cv_X2_54 : z_cv RX2 54 yX2_copyMark cX2_copyMark 4 none 3 := z_cv_of wm_X2_54 win_X2_copyMark wse_X2_copyMark wi_X2 wc_X2_copyMark (by decide +kernel)
theorem wm_X2_50 : Cond.methodLink RX2 50 yX2_copySound ∈ z_ws := z_ws_t 215 (by decide +kernel) (by decide +kernel)
theorem wc_X2_copySound : Cond.code yX2_copySound cX2_copySound 3 none ∈ z_ws := z_ws_t 218 (by decide +kernel) (by decide +kernel)
theorem win_X2_copySound : Cond.instanceMethod yX2_copySound ∈ z_ws := z_ws_t 216 (by decide +kernel) (by decide +kernel)
theorem wse_X2_copySound : Cond.selects RX2 yX2_copySound yX2_copySound ∈ z_ws := z_ws_t 217 (by decide +kernel) (by decide +kernel)
theorem cv_X2_50 : z_cv RX2 50 yX2_copySound cX2_copySound 3 none 1 := z_cv_of wm_X2_50 win_X2_copySound wse_X2_copySound wi_X2 wc_X2_copySound (by decide +kernel)
theorem wf_X2_38 : Cond.fieldLink RX2 38 RX2 "settings" "[I" ∈ z_ws := z_ws_t 51 (by decide +kernel) (by decide +kernel)
theorem wm_X2_58 : Cond.methodLink RX2 58 yX2_hasMark ∈ z_ws := z_ws_t 256 (by decide +kernel) (by decide +kernel)
theorem wc_X2_hasMark : Cond.code yX2_hasMark cX2_hasMark 2 (some .boolean) ∈ z_ws := z_ws_t 251 (by decide +kernel) (by decide +kernel)
theorem win_X2_hasMark : Cond.instanceMethod yX2_hasMark ∈ z_ws := z_ws_t 249 (by decide +kernel) (by decide +kernel)
theorem wse_X2_hasMark : Cond.selects RX2 yX2_hasMark yX2_hasMark ∈ z_ws := z_ws_t 250 (by decide +kernel) (by decide +kernel)
theorem cv_X2_58 : z_cv RX2 58 yX2_hasMark cX2_hasMark 2 (some .boolean) 1 := z_cv_of wm_X2_58 win_X2_hasMark wse_X2_hasMark wi_X2 wc_X2_hasMark (by decide +kernel)
theorem wm_X2_65 : Cond.methodLink RX2 65 yX2_levelAt ∈ z_ws := z_ws_t 306 (by decide +kernel) (by decide +kernel)
theorem wc_X2_levelAt : Cond.code yX2_levelAt cX2_levelAt 2 (some .int) ∈ z_ws := z_ws_t 309 (by decide +kernel) (by decide +kernel)
theorem win_X2_levelAt : Cond.instanceMethod yX2_levelAt ∈ z_ws := z_ws_t 307 (by decide +kernel) (by decide +kernel)
theorem wse_X2_levelAt : Cond.selects RX2 yX2_levelAt yX2_levelAt ∈ z_ws := z_ws_t 308 (by decide +kernel) (by decide +kernel)
theorem cv_X2_65 : z_cv RX2 65 yX2_levelAt cX2_levelAt 2 (some .int) 1 := z_cv_of wm_X2_65 win_X2_levelAt wse_X2_levelAt wi_X2 wc_X2_levelAt (by decide +kernel)
theorem wm_X2_62 : Cond.methodLink RX2 62 yX2_isQuiet ∈ z_ws := z_ws_t 302 (by decide +kernel) (by decide +kernel)
theorem wc_X2_isQuiet : Cond.code yX2_isQuiet cX2_isQuiet 3 (some .boolean) ∈ z_ws := z_ws_t 305 (by decide +kernel) (by decide +kernel)
theorem win_X2_isQuiet : Cond.instanceMethod yX2_isQuiet ∈ z_ws := z_ws_t 303 (by decide +kernel) (by decide +kernel)
theorem wse_X2_isQuiet : Cond.selects RX2 yX2_isQuiet yX2_isQuiet ∈ z_ws := z_ws_t 304 (by decide +kernel) (by decide +kernel)
theorem cv_X2_62 : z_cv RX2 62 yX2_isQuiet cX2_isQuiet 3 (some .boolean) 1 := z_cv_of wm_X2_62 win_X2_isQuiet wse_X2_isQuiet wi_X2 wc_X2_isQuiet (by decide +kernel)
theorem wf_X0_28 : Cond.fieldLink RX0 28 RX0 "count" "I" ∈ z_ws := z_ws_t 130 (by decide +kernel) (by decide +kernel)
theorem wf_X0_15 : Cond.fieldLink RX0 15 RX0 "ends" "[I" ∈ z_ws := z_ws_t 124 (by decide +kernel) (by decide +kernel)
theorem wf_X0_9 : Cond.fieldLink RX0 9 RX0 "begins" "[I" ∈ z_ws := z_ws_t 122 (by decide +kernel) (by decide +kernel)
theorem wf_X0_18 : Cond.fieldLink RX0 18 RX0 "pauses" "[I" ∈ z_ws := z_ws_t 126 (by decide +kernel) (by decide +kernel)
theorem wf_X0_21 : Cond.fieldLink RX0 21 RX0 "rough" "[Z" ∈ z_ws := z_ws_t 128 (by decide +kernel) (by decide +kernel)
theorem wf_X0_25 : Cond.fieldLink RX0 25 RX0 "markNumbers" "[I" ∈ z_ws := z_ws_t 129 (by decide +kernel) (by decide +kernel)
theorem wf_X0_54 : Cond.fieldLink RX0 54 RX2 "ends" "[I" ∈ z_ws := z_ws_t 40 (by decide +kernel) (by decide +kernel)
theorem wm_X0_55 : Cond.methodLink RX0 55 yX0_endOfLastCut ∈ z_ws := z_ws_t 287 (by decide +kernel) (by decide +kernel)
theorem wi_X0 : Cond.initialized RX0 ∈ z_ws := z_ws_t 6 (by decide +kernel) (by decide +kernel)
theorem wc_X0_endOfLastCut : Cond.code yX0_endOfLastCut cX0_endOfLastCut 1 (some .int) ∈ z_ws := z_ws_t 290 (by decide +kernel) (by decide +kernel)
theorem win_X0_endOfLastCut : Cond.instanceMethod yX0_endOfLastCut ∈ z_ws := z_ws_t 288 (by decide +kernel) (by decide +kernel)
theorem wse_X0_endOfLastCut : Cond.selects RX0 yX0_endOfLastCut yX0_endOfLastCut ∈ z_ws := z_ws_t 289 (by decide +kernel) (by decide +kernel)
theorem cv_X0_55 : z_cv RX0 55 yX0_endOfLastCut cX0_endOfLastCut 1 (some .int) 0 := z_cv_of wm_X0_55 win_X0_endOfLastCut wse_X0_endOfLastCut wi_X0 wc_X0_endOfLastCut (by decide +kernel)
theorem wm_X0_59 : Cond.methodLink RX0 59 yX2_endOfMarkBefore ∈ z_ws := z_ws_t 291 (by decide +kernel) (by decide +kernel)
theorem wc_X2_endOfMarkBefore : Cond.code yX2_endOfMarkBefore cX2_endOfMarkBefore 2 (some .int) ∈ z_ws := z_ws_t 294 (by decide +kernel) (by decide +kernel)
theorem win_X2_endOfMarkBefore : Cond.instanceMethod yX2_endOfMarkBefore ∈ z_ws := z_ws_t 292 (by decide +kernel) (by decide +kernel)
theorem wse_X2_endOfMarkBefore : Cond.selects RX2 yX2_endOfMarkBefore yX2_endOfMarkBefore ∈ z_ws := z_ws_t 293 (by decide +kernel) (by decide +kernel)
theorem cv_X0_59 : z_cv RX0 59 yX2_endOfMarkBefore cX2_endOfMarkBefore 2 (some .int) 1 := z_cv_of wm_X0_59 win_X2_endOfMarkBefore wse_X2_endOfMarkBefore wi_X2 wc_X2_endOfMarkBefore (by decide +kernel)
theorem wm_X0_63 : Cond.methodLink RX0 63 Lib.Math.max.name ∈ z_ws := z_ws_t 295 (by decide +kernel) (by decide +kernel)
theorem wst_J9_max : Cond.static Lib.Math.max.name ∈ z_ws := z_ws_t 296 (by decide +kernel) (by decide +kernel)
theorem wi_J9 : Cond.initialized "java/lang/Math" ∈ z_ws := z_ws_t 8 (by decide +kernel) (by decide +kernel)
theorem wc_J9_max : Cond.code Lib.Math.max.name Lib.Math.max.code 2 (some .int) ∈ z_ws := z_ws_t 297 (by decide +kernel) (by decide +kernel)
theorem wf_X0_69 : Cond.fieldLink RX0 69 RX2 "firsts" "[I" ∈ z_ws := z_ws_t 37 (by decide +kernel) (by decide +kernel)
theorem wm_X0_72 : Cond.methodLink RX0 72 yX2_nearestQuietSeam ∈ z_ws := z_ws_t 298 (by decide +kernel) (by decide +kernel)
theorem wc_X2_nearestQuietSeam : Cond.code yX2_nearestQuietSeam cX2_nearestQuietSeam 8 (some .int) ∈ z_ws := z_ws_t 301 (by decide +kernel) (by decide +kernel)
theorem win_X2_nearestQuietSeam : Cond.instanceMethod yX2_nearestQuietSeam ∈ z_ws := z_ws_t 299 (by decide +kernel) (by decide +kernel)
theorem wse_X2_nearestQuietSeam : Cond.selects RX2 yX2_nearestQuietSeam yX2_nearestQuietSeam ∈ z_ws := z_ws_t 300 (by decide +kernel) (by decide +kernel)
theorem cv_X0_72 : z_cv RX0 72 yX2_nearestQuietSeam cX2_nearestQuietSeam 8 (some .int) 4 := z_cv_of wm_X0_72 win_X2_nearestQuietSeam wse_X2_nearestQuietSeam wi_X2 wc_X2_nearestQuietSeam (by decide +kernel)
theorem wm_X0_76 : Cond.methodLink RX0 76 yX2_firstOfMarkAfter ∈ z_ws := z_ws_t 310 (by decide +kernel) (by decide +kernel)
theorem wc_X2_firstOfMarkAfter : Cond.code yX2_firstOfMarkAfter cX2_firstOfMarkAfter 2 (some .int) ∈ z_ws := z_ws_t 313 (by decide +kernel) (by decide +kernel)
theorem win_X2_firstOfMarkAfter : Cond.instanceMethod yX2_firstOfMarkAfter ∈ z_ws := z_ws_t 311 (by decide +kernel) (by decide +kernel)
theorem wse_X2_firstOfMarkAfter : Cond.selects RX2 yX2_firstOfMarkAfter yX2_firstOfMarkAfter ∈ z_ws := z_ws_t 312 (by decide +kernel) (by decide +kernel)
theorem cv_X0_76 : z_cv RX0 76 yX2_firstOfMarkAfter cX2_firstOfMarkAfter 2 (some .int) 1 := z_cv_of wm_X0_76 win_X2_firstOfMarkAfter wse_X2_firstOfMarkAfter wi_X2 wc_X2_firstOfMarkAfter (by decide +kernel)
theorem wf_X0_79 : Cond.fieldLink RX0 79 RX2 "settings" "[I" ∈ z_ws := z_ws_t 52 (by decide +kernel) (by decide +kernel)
theorem wm_X0_82 : Cond.methodLink RX0 82 Lib.Math.min.name ∈ z_ws := z_ws_t 314 (by decide +kernel) (by decide +kernel)
theorem wst_J9_min : Cond.static Lib.Math.min.name ∈ z_ws := z_ws_t 315 (by decide +kernel) (by decide +kernel)
theorem wc_J9_min : Cond.code Lib.Math.min.name Lib.Math.min.code 2 (some .int) ∈ z_ws := z_ws_t 316 (by decide +kernel) (by decide +kernel)
theorem wm_X0_85 : Cond.methodLink RX0 85 yX0_addCut ∈ z_ws := z_ws_t 317 (by decide +kernel) (by decide +kernel)
theorem wc_X0_addCut : Cond.code yX0_addCut cX0_addCut 6 none ∈ z_ws := z_ws_t 320 (by decide +kernel) (by decide +kernel)
theorem win_X0_addCut : Cond.instanceMethod yX0_addCut ∈ z_ws := z_ws_t 318 (by decide +kernel) (by decide +kernel)
theorem wse_X0_addCut : Cond.selects RX0 yX0_addCut yX0_addCut ∈ z_ws := z_ws_t 319 (by decide +kernel) (by decide +kernel)
theorem cv_X0_85 : z_cv RX0 85 yX0_addCut cX0_addCut 6 none 5 := z_cv_of wm_X0_85 win_X0_addCut wse_X0_addCut wi_X0 wc_X0_addCut (by decide +kernel)
theorem wf_X0_32 : Cond.fieldLink RX0 32 RX2 "marks" "I" ∈ z_ws := z_ws_t 48 (by decide +kernel) (by decide +kernel)
theorem wf_X0_37 : Cond.fieldLink RX0 37 RX2 "held" "[Z" ∈ z_ws := z_ws_t 45 (by decide +kernel) (by decide +kernel)
theorem wf_X0_40 : Cond.fieldLink RX0 40 RX2 "kinds" "[I" ∈ z_ws := z_ws_t 34 (by decide +kernel) (by decide +kernel)
theorem wf_X0_43 : Cond.fieldLink RX0 43 RX2 "doubts" "[I" ∈ z_ws := z_ws_t 43 (by decide +kernel) (by decide +kernel)
theorem wm_X0_46 : Cond.methodLink RX0 46 yX0_addFillerCut ∈ z_ws := z_ws_t 283 (by decide +kernel) (by decide +kernel)
theorem wc_X0_addFillerCut : Cond.code yX0_addFillerCut cX0_addFillerCut 13 none ∈ z_ws := z_ws_t 286 (by decide +kernel) (by decide +kernel)
theorem win_X0_addFillerCut : Cond.instanceMethod yX0_addFillerCut ∈ z_ws := z_ws_t 284 (by decide +kernel) (by decide +kernel)
theorem wse_X0_addFillerCut : Cond.selects RX0 yX0_addFillerCut yX0_addFillerCut ∈ z_ws := z_ws_t 285 (by decide +kernel) (by decide +kernel)
theorem cv_X0_46 : z_cv RX0 46 yX0_addFillerCut cX0_addFillerCut 13 none 3 := z_cv_of wm_X0_46 win_X0_addFillerCut wse_X0_addFillerCut wi_X0 wc_X0_addFillerCut (by decide +kernel)
theorem wm_X0_50 : Cond.methodLink RX0 50 yX0_addBreathCut ∈ z_ws := z_ws_t 321 (by decide +kernel) (by decide +kernel)
theorem wc_X0_addBreathCut : Cond.code yX0_addBreathCut cX0_addBreathCut 6 none ∈ z_ws := z_ws_t 324 (by decide +kernel) (by decide +kernel)
theorem win_X0_addBreathCut : Cond.instanceMethod yX0_addBreathCut ∈ z_ws := z_ws_t 322 (by decide +kernel) (by decide +kernel)
theorem wse_X0_addBreathCut : Cond.selects RX0 yX0_addBreathCut yX0_addBreathCut ∈ z_ws := z_ws_t 323 (by decide +kernel) (by decide +kernel)
theorem cv_X0_50 : z_cv RX0 50 yX0_addBreathCut cX0_addBreathCut 6 none 2 := z_cv_of wm_X0_50 win_X0_addBreathCut wse_X0_addBreathCut wi_X0 wc_X0_addBreathCut (by decide +kernel)
theorem wf_X1_11 : Cond.fieldLink RX1 11 RX1 "states" "[LSpeechCleaner$Recording;" ∈ z_ws := z_ws_t 84 (by decide +kernel) (by decide +kernel)
theorem wf_X1_17 : Cond.fieldLink RX1 17 RX1 "count" "I" ∈ z_ws := z_ws_t 85 (by decide +kernel) (by decide +kernel)
theorem wm_X1_22 : Cond.methodLink RX1 22 yX1_dropOldest ∈ z_ws := z_ws_t 207 (by decide +kernel) (by decide +kernel)
theorem wi_X1 : Cond.initialized RX1 ∈ z_ws := z_ws_t 4 (by decide +kernel) (by decide +kernel)
theorem wc_X1_dropOldest : Cond.code yX1_dropOldest cX1_dropOldest 3 none ∈ z_ws := z_ws_t 210 (by decide +kernel) (by decide +kernel)
theorem win_X1_dropOldest : Cond.instanceMethod yX1_dropOldest ∈ z_ws := z_ws_t 208 (by decide +kernel) (by decide +kernel)
theorem wse_X1_dropOldest : Cond.selects RX1 yX1_dropOldest yX1_dropOldest ∈ z_ws := z_ws_t 209 (by decide +kernel) (by decide +kernel)
theorem cv_X1_22 : z_cv RX1 22 yX1_dropOldest cX1_dropOldest 3 none 0 := z_cv_of wm_X1_22 win_X1_dropOldest wse_X1_dropOldest wi_X1 wc_X1_dropOldest (by decide +kernel)
theorem wm_X1_25 : Cond.methodLink RX1 25 yX2_copyAll ∈ z_ws := z_ws_t 211 (by decide +kernel) (by decide +kernel)
theorem wc_X2_copyAll : Cond.code yX2_copyAll cX2_copyAll 2 none ∈ z_ws := z_ws_t 214 (by decide +kernel) (by decide +kernel)
theorem win_X2_copyAll : Cond.instanceMethod yX2_copyAll ∈ z_ws := z_ws_t 212 (by decide +kernel) (by decide +kernel)
theorem wse_X2_copyAll : Cond.selects RX2 yX2_copyAll yX2_copyAll ∈ z_ws := z_ws_t 213 (by decide +kernel) (by decide +kernel)
theorem cv_X1_25 : z_cv RX1 25 yX2_copyAll cX2_copyAll 2 none 1 := z_cv_of wm_X1_25 win_X2_copyAll wse_X2_copyAll wi_X2 wc_X2_copyAll (by decide +kernel)
theorem wf_X3_25 : Cond.fieldLink RX3 25 RX3 "roomFrames" "I" ∈ z_ws := z_ws_t 159 (by decide +kernel) (by decide +kernel)
theorem wf_X3_22 : Cond.fieldLink RX3 22 RX3 "room" "[I" ∈ z_ws := z_ws_t 158 (by decide +kernel) (by decide +kernel)
theorem wf_X3_31 : Cond.fieldLink RX3 31 RX3 "noisy" "[Z" ∈ z_ws := z_ws_t 161 (by decide +kernel) (by decide +kernel)
theorem wf_X3_28 : Cond.fieldLink RX3 28 RX3 "roomPlace" "I" ∈ z_ws := z_ws_t 160 (by decide +kernel) (by decide +kernel)
theorem wf_X3_64 : Cond.fieldLink RX3 64 RX2 "marks" "I" ∈ z_ws := z_ws_t 49 (by decide +kernel) (by decide +kernel)
theorem wf_X3_67 : Cond.fieldLink RX3 67 RX2 "firsts" "[I" ∈ z_ws := z_ws_t 38 (by decide +kernel) (by decide +kernel)
theorem wf_X3_70 : Cond.fieldLink RX3 70 RX2 "ends" "[I" ∈ z_ws := z_ws_t 41 (by decide +kernel) (by decide +kernel)
theorem wf_X3_71 : Cond.fieldLink RX3 71 RX2 "kinds" "[I" ∈ z_ws := z_ws_t 35 (by decide +kernel) (by decide +kernel)
theorem wm_X3_74 : Cond.methodLink RX3 74 yX3_gatherFrame ∈ z_ws := z_ws_t 373 (by decide +kernel) (by decide +kernel)
theorem wi_X3 : Cond.initialized RX3 ∈ z_ws := z_ws_t 7 (by decide +kernel) (by decide +kernel)
theorem wc_X3_gatherFrame : Cond.code yX3_gatherFrame cX3_gatherFrame 3 none ∈ z_ws := z_ws_t 376 (by decide +kernel) (by decide +kernel)
theorem win_X3_gatherFrame : Cond.instanceMethod yX3_gatherFrame ∈ z_ws := z_ws_t 374 (by decide +kernel) (by decide +kernel)
theorem wse_X3_gatherFrame : Cond.selects RX3 yX3_gatherFrame yX3_gatherFrame ∈ z_ws := z_ws_t 375 (by decide +kernel) (by decide +kernel)
theorem cv_X3_74 : z_cv RX3 74 yX3_gatherFrame cX3_gatherFrame 3 none 2 := z_cv_of wm_X3_74 win_X3_gatherFrame wse_X3_gatherFrame wi_X3 wc_X3_gatherFrame (by decide +kernel)
theorem wf_X3_18 : Cond.fieldLink RX3 18 RX3 "count" "I" ∈ z_ws := z_ws_t 156 (by decide +kernel) (by decide +kernel)
theorem wf_X3_9 : Cond.fieldLink RX3 9 RX3 "sources" "[I" ∈ z_ws := z_ws_t 152 (by decide +kernel) (by decide +kernel)
theorem wf_X3_15 : Cond.fieldLink RX3 15 RX3 "levels" "[I" ∈ z_ws := z_ws_t 154 (by decide +kernel) (by decide +kernel)
theorem wm_X3_78 : Cond.methodLink RX3 78 yX2_hasFrame ∈ z_ws := z_ws_t 381 (by decide +kernel) (by decide +kernel)
theorem wc_X2_hasFrame : Cond.code yX2_hasFrame cX2_hasFrame 2 (some .boolean) ∈ z_ws := z_ws_t 384 (by decide +kernel) (by decide +kernel)
theorem win_X2_hasFrame : Cond.instanceMethod yX2_hasFrame ∈ z_ws := z_ws_t 382 (by decide +kernel) (by decide +kernel)
theorem wse_X2_hasFrame : Cond.selects RX2 yX2_hasFrame yX2_hasFrame ∈ z_ws := z_ws_t 383 (by decide +kernel) (by decide +kernel)
theorem cv_X3_78 : z_cv RX3 78 yX2_hasFrame cX2_hasFrame 2 (some .boolean) 1 := z_cv_of wm_X3_78 win_X2_hasFrame wse_X2_hasFrame wi_X2 wc_X2_hasFrame (by decide +kernel)
theorem wm_X3_82 : Cond.methodLink RX3 82 yX2_levelAt ∈ z_ws := z_ws_t 385 (by decide +kernel) (by decide +kernel)
theorem cv_X3_82 : z_cv RX3 82 yX2_levelAt cX2_levelAt 2 (some .int) 1 := z_cv_of wm_X3_82 win_X2_levelAt wse_X2_levelAt wi_X2 wc_X2_levelAt (by decide +kernel)
theorem wm_X3_86 : Cond.methodLink RX3 86 yX3_add ∈ z_ws := z_ws_t 386 (by decide +kernel) (by decide +kernel)
theorem wc_X3_add : Cond.code yX3_add cX3_add 3 none ∈ z_ws := z_ws_t 389 (by decide +kernel) (by decide +kernel)
theorem win_X3_add : Cond.instanceMethod yX3_add ∈ z_ws := z_ws_t 387 (by decide +kernel) (by decide +kernel)
theorem wse_X3_add : Cond.selects RX3 yX3_add yX3_add ∈ z_ws := z_ws_t 388 (by decide +kernel) (by decide +kernel)
theorem cv_X3_86 : z_cv RX3 86 yX3_add cX3_add 3 none 2 := z_cv_of wm_X3_86 win_X3_add wse_X3_add wi_X3 wc_X3_add (by decide +kernel)
theorem wm_X3_89 : Cond.methodLink RX3 89 yX3_nextRoomFrame ∈ z_ws := z_ws_t 394 (by decide +kernel) (by decide +kernel)
theorem wc_X3_nextRoomFrame : Cond.code yX3_nextRoomFrame cX3_nextRoomFrame 2 (some .int) ∈ z_ws := z_ws_t 397 (by decide +kernel) (by decide +kernel)
theorem win_X3_nextRoomFrame : Cond.instanceMethod yX3_nextRoomFrame ∈ z_ws := z_ws_t 395 (by decide +kernel) (by decide +kernel)
theorem wse_X3_nextRoomFrame : Cond.selects RX3 yX3_nextRoomFrame yX3_nextRoomFrame ∈ z_ws := z_ws_t 396 (by decide +kernel) (by decide +kernel)
theorem cv_X3_89 : z_cv RX3 89 yX3_nextRoomFrame cX3_nextRoomFrame 2 (some .int) 0 := z_cv_of wm_X3_89 win_X3_nextRoomFrame wse_X3_nextRoomFrame wi_X3 wc_X3_nextRoomFrame (by decide +kernel)
theorem wm_X3_35 : Cond.methodLink RX3 35 yX3_gatherRoomAndNoise ∈ z_ws := z_ws_t 369 (by decide +kernel) (by decide +kernel)
theorem wc_X3_gatherRoomAndNoise : Cond.code yX3_gatherRoomAndNoise cX3_gatherRoomAndNoise 4 none ∈ z_ws := z_ws_t 372 (by decide +kernel) (by decide +kernel)
theorem win_X3_gatherRoomAndNoise : Cond.instanceMethod yX3_gatherRoomAndNoise ∈ z_ws := z_ws_t 370 (by decide +kernel) (by decide +kernel)
theorem wse_X3_gatherRoomAndNoise : Cond.selects RX3 yX3_gatherRoomAndNoise yX3_gatherRoomAndNoise ∈ z_ws := z_ws_t 371 (by decide +kernel) (by decide +kernel)
theorem cv_X3_35 : z_cv RX3 35 yX3_gatherRoomAndNoise cX3_gatherRoomAndNoise 4 none 1 := z_cv_of wm_X3_35 win_X3_gatherRoomAndNoise wse_X3_gatherRoomAndNoise wi_X3 wc_X3_gatherRoomAndNoise (by decide +kernel)
theorem wf_X3_39 : Cond.fieldLink RX3 39 RX0 "count" "I" ∈ z_ws := z_ws_t 131 (by decide +kernel) (by decide +kernel)
theorem wf_X3_59 : Cond.fieldLink RX3 59 RX2 "frames" "I" ∈ z_ws := z_ws_t 31 (by decide +kernel) (by decide +kernel)
theorem wm_X3_45 : Cond.methodLink RX3 45 yX3_addRecorded ∈ z_ws := z_ws_t 377 (by decide +kernel) (by decide +kernel)
theorem wc_X3_addRecorded : Cond.code yX3_addRecorded cX3_addRecorded 6 none ∈ z_ws := z_ws_t 380 (by decide +kernel) (by decide +kernel)
theorem win_X3_addRecorded : Cond.instanceMethod yX3_addRecorded ∈ z_ws := z_ws_t 378 (by decide +kernel) (by decide +kernel)
theorem wse_X3_addRecorded : Cond.selects RX3 yX3_addRecorded yX3_addRecorded ∈ z_ws := z_ws_t 379 (by decide +kernel) (by decide +kernel)
theorem cv_X3_45 : z_cv RX3 45 yX3_addRecorded cX3_addRecorded 6 none 3 := z_cv_of wm_X3_45 win_X3_addRecorded wse_X3_addRecorded wi_X3 wc_X3_addRecorded (by decide +kernel)
theorem wf_X3_42 : Cond.fieldLink RX3 42 RX0 "begins" "[I" ∈ z_ws := z_ws_t 123 (by decide +kernel) (by decide +kernel)
theorem wf_X3_49 : Cond.fieldLink RX3 49 RX0 "pauses" "[I" ∈ z_ws := z_ws_t 127 (by decide +kernel) (by decide +kernel)
theorem wm_X3_52 : Cond.methodLink RX3 52 yX3_addPause ∈ z_ws := z_ws_t 390 (by decide +kernel) (by decide +kernel)
theorem wc_X3_addPause : Cond.code yX3_addPause cX3_addPause 5 none ∈ z_ws := z_ws_t 393 (by decide +kernel) (by decide +kernel)
theorem win_X3_addPause : Cond.instanceMethod yX3_addPause ∈ z_ws := z_ws_t 391 (by decide +kernel) (by decide +kernel)
theorem wse_X3_addPause : Cond.selects RX3 yX3_addPause yX3_addPause ∈ z_ws := z_ws_t 392 (by decide +kernel) (by decide +kernel)
theorem cv_X3_52 : z_cv RX3 52 yX3_addPause cX3_addPause 5 none 2 := z_cv_of wm_X3_52 win_X3_addPause wse_X3_addPause wi_X3 wc_X3_addPause (by decide +kernel)
theorem wf_X3_56 : Cond.fieldLink RX3 56 RX0 "ends" "[I" ∈ z_ws := z_ws_t 125 (by decide +kernel) (by decide +kernel)
theorem wm_X3_93 : Cond.methodLink RX3 93 Lib.Math.abs.name ∈ z_ws := z_ws_t 499 (by decide +kernel) (by decide +kernel)
theorem wst_J9_abs : Cond.static Lib.Math.abs.name ∈ z_ws := z_ws_t 500 (by decide +kernel) (by decide +kernel)
theorem wc_J9_abs : Cond.code Lib.Math.abs.name Lib.Math.abs.code 1 (some .int) ∈ z_ws := z_ws_t 501 (by decide +kernel) (by decide +kernel)
theorem wm_X3_98 : Cond.methodLink RX3 98 Lib.Math.max.name ∈ z_ws := z_ws_t 418 (by decide +kernel) (by decide +kernel)
theorem wf_X5_13 : Cond.fieldLink RX5 13 RX5 "characters" "I" ∈ z_ws := z_ws_t 178 (by decide +kernel) (by decide +kernel)
theorem wf_X5_9 : Cond.fieldLink RX5 9 RX5 "buffer" "[I" ∈ z_ws := z_ws_t 177 (by decide +kernel) (by decide +kernel)
theorem wf_X5_20 : Cond.fieldLink RX5 20 RX5 "recording" "LSpeechCleaner$Recording;" ∈ z_ws := z_ws_t 179 (by decide +kernel) (by decide +kernel)
theorem wf_X5_66 : Cond.fieldLink RX5 66 RX2 "frames" "I" ∈ z_ws := z_ws_t 32 (by decide +kernel) (by decide +kernel)
theorem wf_X5_27 : Cond.fieldLink RX5 27 RX5 "history" "LSpeechCleaner$History;" ∈ z_ws := z_ws_t 180 (by decide +kernel) (by decide +kernel)
theorem wm_X5_56 : Cond.methodLink RX5 56 yX1_keep ∈ z_ws := z_ws_t 203 (by decide +kernel) (by decide +kernel)
theorem wc_X1_keep : Cond.code yX1_keep cX1_keep 2 none ∈ z_ws := z_ws_t 206 (by decide +kernel) (by decide +kernel)
theorem win_X1_keep : Cond.instanceMethod yX1_keep ∈ z_ws := z_ws_t 204 (by decide +kernel) (by decide +kernel)
theorem wse_X1_keep : Cond.selects RX1 yX1_keep yX1_keep ∈ z_ws := z_ws_t 205 (by decide +kernel) (by decide +kernel)
theorem cv_X5_56 : z_cv RX5 56 yX1_keep cX1_keep 2 none 1 := z_cv_of wm_X5_56 win_X1_keep wse_X1_keep wi_X1 wc_X1_keep (by decide +kernel)
theorem wm_X5_69 : Cond.methodLink RX5 69 yX2_addFrame ∈ z_ws := z_ws_t 223 (by decide +kernel) (by decide +kernel)
theorem wc_X2_addFrame : Cond.code yX2_addFrame cX2_addFrame 2 none ∈ z_ws := z_ws_t 226 (by decide +kernel) (by decide +kernel)
theorem win_X2_addFrame : Cond.instanceMethod yX2_addFrame ∈ z_ws := z_ws_t 224 (by decide +kernel) (by decide +kernel)
theorem wse_X2_addFrame : Cond.selects RX2 yX2_addFrame yX2_addFrame ∈ z_ws := z_ws_t 225 (by decide +kernel) (by decide +kernel)
theorem cv_X5_69 : z_cv RX5 69 yX2_addFrame cX2_addFrame 2 none 1 := z_cv_of wm_X5_69 win_X2_addFrame wse_X2_addFrame wi_X2 wc_X2_addFrame (by decide +kernel)
theorem wk_X5_73 : Cond.constant RX5 73 (zi 1103515245) ∈ z_ws := z_ws_t 231 (by decide +kernel) (by decide +kernel)
theorem wm_X5_74 : Cond.methodLink RX5 74 yX2_overlaps ∈ z_ws := z_ws_t 236 (by decide +kernel) (by decide +kernel)
theorem wc_X2_overlaps : Cond.code yX2_overlaps cX2_overlaps 4 (some .boolean) ∈ z_ws := z_ws_t 239 (by decide +kernel) (by decide +kernel)
theorem win_X2_overlaps : Cond.instanceMethod yX2_overlaps ∈ z_ws := z_ws_t 237 (by decide +kernel) (by decide +kernel)
theorem wse_X2_overlaps : Cond.selects RX2 yX2_overlaps yX2_overlaps ∈ z_ws := z_ws_t 238 (by decide +kernel) (by decide +kernel)
theorem cv_X5_74 : z_cv RX5 74 yX2_overlaps cX2_overlaps 4 (some .boolean) 2 := z_cv_of wm_X5_74 win_X2_overlaps wse_X2_overlaps wi_X2 wc_X2_overlaps (by decide +kernel)
theorem wf_X5_78 : Cond.fieldLink RX5 78 RX2 "marks" "I" ∈ z_ws := z_ws_t 50 (by decide +kernel) (by decide +kernel)
theorem wm_X5_81 : Cond.methodLink RX5 81 yX2_addMark ∈ z_ws := z_ws_t 240 (by decide +kernel) (by decide +kernel)
theorem wc_X2_addMark : Cond.code yX2_addMark cX2_addMark 6 (some .int) ∈ z_ws := z_ws_t 243 (by decide +kernel) (by decide +kernel)
theorem win_X2_addMark : Cond.instanceMethod yX2_addMark ∈ z_ws := z_ws_t 241 (by decide +kernel) (by decide +kernel)
theorem wse_X2_addMark : Cond.selects RX2 yX2_addMark yX2_addMark ∈ z_ws := z_ws_t 242 (by decide +kernel) (by decide +kernel)
theorem cv_X5_81 : z_cv RX5 81 yX2_addMark cX2_addMark 6 (some .int) 4 := z_cv_of wm_X5_81 win_X2_addMark wse_X2_addMark wi_X2 wc_X2_addMark (by decide +kernel)
theorem wm_X5_85 : Cond.methodLink RX5 85 yX2_hasMark ∈ z_ws := z_ws_t 248 (by decide +kernel) (by decide +kernel)
theorem cv_X5_85 : z_cv RX5 85 yX2_hasMark cX2_hasMark 2 (some .boolean) 1 := z_cv_of wm_X5_85 win_X2_hasMark wse_X2_hasMark wi_X2 wc_X2_hasMark (by decide +kernel)
theorem wm_X5_89 : Cond.methodLink RX5 89 yX2_removeMark ∈ z_ws := z_ws_t 252 (by decide +kernel) (by decide +kernel)
theorem wc_X2_removeMark : Cond.code yX2_removeMark cX2_removeMark 3 none ∈ z_ws := z_ws_t 255 (by decide +kernel) (by decide +kernel)
theorem win_X2_removeMark : Cond.instanceMethod yX2_removeMark ∈ z_ws := z_ws_t 253 (by decide +kernel) (by decide +kernel)
theorem wse_X2_removeMark : Cond.selects RX2 yX2_removeMark yX2_removeMark ∈ z_ws := z_ws_t 254 (by decide +kernel) (by decide +kernel)
theorem cv_X5_89 : z_cv RX5 89 yX2_removeMark cX2_removeMark 3 none 1 := z_cv_of wm_X5_89 win_X2_removeMark wse_X2_removeMark wi_X2 wc_X2_removeMark (by decide +kernel)
theorem wf_X5_92 : Cond.fieldLink RX5 92 RX2 "held" "[Z" ∈ z_ws := z_ws_t 46 (by decide +kernel) (by decide +kernel)
theorem wf_X5_99 : Cond.fieldLink RX5 99 RX2 "settings" "[I" ∈ z_ws := z_ws_t 53 (by decide +kernel) (by decide +kernel)
theorem wf_X5_41 : Cond.fieldLink RX5 41 RX5 "cutList" "LSpeechCleaner$CutList;" ∈ z_ws := z_ws_t 182 (by decide +kernel) (by decide +kernel)
theorem wm_X5_136 : Cond.methodLink RX5 136 yX0_find ∈ z_ws := z_ws_t 279 (by decide +kernel) (by decide +kernel)
theorem wc_X0_find : Cond.code yX0_find cX0_find 5 none ∈ z_ws := z_ws_t 282 (by decide +kernel) (by decide +kernel)
theorem win_X0_find : Cond.instanceMethod yX0_find ∈ z_ws := z_ws_t 280 (by decide +kernel) (by decide +kernel)
theorem wse_X0_find : Cond.selects RX0 yX0_find yX0_find ∈ z_ws := z_ws_t 281 (by decide +kernel) (by decide +kernel)
theorem cv_X5_136 : z_cv RX5 136 yX0_find cX0_find 5 none 3 := z_cv_of wm_X5_136 win_X0_find wse_X0_find wi_X0 wc_X0_find (by decide +kernel)
theorem wm_X5_110 : Cond.methodLink RX5 110 yX2_numberOfMark ∈ z_ws := z_ws_t 329 (by decide +kernel) (by decide +kernel)
theorem wc_X2_numberOfMark : Cond.code yX2_numberOfMark cX2_numberOfMark 3 (some .int) ∈ z_ws := z_ws_t 332 (by decide +kernel) (by decide +kernel)
theorem win_X2_numberOfMark : Cond.instanceMethod yX2_numberOfMark ∈ z_ws := z_ws_t 330 (by decide +kernel) (by decide +kernel)
theorem wse_X2_numberOfMark : Cond.selects RX2 yX2_numberOfMark yX2_numberOfMark ∈ z_ws := z_ws_t 331 (by decide +kernel) (by decide +kernel)
theorem cv_X5_110 : z_cv RX5 110 yX2_numberOfMark cX2_numberOfMark 3 (some .int) 2 := z_cv_of wm_X5_110 win_X2_numberOfMark wse_X2_numberOfMark wi_X2 wc_X2_numberOfMark (by decide +kernel)
theorem wm_X5_102 : Cond.methodLink RX5 102 yX5_currentCuts ∈ z_ws := z_ws_t 275 (by decide +kernel) (by decide +kernel)
theorem wi_X5 : Cond.initialized RX5 ∈ z_ws := z_ws_t 1 (by decide +kernel) (by decide +kernel)
theorem wc_X5_currentCuts : Cond.code yX5_currentCuts cX5_currentCuts 1 (some (.object "SpeechCleaner$CutList")) ∈ z_ws := z_ws_t 278 (by decide +kernel) (by decide +kernel)
theorem win_X5_currentCuts : Cond.instanceMethod yX5_currentCuts ∈ z_ws := z_ws_t 277 (by decide +kernel) (by decide +kernel)
theorem wse_X5_currentCuts : Cond.selects RX5 yX5_currentCuts yX5_currentCuts ∈ z_ws := z_ws_p 0 (by decide +kernel) (by decide +kernel)
theorem cv_X5_102 : z_cv RX5 102 yX5_currentCuts cX5_currentCuts 1 (some (.object "SpeechCleaner$CutList")) 0 := z_cv_of wm_X5_102 win_X5_currentCuts wse_X5_currentCuts wi_X5 wc_X5_currentCuts (by decide +kernel)
theorem wm_X5_106 : Cond.methodLink RX5 106 yX0_cutOfMark ∈ z_ws := z_ws_t 325 (by decide +kernel) (by decide +kernel)
theorem wc_X0_cutOfMark : Cond.code yX0_cutOfMark cX0_cutOfMark 3 (some .int) ∈ z_ws := z_ws_t 328 (by decide +kernel) (by decide +kernel)
theorem win_X0_cutOfMark : Cond.instanceMethod yX0_cutOfMark ∈ z_ws := z_ws_t 326 (by decide +kernel) (by decide +kernel)
theorem wse_X0_cutOfMark : Cond.selects RX0 yX0_cutOfMark yX0_cutOfMark ∈ z_ws := z_ws_t 327 (by decide +kernel) (by decide +kernel)
theorem cv_X5_106 : z_cv RX5 106 yX0_cutOfMark cX0_cutOfMark 3 (some .int) 1 := z_cv_of wm_X5_106 win_X0_cutOfMark wse_X0_cutOfMark wi_X0 wc_X0_cutOfMark (by decide +kernel)
theorem wm_X5_114 : Cond.methodLink RX5 114 yX2_hasFrame ∈ z_ws := z_ws_t 465 (by decide +kernel) (by decide +kernel)
theorem cv_X5_114 : z_cv RX5 114 yX2_hasFrame cX2_hasFrame 2 (some .boolean) 1 := z_cv_of wm_X5_114 win_X2_hasFrame wse_X2_hasFrame wi_X2 wc_X2_hasFrame (by decide +kernel)
theorem wm_X5_117 : Cond.methodLink RX5 117 yX2_levelAt ∈ z_ws := z_ws_t 466 (by decide +kernel) (by decide +kernel)
theorem cv_X5_117 : z_cv RX5 117 yX2_levelAt cX2_levelAt 2 (some .int) 1 := z_cv_of wm_X5_117 win_X2_levelAt wse_X2_levelAt wi_X2 wc_X2_levelAt (by decide +kernel)
theorem wf_X5_120 : Cond.fieldLink RX5 120 RX0 "count" "I" ∈ z_ws := z_ws_t 132 (by decide +kernel) (by decide +kernel)
theorem wm_X5_123 : Cond.methodLink RX5 123 yX0_numberOfCut ∈ z_ws := z_ws_t 442 (by decide +kernel) (by decide +kernel)
theorem wc_X0_numberOfCut : Cond.code yX0_numberOfCut cX0_numberOfCut 3 (some .int) ∈ z_ws := z_ws_t 445 (by decide +kernel) (by decide +kernel)
theorem win_X0_numberOfCut : Cond.instanceMethod yX0_numberOfCut ∈ z_ws := z_ws_t 443 (by decide +kernel) (by decide +kernel)
theorem wse_X0_numberOfCut : Cond.selects RX0 yX0_numberOfCut yX0_numberOfCut ∈ z_ws := z_ws_t 444 (by decide +kernel) (by decide +kernel)
theorem cv_X5_123 : z_cv RX5 123 yX0_numberOfCut cX0_numberOfCut 3 (some .int) 2 := z_cv_of wm_X5_123 win_X0_numberOfCut wse_X0_numberOfCut wi_X0 wc_X0_numberOfCut (by decide +kernel)
theorem wm_X5_133 : Cond.methodLink RX5 133 yX0_roughCuts ∈ z_ws := z_ws_t 341 (by decide +kernel) (by decide +kernel)
theorem wc_X0_roughCuts : Cond.code yX0_roughCuts cX0_roughCuts 3 (some .int) ∈ z_ws := z_ws_t 344 (by decide +kernel) (by decide +kernel)
theorem win_X0_roughCuts : Cond.instanceMethod yX0_roughCuts ∈ z_ws := z_ws_t 342 (by decide +kernel) (by decide +kernel)
theorem wse_X0_roughCuts : Cond.selects RX0 yX0_roughCuts yX0_roughCuts ∈ z_ws := z_ws_t 343 (by decide +kernel) (by decide +kernel)
theorem cv_X5_133 : z_cv RX5 133 yX0_roughCuts cX0_roughCuts 3 (some .int) 0 := z_cv_of wm_X5_133 win_X0_roughCuts wse_X0_roughCuts wi_X0 wc_X0_roughCuts (by decide +kernel)
theorem wm_X5_130 : Cond.methodLink RX5 130 yX0_pauseFrames ∈ z_ws := z_ws_t 475 (by decide +kernel) (by decide +kernel)
theorem wc_X0_pauseFrames : Cond.code yX0_pauseFrames cX0_pauseFrames 3 (some .int) ∈ z_ws := z_ws_t 478 (by decide +kernel) (by decide +kernel)
theorem win_X0_pauseFrames : Cond.instanceMethod yX0_pauseFrames ∈ z_ws := z_ws_t 476 (by decide +kernel) (by decide +kernel)
theorem wse_X0_pauseFrames : Cond.selects RX0 yX0_pauseFrames yX0_pauseFrames ∈ z_ws := z_ws_t 477 (by decide +kernel) (by decide +kernel)
theorem cv_X5_130 : z_cv RX5 130 yX0_pauseFrames cX0_pauseFrames 3 (some .int) 0 := z_cv_of wm_X5_130 win_X0_pauseFrames wse_X0_pauseFrames wi_X0 wc_X0_pauseFrames (by decide +kernel)
theorem wm_X5_126 : Cond.methodLink RX5 126 yX0_cutFrames ∈ z_ws := z_ws_t 353 (by decide +kernel) (by decide +kernel)
theorem wc_X0_cutFrames : Cond.code yX0_cutFrames cX0_cutFrames 3 (some .int) ∈ z_ws := z_ws_t 356 (by decide +kernel) (by decide +kernel)
theorem win_X0_cutFrames : Cond.instanceMethod yX0_cutFrames ∈ z_ws := z_ws_t 354 (by decide +kernel) (by decide +kernel)
theorem wse_X0_cutFrames : Cond.selects RX0 yX0_cutFrames yX0_cutFrames ∈ z_ws := z_ws_t 355 (by decide +kernel) (by decide +kernel)
theorem cv_X5_126 : z_cv RX5 126 yX0_cutFrames cX0_cutFrames 3 (some .int) 0 := z_cv_of wm_X5_126 win_X0_cutFrames wse_X0_cutFrames wi_X0 wc_X0_cutFrames (by decide +kernel)
theorem wm_X5_140 : Cond.methodLink RX5 140 yX2_hasFillerOfDoubt ∈ z_ws := z_ws_t 349 (by decide +kernel) (by decide +kernel)
theorem wc_X2_hasFillerOfDoubt : Cond.code yX2_hasFillerOfDoubt cX2_hasFillerOfDoubt 3 (some .boolean) ∈ z_ws := z_ws_t 352 (by decide +kernel) (by decide +kernel)
theorem win_X2_hasFillerOfDoubt : Cond.instanceMethod yX2_hasFillerOfDoubt ∈ z_ws := z_ws_t 350 (by decide +kernel) (by decide +kernel)
theorem wse_X2_hasFillerOfDoubt : Cond.selects RX2 yX2_hasFillerOfDoubt yX2_hasFillerOfDoubt ∈ z_ws := z_ws_t 351 (by decide +kernel) (by decide +kernel)
theorem cv_X5_140 : z_cv RX5 140 yX2_hasFillerOfDoubt cX2_hasFillerOfDoubt 3 (some .boolean) 1 := z_cv_of wm_X5_140 win_X2_hasFillerOfDoubt wse_X2_hasFillerOfDoubt wi_X2 wc_X2_hasFillerOfDoubt (by decide +kernel)
theorem wf_X5_48 : Cond.fieldLink RX5 48 RX5 "result" "LSpeechCleaner$Result;" ∈ z_ws := z_ws_t 183 (by decide +kernel) (by decide +kernel)
theorem wm_X5_189 : Cond.methodLink RX5 189 yX3_build ∈ z_ws := z_ws_t 365 (by decide +kernel) (by decide +kernel)
theorem wc_X3_build : Cond.code yX3_build cX3_build 5 none ∈ z_ws := z_ws_t 368 (by decide +kernel) (by decide +kernel)
theorem win_X3_build : Cond.instanceMethod yX3_build ∈ z_ws := z_ws_t 366 (by decide +kernel) (by decide +kernel)
theorem wse_X3_build : Cond.selects RX3 yX3_build yX3_build ∈ z_ws := z_ws_t 367 (by decide +kernel) (by decide +kernel)
theorem cv_X5_189 : z_cv RX5 189 yX3_build cX3_build 5 none 2 := z_cv_of wm_X5_189 win_X3_build wse_X3_build wi_X3 wc_X3_build (by decide +kernel)
theorem wm_X5_143 : Cond.methodLink RX5 143 yX5_currentResult ∈ z_ws := z_ws_t 361 (by decide +kernel) (by decide +kernel)
theorem wc_X5_currentResult : Cond.code yX5_currentResult cX5_currentResult 1 (some (.object "SpeechCleaner$Result")) ∈ z_ws := z_ws_t 364 (by decide +kernel) (by decide +kernel)
theorem win_X5_currentResult : Cond.instanceMethod yX5_currentResult ∈ z_ws := z_ws_t 363 (by decide +kernel) (by decide +kernel)
theorem wse_X5_currentResult : Cond.selects RX5 yX5_currentResult yX5_currentResult ∈ z_ws := z_ws_p 1 (by decide +kernel) (by decide +kernel)
theorem cv_X5_143 : z_cv RX5 143 yX5_currentResult cX5_currentResult 1 (some (.object "SpeechCleaner$Result")) 0 := z_cv_of wm_X5_143 win_X5_currentResult wse_X5_currentResult wi_X5 wc_X5_currentResult (by decide +kernel)
theorem wf_X5_147 : Cond.fieldLink RX5 147 RX3 "count" "I" ∈ z_ws := z_ws_t 157 (by decide +kernel) (by decide +kernel)
theorem wf_X5_151 : Cond.fieldLink RX5 151 RX3 "levels" "[I" ∈ z_ws := z_ws_t 155 (by decide +kernel) (by decide +kernel)
theorem wf_X5_148 : Cond.fieldLink RX5 148 RX3 "sources" "[I" ∈ z_ws := z_ws_t 153 (by decide +kernel) (by decide +kernel)
theorem wm_X5_154 : Cond.methodLink RX5 154 yX3_placeOfSource ∈ z_ws := z_ws_t 487 (by decide +kernel) (by decide +kernel)
theorem wc_X3_placeOfSource : Cond.code yX3_placeOfSource cX3_placeOfSource 3 (some .int) ∈ z_ws := z_ws_t 490 (by decide +kernel) (by decide +kernel)
theorem win_X3_placeOfSource : Cond.instanceMethod yX3_placeOfSource ∈ z_ws := z_ws_t 488 (by decide +kernel) (by decide +kernel)
theorem wse_X3_placeOfSource : Cond.selects RX3 yX3_placeOfSource yX3_placeOfSource ∈ z_ws := z_ws_t 489 (by decide +kernel) (by decide +kernel)
theorem cv_X5_154 : z_cv RX5 154 yX3_placeOfSource cX3_placeOfSource 3 (some .int) 1 := z_cv_of wm_X5_154 win_X3_placeOfSource wse_X3_placeOfSource wi_X3 wc_X3_placeOfSource (by decide +kernel)
theorem wm_X5_157 : Cond.methodLink RX5 157 yX3_stepsGreaterThan ∈ z_ws := z_ws_t 495 (by decide +kernel) (by decide +kernel)
theorem wc_X3_stepsGreaterThan : Cond.code yX3_stepsGreaterThan cX3_stepsGreaterThan 4 (some .int) ∈ z_ws := z_ws_t 498 (by decide +kernel) (by decide +kernel)
theorem win_X3_stepsGreaterThan : Cond.instanceMethod yX3_stepsGreaterThan ∈ z_ws := z_ws_t 496 (by decide +kernel) (by decide +kernel)
theorem wse_X3_stepsGreaterThan : Cond.selects RX3 yX3_stepsGreaterThan yX3_stepsGreaterThan ∈ z_ws := z_ws_t 497 (by decide +kernel) (by decide +kernel)
theorem cv_X5_157 : z_cv RX5 157 yX3_stepsGreaterThan cX3_stepsGreaterThan 4 (some .int) 1 := z_cv_of wm_X5_157 win_X3_stepsGreaterThan wse_X3_stepsGreaterThan wi_X3 wc_X3_stepsGreaterThan (by decide +kernel)
theorem wm_X5_163 : Cond.methodLink RX5 163 yX3_longestStretchUpTo ∈ z_ws := z_ws_t 414 (by decide +kernel) (by decide +kernel)
theorem wc_X3_longestStretchUpTo : Cond.code yX3_longestStretchUpTo cX3_longestStretchUpTo 5 (some .int) ∈ z_ws := z_ws_t 417 (by decide +kernel) (by decide +kernel)
theorem win_X3_longestStretchUpTo : Cond.instanceMethod yX3_longestStretchUpTo ∈ z_ws := z_ws_t 415 (by decide +kernel) (by decide +kernel)
theorem wse_X3_longestStretchUpTo : Cond.selects RX3 yX3_longestStretchUpTo yX3_longestStretchUpTo ∈ z_ws := z_ws_t 416 (by decide +kernel) (by decide +kernel)
theorem cv_X5_163 : z_cv RX5 163 yX3_longestStretchUpTo cX3_longestStretchUpTo 5 (some .int) 1 := z_cv_of wm_X5_163 win_X3_longestStretchUpTo wse_X3_longestStretchUpTo wi_X3 wc_X3_longestStretchUpTo (by decide +kernel)
theorem wf_X5_166 : Cond.fieldLink RX5 166 RX1 "count" "I" ∈ z_ws := z_ws_t 86 (by decide +kernel) (by decide +kernel)
theorem wm_X5_167 : Cond.methodLink RX5 167 yX1_restoreLatest ∈ z_ws := z_ws_t 423 (by decide +kernel) (by decide +kernel)
theorem wc_X1_restoreLatest : Cond.code yX1_restoreLatest cX1_restoreLatest 2 none ∈ z_ws := z_ws_t 426 (by decide +kernel) (by decide +kernel)
theorem win_X1_restoreLatest : Cond.instanceMethod yX1_restoreLatest ∈ z_ws := z_ws_t 424 (by decide +kernel) (by decide +kernel)
theorem wse_X1_restoreLatest : Cond.selects RX1 yX1_restoreLatest yX1_restoreLatest ∈ z_ws := z_ws_t 425 (by decide +kernel) (by decide +kernel)
theorem cv_X5_167 : z_cv RX5 167 yX1_restoreLatest cX1_restoreLatest 2 none 1 := z_cv_of wm_X5_167 win_X1_restoreLatest wse_X1_restoreLatest wi_X1 wc_X1_restoreLatest (by decide +kernel)
theorem wk_X5_172 : Cond.constantLong RX5 172 (zl 31) ∈ z_ws := z_ws_t 432 (by decide +kernel) (by decide +kernel)
theorem wk_X5_170 : Cond.constantLong RX5 170 (zl 151) ∈ z_ws := z_ws_t 431 (by decide +kernel) (by decide +kernel)
theorem wm_X5_174 : Cond.methodLink RX5 174 yX5_setting ∈ z_ws := z_ws_t 433 (by decide +kernel) (by decide +kernel)
theorem wc_X5_setting : Cond.code yX5_setting cX5_setting 2 (some .int) ∈ z_ws := z_ws_t 270 (by decide +kernel) (by decide +kernel)
theorem win_X5_setting : Cond.instanceMethod yX5_setting ∈ z_ws := z_ws_t 268 (by decide +kernel) (by decide +kernel)
theorem wse_X5_setting : Cond.selects RX5 yX5_setting yX5_setting ∈ z_ws := z_ws_t 269 (by decide +kernel) (by decide +kernel)
theorem cv_X5_174 : z_cv RX5 174 yX5_setting cX5_setting 2 (some .int) 1 := z_cv_of wm_X5_174 win_X5_setting wse_X5_setting wi_X5 wc_X5_setting (by decide +kernel)
theorem wm_X5_178 : Cond.methodLink RX5 178 yX5_withMarks ∈ z_ws := z_ws_t 434 (by decide +kernel) (by decide +kernel)
theorem wc_X5_withMarks : Cond.code yX5_withMarks cX5_withMarks 8 (some .long) ∈ z_ws := z_ws_t 437 (by decide +kernel) (by decide +kernel)
theorem win_X5_withMarks : Cond.instanceMethod yX5_withMarks ∈ z_ws := z_ws_t 436 (by decide +kernel) (by decide +kernel)
theorem wse_X5_withMarks : Cond.selects RX5 yX5_withMarks yX5_withMarks ∈ z_ws := z_ws_p 2 (by decide +kernel) (by decide +kernel)
theorem cv_X5_178 : z_cv RX5 178 yX5_withMarks cX5_withMarks 8 (some .long) 2 := z_cv_of wm_X5_178 win_X5_withMarks wse_X5_withMarks wi_X5 wc_X5_withMarks (by decide +kernel)
theorem wm_X5_182 : Cond.methodLink RX5 182 yX5_withCuts ∈ z_ws := z_ws_t 438 (by decide +kernel) (by decide +kernel)
theorem wc_X5_withCuts : Cond.code yX5_withCuts cX5_withCuts 8 (some .long) ∈ z_ws := z_ws_t 441 (by decide +kernel) (by decide +kernel)
theorem win_X5_withCuts : Cond.instanceMethod yX5_withCuts ∈ z_ws := z_ws_t 440 (by decide +kernel) (by decide +kernel)
theorem wse_X5_withCuts : Cond.selects RX5 yX5_withCuts yX5_withCuts ∈ z_ws := z_ws_p 3 (by decide +kernel) (by decide +kernel)
theorem cv_X5_182 : z_cv RX5 182 yX5_withCuts cX5_withCuts 8 (some .long) 2 := z_cv_of wm_X5_182 win_X5_withCuts wse_X5_withCuts wi_X5 wc_X5_withCuts (by decide +kernel)
theorem wm_X5_185 : Cond.methodLink RX5 185 yX5_withResult ∈ z_ws := z_ws_t 446 (by decide +kernel) (by decide +kernel)
theorem wc_X5_withResult : Cond.code yX5_withResult cX5_withResult 7 (some .long) ∈ z_ws := z_ws_t 449 (by decide +kernel) (by decide +kernel)
theorem win_X5_withResult : Cond.instanceMethod yX5_withResult ∈ z_ws := z_ws_t 448 (by decide +kernel) (by decide +kernel)
theorem wse_X5_withResult : Cond.selects RX5 yX5_withResult yX5_withResult ∈ z_ws := z_ws_p 4 (by decide +kernel) (by decide +kernel)
theorem cv_X5_185 : z_cv RX5 185 yX5_withResult cX5_withResult 7 (some .long) 2 := z_cv_of wm_X5_185 win_X5_withResult wse_X5_withResult wi_X5 wc_X5_withResult (by decide +kernel)
theorem wf_X5_177 : Cond.fieldLink RX5 177 RX2 "levels" "[I" ∈ z_ws := z_ws_t 29 (by decide +kernel) (by decide +kernel)
end
section
/-! THE CELLS OF THE WORLDS, AND A ROW FOR EACH FIELD (by program) -/
theorem z_lt0 {g : zG} (h : g.1 = 0) {k : Nat} (hk : k < 64) : k < z_N g := by rw [z_N0 h]; exact hk
theorem z_lt1 {g : zG} (h : g.1 = 1) {k : Nat} (hk : k < 10) : k < z_N g := by rw [z_N1 h]; exact hk
theorem z_room {C : zC} {rm : Room} (hR : z_R C = rm) {a b : Nat} (h : a ≤ rm.frames ∧ b ≤ rm.locals) : a ≤ (z_R C).frames ∧ b ≤ (z_R C).locals := by rw [hR]; exact h
theorem z_lk4 {a b c d oa ob oc od dflt x : Int} (ha : ¬ x = a) (hb : ¬ x = b) (hc : ¬ x = c) (hd : ¬ x = d) : Op.lookupswitch.offset [(a, oa), (b, ob), (c, oc), (d, od)] dflt x = dflt := by
  rw [Op.lookupswitch.offset_cons, if_neg (Ne.symm ha), Op.lookupswitch.offset_cons, if_neg (Ne.symm hb), Op.lookupswitch.offset_cons, if_neg (Ne.symm hc), Op.lookupswitch.offset_cons, if_neg (Ne.symm hd)]
  rfl
theorem z_ka0 {g : zG} (h : g.1 = 0) {j : Nat} (hj : j < 6) (f : Int → Int) : z_mk g (8 * j) f = .inr (2, [.ref (g.2.1 (8 * j + 1)), .int (zi (f 1)), .ref (g.2.1 (8 * j + 2)), .ref (g.2.1 (8 * j + 3)), .ref (g.2.1 (8 * j + 4)), .ref (g.2.1 (8 * j + 5)), .ref (g.2.1 (8 * j + 6)), .int (zi (f 7)), .ref (g.2.1 (8 * j + 7))]) := by
  rw [z_side0 h]
  rcases (show j = 0 ∨ j = 1 ∨ j = 2 ∨ j = 3 ∨ j = 4 ∨ j = 5 by omega) with rfl | rfl | rfl | rfl | rfl | rfl <;> rfl
theorem z_ka1 {g : zG} (h : g.1 = 0) {j : Nat} (hj : j < 6) (f : Int → Int) : z_mk g (8 * j + 1) f = .inl (g.2.2.1, 200, .inl (z_ar f)) := by
  rw [z_side0 h]
  rcases (show j = 0 ∨ j = 1 ∨ j = 2 ∨ j = 3 ∨ j = 4 ∨ j = 5 by omega) with rfl | rfl | rfl | rfl | rfl | rfl <;> rfl
theorem z_ka2 {g : zG} (h : g.1 = 0) {j : Nat} (hj : j < 6) (f : Int → Int) : z_mk g (8 * j + 2) f = .inl (g.2.2.1, 20, .inl (z_ar f)) := by
  rw [z_side0 h]
  rcases (show j = 0 ∨ j = 1 ∨ j = 2 ∨ j = 3 ∨ j = 4 ∨ j = 5 by omega) with rfl | rfl | rfl | rfl | rfl | rfl <;> rfl
theorem z_ka3 {g : zG} (h : g.1 = 0) {j : Nat} (hj : j < 6) (f : Int → Int) : z_mk g (8 * j + 3) f = .inl (g.2.2.1, 20, .inl (z_ar f)) := by
  rw [z_side0 h]
  rcases (show j = 0 ∨ j = 1 ∨ j = 2 ∨ j = 3 ∨ j = 4 ∨ j = 5 by omega) with rfl | rfl | rfl | rfl | rfl | rfl <;> rfl
theorem z_ka4 {g : zG} (h : g.1 = 0) {j : Nat} (hj : j < 6) (f : Int → Int) : z_mk g (8 * j + 4) f = .inl (g.2.2.1, 20, .inl (z_ar f)) := by
  rw [z_side0 h]
  rcases (show j = 0 ∨ j = 1 ∨ j = 2 ∨ j = 3 ∨ j = 4 ∨ j = 5 by omega) with rfl | rfl | rfl | rfl | rfl | rfl <;> rfl
theorem z_ka5 {g : zG} (h : g.1 = 0) {j : Nat} (hj : j < 6) (f : Int → Int) : z_mk g (8 * j + 5) f = .inl (g.2.2.1, 20, .inl (z_ar f)) := by
  rw [z_side0 h]
  rcases (show j = 0 ∨ j = 1 ∨ j = 2 ∨ j = 3 ∨ j = 4 ∨ j = 5 by omega) with rfl | rfl | rfl | rfl | rfl | rfl <;> rfl
theorem z_ka6 {g : zG} (h : g.1 = 0) {j : Nat} (hj : j < 6) (f : Int → Int) : z_mk g (8 * j + 6) f = .inl (g.2.2.2.1, 20, .inl (z_ar f)) := by
  rw [z_side0 h]
  rcases (show j = 0 ∨ j = 1 ∨ j = 2 ∨ j = 3 ∨ j = 4 ∨ j = 5 by omega) with rfl | rfl | rfl | rfl | rfl | rfl <;> rfl
theorem z_ka7 {g : zG} (h : g.1 = 0) {j : Nat} (hj : j < 6) (f : Int → Int) : z_mk g (8 * j + 7) f = .inl (g.2.2.1, 7, .inl (z_ar f)) := by
  rw [z_side0 h]
  rcases (show j = 0 ∨ j = 1 ∨ j = 2 ∨ j = 3 ∨ j = 4 ∨ j = 5 by omega) with rfl | rfl | rfl | rfl | rfl | rfl <;> rfl
theorem z_kb48 {g : zG} (h : g.1 = 0) (f : Int → Int) : z_mk g 48 f = .inr (0, [.ref (g.2.1 49), .ref (g.2.1 50), .ref (g.2.1 51), .ref (g.2.1 52), .ref (g.2.1 53), .int (zi (f 5))]) := by
  rw [z_side0 h]
  rfl
theorem z_kb49 {g : zG} (h : g.1 = 0) (f : Int → Int) : z_mk g 49 f = .inl (g.2.2.1, 20, .inl (z_ar f)) := by
  rw [z_side0 h]
  rfl
theorem z_kb50 {g : zG} (h : g.1 = 0) (f : Int → Int) : z_mk g 50 f = .inl (g.2.2.1, 20, .inl (z_ar f)) := by
  rw [z_side0 h]
  rfl
theorem z_kb51 {g : zG} (h : g.1 = 0) (f : Int → Int) : z_mk g 51 f = .inl (g.2.2.1, 20, .inl (z_ar f)) := by
  rw [z_side0 h]
  rfl
theorem z_kb52 {g : zG} (h : g.1 = 0) (f : Int → Int) : z_mk g 52 f = .inl (g.2.2.2.1, 20, .inl (z_ar f)) := by
  rw [z_side0 h]
  rfl
theorem z_kb53 {g : zG} (h : g.1 = 0) (f : Int → Int) : z_mk g 53 f = .inl (g.2.2.1, 20, .inl (z_ar f)) := by
  rw [z_side0 h]
  rfl
theorem z_kb60 {g : zG} (h : g.1 = 0) (f : Int → Int) : z_mk g 60 f = .inr (1, [.ref (g.2.1 61), .int (zi (f 1))]) := by
  rw [z_side0 h]
  rfl
theorem z_kb54 {g : zG} (h : g.1 = 0) (f : Int → Int) : z_mk g 54 f = .inr (3, [.ref (g.2.1 55), .ref (g.2.1 56), .int (zi (f 2)), .ref (g.2.1 57), .int (zi (f 4)), .int (zi (f 5)), .ref (g.2.1 58)]) := by
  rw [z_side0 h]
  rfl
theorem z_kb55 {g : zG} (h : g.1 = 0) (f : Int → Int) : z_mk g 55 f = .inl (g.2.2.1, 200, .inl (z_ar f)) := by
  rw [z_side0 h]
  rfl
theorem z_kb56 {g : zG} (h : g.1 = 0) (f : Int → Int) : z_mk g 56 f = .inl (g.2.2.1, 200, .inl (z_ar f)) := by
  rw [z_side0 h]
  rfl
theorem z_kb57 {g : zG} (h : g.1 = 0) (f : Int → Int) : z_mk g 57 f = .inl (g.2.2.1, 200, .inl (z_ar f)) := by
  rw [z_side0 h]
  rfl
theorem z_kb58 {g : zG} (h : g.1 = 0) (f : Int → Int) : z_mk g 58 f = .inl (g.2.2.2.1, 200, .inl (z_ar f)) := by
  rw [z_side0 h]
  rfl
theorem z_kb59 {g : zG} (h : g.1 = 0) (f : Int → Int) : z_mk g 59 f = .inr (4, [.ref (g.2.1 40), .int (zi (f 1)), .int (zi (f 2)), .int (zi (f 3)), .int (zi (f 4)), .int (zi (f 5)), .int (zi (f 6))]) := by
  rw [z_side0 h]
  rfl
theorem z_kb62 {g : zG} (h : g.1 = 0) (f : Int → Int) : z_mk g 62 f = .inr (5, [.ref (g.2.1 63), .int (zi (f 1)), .ref (g.2.1 0), .ref (g.2.1 60), .ref (g.2.1 59), .ref (g.2.1 48), .ref (g.2.1 54)]) := by
  rw [z_side0 h]
  rfl
theorem z_kb63 {g : zG} (h : g.1 = 0) (f : Int → Int) : z_mk g 63 f = .inl (g.2.2.1, 120, .inl (z_ar f)) := by
  rw [z_side0 h]
  rfl
theorem z_kb61 {g : zG} (h : g.1 = 0) (f : Int → Int) : z_mk g 61 f = .inl (g.2.2.2.2.1, 4, .inr (.inr (.inr (.inr (fun i => some (g.2.1 (8 * (f (i : Int)).toNat))))))) := by
  rw [z_side0 h]
  rfl
section
variable {C : zC} {cc : ByteArray} {own : String} {σ : zS} {pc : Nat} {lv : List (Nat × Value)} {st : List Value} {α : Type} {r : α}
theorem gf_X0_begins (hx : z_ok C cc own 0) {idx : Nat} (hw : Cond.fieldLink own idx RX0 "begins" "[I" ∈ z_ws) (hd : decode cc pc = .ok (.getfield idx, 3)) (kk : z_W C σ (pc + 3) lv (.ref (z_ad (z_g C) 49) :: st)) : z_W C σ pc lv (.ref (z_ad (z_g C) 48) :: st) := z_getf hx (z_lt0 (z_ok_sd hx) (by omega)) (z_kb48 (z_ok_sd hx) _) rfl z_inX0 0 (by decide) hw rfl rfl hd kk
theorem gf_X0_ends (hx : z_ok C cc own 0) {idx : Nat} (hw : Cond.fieldLink own idx RX0 "ends" "[I" ∈ z_ws) (hd : decode cc pc = .ok (.getfield idx, 3)) (kk : z_W C σ (pc + 3) lv (.ref (z_ad (z_g C) 50) :: st)) : z_W C σ pc lv (.ref (z_ad (z_g C) 48) :: st) := z_getf hx (z_lt0 (z_ok_sd hx) (by omega)) (z_kb48 (z_ok_sd hx) _) rfl z_inX0 1 (by decide) hw rfl rfl hd kk
theorem gf_X0_pauses (hx : z_ok C cc own 0) {idx : Nat} (hw : Cond.fieldLink own idx RX0 "pauses" "[I" ∈ z_ws) (hd : decode cc pc = .ok (.getfield idx, 3)) (kk : z_W C σ (pc + 3) lv (.ref (z_ad (z_g C) 51) :: st)) : z_W C σ pc lv (.ref (z_ad (z_g C) 48) :: st) := z_getf hx (z_lt0 (z_ok_sd hx) (by omega)) (z_kb48 (z_ok_sd hx) _) rfl z_inX0 2 (by decide) hw rfl rfl hd kk
theorem gf_X0_rough (hx : z_ok C cc own 0) {idx : Nat} (hw : Cond.fieldLink own idx RX0 "rough" "[Z" ∈ z_ws) (hd : decode cc pc = .ok (.getfield idx, 3)) (kk : z_W C σ (pc + 3) lv (.ref (z_ad (z_g C) 52) :: st)) : z_W C σ pc lv (.ref (z_ad (z_g C) 48) :: st) := z_getf hx (z_lt0 (z_ok_sd hx) (by omega)) (z_kb48 (z_ok_sd hx) _) rfl z_inX0 3 (by decide) hw rfl rfl hd kk
theorem gf_X0_markNumbers (hx : z_ok C cc own 0) {idx : Nat} (hw : Cond.fieldLink own idx RX0 "markNumbers" "[I" ∈ z_ws) (hd : decode cc pc = .ok (.getfield idx, 3)) (kk : z_W C σ (pc + 3) lv (.ref (z_ad (z_g C) 53) :: st)) : z_W C σ pc lv (.ref (z_ad (z_g C) 48) :: st) := z_getf hx (z_lt0 (z_ok_sd hx) (by omega)) (z_kb48 (z_ok_sd hx) _) rfl z_inX0 4 (by decide) hw rfl rfl hd kk
theorem gf_X0_count (hx : z_ok C cc own 0) {idx : Nat} (hw : Cond.fieldLink own idx RX0 "count" "I" ∈ z_ws) (hd : decode cc pc = .ok (.getfield idx, 3)) (kk : z_W C σ (pc + 3) lv (.int (zi (σ 48 5)) :: st)) : z_W C σ pc lv (.ref (z_ad (z_g C) 48) :: st) := z_getf hx (z_lt0 (z_ok_sd hx) (by omega)) (z_kb48 (z_ok_sd hx) _) rfl z_inX0 5 (by decide) hw rfl rfl hd kk
theorem pf_X0_count (hx : z_ok C cc own 0) {idx : Nat} (hw : Cond.fieldLink own idx RX0 "count" "I" ∈ z_ws) {v : Int} {K : zS → Option α} (hd : decode cc pc = .ok (.putfield idx, 3)) (h : z_put σ 48 5 v K = some r) (kk : ∀ σ1, K σ1 = some r → z_W C σ1 (pc + 3) lv st) : z_W C σ pc lv (.int (zi v) :: .ref (z_ad (z_g C) 48) :: st) := z_putf hx (z_lt0 (z_ok_sd hx) (by omega)) (fun f => [.ref (z_ad (z_g C) 49), .ref (z_ad (z_g C) 50), .ref (z_ad (z_g C) 51), .ref (z_ad (z_g C) 52), .ref (z_ad (z_g C) 53), .int (zi (f 5))]) (z_kb48 (z_ok_sd hx)) rfl z_inX0 tyX0 tyX0_ok nmX0 5 (by decide) hw rfl rfl rfl (fun _ => by simp) (fun f => by simp) rfl hd h kk
theorem gf_X1_states (hx : z_ok C cc own 0) {idx : Nat} (hw : Cond.fieldLink own idx RX1 "states" "[LSpeechCleaner$Recording;" ∈ z_ws) (hd : decode cc pc = .ok (.getfield idx, 3)) (kk : z_W C σ (pc + 3) lv (.ref (z_ad (z_g C) 61) :: st)) : z_W C σ pc lv (.ref (z_ad (z_g C) 60) :: st) := z_getf hx (z_lt0 (z_ok_sd hx) (by omega)) (z_kb60 (z_ok_sd hx) _) rfl z_inX1 0 (by decide) hw rfl rfl hd kk
theorem gf_X1_count (hx : z_ok C cc own 0) {idx : Nat} (hw : Cond.fieldLink own idx RX1 "count" "I" ∈ z_ws) (hd : decode cc pc = .ok (.getfield idx, 3)) (kk : z_W C σ (pc + 3) lv (.int (zi (σ 60 1)) :: st)) : z_W C σ pc lv (.ref (z_ad (z_g C) 60) :: st) := z_getf hx (z_lt0 (z_ok_sd hx) (by omega)) (z_kb60 (z_ok_sd hx) _) rfl z_inX1 1 (by decide) hw rfl rfl hd kk
theorem pf_X1_count (hx : z_ok C cc own 0) {idx : Nat} (hw : Cond.fieldLink own idx RX1 "count" "I" ∈ z_ws) {v : Int} {K : zS → Option α} (hd : decode cc pc = .ok (.putfield idx, 3)) (h : z_put σ 60 1 v K = some r) (kk : ∀ σ1, K σ1 = some r → z_W C σ1 (pc + 3) lv st) : z_W C σ pc lv (.int (zi v) :: .ref (z_ad (z_g C) 60) :: st) := z_putf hx (z_lt0 (z_ok_sd hx) (by omega)) (fun f => [.ref (z_ad (z_g C) 61), .int (zi (f 1))]) (z_kb60 (z_ok_sd hx)) rfl z_inX1 tyX1 tyX1_ok nmX1 1 (by decide) hw rfl rfl rfl (fun _ => by simp) (fun f => by simp) rfl hd h kk
theorem gf_X2_levels (hx : z_ok C cc own 0) {idx : Nat} (hw : Cond.fieldLink own idx RX2 "levels" "[I" ∈ z_ws) {j : Nat} (hj : j < 6) (hd : decode cc pc = .ok (.getfield idx, 3)) (kk : z_W C σ (pc + 3) lv (.ref (z_ad (z_g C) (8 * j + 1)) :: st)) : z_W C σ pc lv (.ref (z_ad (z_g C) (8 * j)) :: st) := z_getf hx (z_lt0 (z_ok_sd hx) (by omega)) (z_ka0 (z_ok_sd hx) hj _) rfl z_inX2 0 (by decide) hw rfl rfl hd kk
theorem gf_X2_frames (hx : z_ok C cc own 0) {idx : Nat} (hw : Cond.fieldLink own idx RX2 "frames" "I" ∈ z_ws) {j : Nat} (hj : j < 6) (hd : decode cc pc = .ok (.getfield idx, 3)) (kk : z_W C σ (pc + 3) lv (.int (zi (σ (8 * j) 1)) :: st)) : z_W C σ pc lv (.ref (z_ad (z_g C) (8 * j)) :: st) := z_getf hx (z_lt0 (z_ok_sd hx) (by omega)) (z_ka0 (z_ok_sd hx) hj _) rfl z_inX2 1 (by decide) hw rfl rfl hd kk
theorem pf_X2_frames (hx : z_ok C cc own 0) {idx : Nat} (hw : Cond.fieldLink own idx RX2 "frames" "I" ∈ z_ws) {j : Nat} (hj : j < 6) {v : Int} {K : zS → Option α} (hd : decode cc pc = .ok (.putfield idx, 3)) (h : z_put σ (8 * j) 1 v K = some r) (kk : ∀ σ1, K σ1 = some r → z_W C σ1 (pc + 3) lv st) : z_W C σ pc lv (.int (zi v) :: .ref (z_ad (z_g C) (8 * j)) :: st) := z_putf hx (z_lt0 (z_ok_sd hx) (by omega)) (fun f => [.ref (z_ad (z_g C) (8 * j + 1)), .int (zi (f 1)), .ref (z_ad (z_g C) (8 * j + 2)), .ref (z_ad (z_g C) (8 * j + 3)), .ref (z_ad (z_g C) (8 * j + 4)), .ref (z_ad (z_g C) (8 * j + 5)), .ref (z_ad (z_g C) (8 * j + 6)), .int (zi (f 7)), .ref (z_ad (z_g C) (8 * j + 7))]) (z_ka0 (z_ok_sd hx) hj) rfl z_inX2 tyX2 tyX2_ok nmX2 1 (by decide) hw rfl rfl rfl (fun _ => by simp) (fun f => by simp) rfl hd h kk
theorem gf_X2_kinds (hx : z_ok C cc own 0) {idx : Nat} (hw : Cond.fieldLink own idx RX2 "kinds" "[I" ∈ z_ws) {j : Nat} (hj : j < 6) (hd : decode cc pc = .ok (.getfield idx, 3)) (kk : z_W C σ (pc + 3) lv (.ref (z_ad (z_g C) (8 * j + 2)) :: st)) : z_W C σ pc lv (.ref (z_ad (z_g C) (8 * j)) :: st) := z_getf hx (z_lt0 (z_ok_sd hx) (by omega)) (z_ka0 (z_ok_sd hx) hj _) rfl z_inX2 2 (by decide) hw rfl rfl hd kk
theorem gf_X2_firsts (hx : z_ok C cc own 0) {idx : Nat} (hw : Cond.fieldLink own idx RX2 "firsts" "[I" ∈ z_ws) {j : Nat} (hj : j < 6) (hd : decode cc pc = .ok (.getfield idx, 3)) (kk : z_W C σ (pc + 3) lv (.ref (z_ad (z_g C) (8 * j + 3)) :: st)) : z_W C σ pc lv (.ref (z_ad (z_g C) (8 * j)) :: st) := z_getf hx (z_lt0 (z_ok_sd hx) (by omega)) (z_ka0 (z_ok_sd hx) hj _) rfl z_inX2 3 (by decide) hw rfl rfl hd kk
theorem gf_X2_ends (hx : z_ok C cc own 0) {idx : Nat} (hw : Cond.fieldLink own idx RX2 "ends" "[I" ∈ z_ws) {j : Nat} (hj : j < 6) (hd : decode cc pc = .ok (.getfield idx, 3)) (kk : z_W C σ (pc + 3) lv (.ref (z_ad (z_g C) (8 * j + 4)) :: st)) : z_W C σ pc lv (.ref (z_ad (z_g C) (8 * j)) :: st) := z_getf hx (z_lt0 (z_ok_sd hx) (by omega)) (z_ka0 (z_ok_sd hx) hj _) rfl z_inX2 4 (by decide) hw rfl rfl hd kk
theorem gf_X2_doubts (hx : z_ok C cc own 0) {idx : Nat} (hw : Cond.fieldLink own idx RX2 "doubts" "[I" ∈ z_ws) {j : Nat} (hj : j < 6) (hd : decode cc pc = .ok (.getfield idx, 3)) (kk : z_W C σ (pc + 3) lv (.ref (z_ad (z_g C) (8 * j + 5)) :: st)) : z_W C σ pc lv (.ref (z_ad (z_g C) (8 * j)) :: st) := z_getf hx (z_lt0 (z_ok_sd hx) (by omega)) (z_ka0 (z_ok_sd hx) hj _) rfl z_inX2 5 (by decide) hw rfl rfl hd kk
theorem gf_X2_held (hx : z_ok C cc own 0) {idx : Nat} (hw : Cond.fieldLink own idx RX2 "held" "[Z" ∈ z_ws) {j : Nat} (hj : j < 6) (hd : decode cc pc = .ok (.getfield idx, 3)) (kk : z_W C σ (pc + 3) lv (.ref (z_ad (z_g C) (8 * j + 6)) :: st)) : z_W C σ pc lv (.ref (z_ad (z_g C) (8 * j)) :: st) := z_getf hx (z_lt0 (z_ok_sd hx) (by omega)) (z_ka0 (z_ok_sd hx) hj _) rfl z_inX2 6 (by decide) hw rfl rfl hd kk
theorem gf_X2_marks (hx : z_ok C cc own 0) {idx : Nat} (hw : Cond.fieldLink own idx RX2 "marks" "I" ∈ z_ws) {j : Nat} (hj : j < 6) (hd : decode cc pc = .ok (.getfield idx, 3)) (kk : z_W C σ (pc + 3) lv (.int (zi (σ (8 * j) 7)) :: st)) : z_W C σ pc lv (.ref (z_ad (z_g C) (8 * j)) :: st) := z_getf hx (z_lt0 (z_ok_sd hx) (by omega)) (z_ka0 (z_ok_sd hx) hj _) rfl z_inX2 7 (by decide) hw rfl rfl hd kk
theorem pf_X2_marks (hx : z_ok C cc own 0) {idx : Nat} (hw : Cond.fieldLink own idx RX2 "marks" "I" ∈ z_ws) {j : Nat} (hj : j < 6) {v : Int} {K : zS → Option α} (hd : decode cc pc = .ok (.putfield idx, 3)) (h : z_put σ (8 * j) 7 v K = some r) (kk : ∀ σ1, K σ1 = some r → z_W C σ1 (pc + 3) lv st) : z_W C σ pc lv (.int (zi v) :: .ref (z_ad (z_g C) (8 * j)) :: st) := z_putf hx (z_lt0 (z_ok_sd hx) (by omega)) (fun f => [.ref (z_ad (z_g C) (8 * j + 1)), .int (zi (f 1)), .ref (z_ad (z_g C) (8 * j + 2)), .ref (z_ad (z_g C) (8 * j + 3)), .ref (z_ad (z_g C) (8 * j + 4)), .ref (z_ad (z_g C) (8 * j + 5)), .ref (z_ad (z_g C) (8 * j + 6)), .int (zi (f 7)), .ref (z_ad (z_g C) (8 * j + 7))]) (z_ka0 (z_ok_sd hx) hj) rfl z_inX2 tyX2 tyX2_ok nmX2 7 (by decide) hw rfl rfl rfl (fun _ => by simp) (fun f => by simp) rfl hd h kk
theorem gf_X2_settings (hx : z_ok C cc own 0) {idx : Nat} (hw : Cond.fieldLink own idx RX2 "settings" "[I" ∈ z_ws) {j : Nat} (hj : j < 6) (hd : decode cc pc = .ok (.getfield idx, 3)) (kk : z_W C σ (pc + 3) lv (.ref (z_ad (z_g C) (8 * j + 7)) :: st)) : z_W C σ pc lv (.ref (z_ad (z_g C) (8 * j)) :: st) := z_getf hx (z_lt0 (z_ok_sd hx) (by omega)) (z_ka0 (z_ok_sd hx) hj _) rfl z_inX2 8 (by decide) hw rfl rfl hd kk
theorem gf_X3_sources (hx : z_ok C cc own 0) {idx : Nat} (hw : Cond.fieldLink own idx RX3 "sources" "[I" ∈ z_ws) (hd : decode cc pc = .ok (.getfield idx, 3)) (kk : z_W C σ (pc + 3) lv (.ref (z_ad (z_g C) 55) :: st)) : z_W C σ pc lv (.ref (z_ad (z_g C) 54) :: st) := z_getf hx (z_lt0 (z_ok_sd hx) (by omega)) (z_kb54 (z_ok_sd hx) _) rfl z_inX3 0 (by decide) hw rfl rfl hd kk
theorem gf_X3_levels (hx : z_ok C cc own 0) {idx : Nat} (hw : Cond.fieldLink own idx RX3 "levels" "[I" ∈ z_ws) (hd : decode cc pc = .ok (.getfield idx, 3)) (kk : z_W C σ (pc + 3) lv (.ref (z_ad (z_g C) 56) :: st)) : z_W C σ pc lv (.ref (z_ad (z_g C) 54) :: st) := z_getf hx (z_lt0 (z_ok_sd hx) (by omega)) (z_kb54 (z_ok_sd hx) _) rfl z_inX3 1 (by decide) hw rfl rfl hd kk
theorem gf_X3_count (hx : z_ok C cc own 0) {idx : Nat} (hw : Cond.fieldLink own idx RX3 "count" "I" ∈ z_ws) (hd : decode cc pc = .ok (.getfield idx, 3)) (kk : z_W C σ (pc + 3) lv (.int (zi (σ 54 2)) :: st)) : z_W C σ pc lv (.ref (z_ad (z_g C) 54) :: st) := z_getf hx (z_lt0 (z_ok_sd hx) (by omega)) (z_kb54 (z_ok_sd hx) _) rfl z_inX3 2 (by decide) hw rfl rfl hd kk
theorem pf_X3_count (hx : z_ok C cc own 0) {idx : Nat} (hw : Cond.fieldLink own idx RX3 "count" "I" ∈ z_ws) {v : Int} {K : zS → Option α} (hd : decode cc pc = .ok (.putfield idx, 3)) (h : z_put σ 54 2 v K = some r) (kk : ∀ σ1, K σ1 = some r → z_W C σ1 (pc + 3) lv st) : z_W C σ pc lv (.int (zi v) :: .ref (z_ad (z_g C) 54) :: st) := z_putf hx (z_lt0 (z_ok_sd hx) (by omega)) (fun f => [.ref (z_ad (z_g C) 55), .ref (z_ad (z_g C) 56), .int (zi (f 2)), .ref (z_ad (z_g C) 57), .int (zi (f 4)), .int (zi (f 5)), .ref (z_ad (z_g C) 58)]) (z_kb54 (z_ok_sd hx)) rfl z_inX3 tyX3 tyX3_ok nmX3 2 (by decide) hw rfl rfl rfl (fun _ => by simp) (fun f => by simp) rfl hd h kk
theorem gf_X3_room (hx : z_ok C cc own 0) {idx : Nat} (hw : Cond.fieldLink own idx RX3 "room" "[I" ∈ z_ws) (hd : decode cc pc = .ok (.getfield idx, 3)) (kk : z_W C σ (pc + 3) lv (.ref (z_ad (z_g C) 57) :: st)) : z_W C σ pc lv (.ref (z_ad (z_g C) 54) :: st) := z_getf hx (z_lt0 (z_ok_sd hx) (by omega)) (z_kb54 (z_ok_sd hx) _) rfl z_inX3 3 (by decide) hw rfl rfl hd kk
theorem gf_X3_roomFrames (hx : z_ok C cc own 0) {idx : Nat} (hw : Cond.fieldLink own idx RX3 "roomFrames" "I" ∈ z_ws) (hd : decode cc pc = .ok (.getfield idx, 3)) (kk : z_W C σ (pc + 3) lv (.int (zi (σ 54 4)) :: st)) : z_W C σ pc lv (.ref (z_ad (z_g C) 54) :: st) := z_getf hx (z_lt0 (z_ok_sd hx) (by omega)) (z_kb54 (z_ok_sd hx) _) rfl z_inX3 4 (by decide) hw rfl rfl hd kk
theorem pf_X3_roomFrames (hx : z_ok C cc own 0) {idx : Nat} (hw : Cond.fieldLink own idx RX3 "roomFrames" "I" ∈ z_ws) {v : Int} {K : zS → Option α} (hd : decode cc pc = .ok (.putfield idx, 3)) (h : z_put σ 54 4 v K = some r) (kk : ∀ σ1, K σ1 = some r → z_W C σ1 (pc + 3) lv st) : z_W C σ pc lv (.int (zi v) :: .ref (z_ad (z_g C) 54) :: st) := z_putf hx (z_lt0 (z_ok_sd hx) (by omega)) (fun f => [.ref (z_ad (z_g C) 55), .ref (z_ad (z_g C) 56), .int (zi (f 2)), .ref (z_ad (z_g C) 57), .int (zi (f 4)), .int (zi (f 5)), .ref (z_ad (z_g C) 58)]) (z_kb54 (z_ok_sd hx)) rfl z_inX3 tyX3 tyX3_ok nmX3 4 (by decide) hw rfl rfl rfl (fun _ => by simp) (fun f => by simp) rfl hd h kk
theorem gf_X3_roomPlace (hx : z_ok C cc own 0) {idx : Nat} (hw : Cond.fieldLink own idx RX3 "roomPlace" "I" ∈ z_ws) (hd : decode cc pc = .ok (.getfield idx, 3)) (kk : z_W C σ (pc + 3) lv (.int (zi (σ 54 5)) :: st)) : z_W C σ pc lv (.ref (z_ad (z_g C) 54) :: st) := z_getf hx (z_lt0 (z_ok_sd hx) (by omega)) (z_kb54 (z_ok_sd hx) _) rfl z_inX3 5 (by decide) hw rfl rfl hd kk
theorem pf_X3_roomPlace (hx : z_ok C cc own 0) {idx : Nat} (hw : Cond.fieldLink own idx RX3 "roomPlace" "I" ∈ z_ws) {v : Int} {K : zS → Option α} (hd : decode cc pc = .ok (.putfield idx, 3)) (h : z_put σ 54 5 v K = some r) (kk : ∀ σ1, K σ1 = some r → z_W C σ1 (pc + 3) lv st) : z_W C σ pc lv (.int (zi v) :: .ref (z_ad (z_g C) 54) :: st) := z_putf hx (z_lt0 (z_ok_sd hx) (by omega)) (fun f => [.ref (z_ad (z_g C) 55), .ref (z_ad (z_g C) 56), .int (zi (f 2)), .ref (z_ad (z_g C) 57), .int (zi (f 4)), .int (zi (f 5)), .ref (z_ad (z_g C) 58)]) (z_kb54 (z_ok_sd hx)) rfl z_inX3 tyX3 tyX3_ok nmX3 5 (by decide) hw rfl rfl rfl (fun _ => by simp) (fun f => by simp) rfl hd h kk
theorem gf_X3_noisy (hx : z_ok C cc own 0) {idx : Nat} (hw : Cond.fieldLink own idx RX3 "noisy" "[Z" ∈ z_ws) (hd : decode cc pc = .ok (.getfield idx, 3)) (kk : z_W C σ (pc + 3) lv (.ref (z_ad (z_g C) 58) :: st)) : z_W C σ pc lv (.ref (z_ad (z_g C) 54) :: st) := z_getf hx (z_lt0 (z_ok_sd hx) (by omega)) (z_kb54 (z_ok_sd hx) _) rfl z_inX3 6 (by decide) hw rfl rfl hd kk
theorem gf_X4_draft (hx : z_ok C cc own 0) {idx : Nat} (hw : Cond.fieldLink own idx RX4 "draft" "LSpeechCleaner$Recording;" ∈ z_ws) (hd : decode cc pc = .ok (.getfield idx, 3)) (kk : z_W C σ (pc + 3) lv (.ref (z_ad (z_g C) 40) :: st)) : z_W C σ pc lv (.ref (z_ad (z_g C) 59) :: st) := z_getf hx (z_lt0 (z_ok_sd hx) (by omega)) (z_kb59 (z_ok_sd hx) _) rfl z_inX4 0 (by decide) hw rfl rfl hd kk
theorem gf_X4_stage (hx : z_ok C cc own 0) {idx : Nat} (hw : Cond.fieldLink own idx RX4 "stage" "I" ∈ z_ws) (hd : decode cc pc = .ok (.getfield idx, 3)) (kk : z_W C σ (pc + 3) lv (.int (zi (σ 59 1)) :: st)) : z_W C σ pc lv (.ref (z_ad (z_g C) 59) :: st) := z_getf hx (z_lt0 (z_ok_sd hx) (by omega)) (z_kb59 (z_ok_sd hx) _) rfl z_inX4 1 (by decide) hw rfl rfl hd kk
theorem pf_X4_stage (hx : z_ok C cc own 0) {idx : Nat} (hw : Cond.fieldLink own idx RX4 "stage" "I" ∈ z_ws) {v : Int} {K : zS → Option α} (hd : decode cc pc = .ok (.putfield idx, 3)) (h : z_put σ 59 1 v K = some r) (kk : ∀ σ1, K σ1 = some r → z_W C σ1 (pc + 3) lv st) : z_W C σ pc lv (.int (zi v) :: .ref (z_ad (z_g C) 59) :: st) := z_putf hx (z_lt0 (z_ok_sd hx) (by omega)) (fun f => [.ref (z_ad (z_g C) 40), .int (zi (f 1)), .int (zi (f 2)), .int (zi (f 3)), .int (zi (f 4)), .int (zi (f 5)), .int (zi (f 6))]) (z_kb59 (z_ok_sd hx)) rfl z_inX4 tyX4 tyX4_ok nmX4 1 (by decide) hw rfl rfl rfl (fun _ => by simp) (fun f => by simp) rfl hd h kk
theorem gf_X4_kind (hx : z_ok C cc own 0) {idx : Nat} (hw : Cond.fieldLink own idx RX4 "kind" "I" ∈ z_ws) (hd : decode cc pc = .ok (.getfield idx, 3)) (kk : z_W C σ (pc + 3) lv (.int (zi (σ 59 2)) :: st)) : z_W C σ pc lv (.ref (z_ad (z_g C) 59) :: st) := z_getf hx (z_lt0 (z_ok_sd hx) (by omega)) (z_kb59 (z_ok_sd hx) _) rfl z_inX4 2 (by decide) hw rfl rfl hd kk
theorem pf_X4_kind (hx : z_ok C cc own 0) {idx : Nat} (hw : Cond.fieldLink own idx RX4 "kind" "I" ∈ z_ws) {v : Int} {K : zS → Option α} (hd : decode cc pc = .ok (.putfield idx, 3)) (h : z_put σ 59 2 v K = some r) (kk : ∀ σ1, K σ1 = some r → z_W C σ1 (pc + 3) lv st) : z_W C σ pc lv (.int (zi v) :: .ref (z_ad (z_g C) 59) :: st) := z_putf hx (z_lt0 (z_ok_sd hx) (by omega)) (fun f => [.ref (z_ad (z_g C) 40), .int (zi (f 1)), .int (zi (f 2)), .int (zi (f 3)), .int (zi (f 4)), .int (zi (f 5)), .int (zi (f 6))]) (z_kb59 (z_ok_sd hx)) rfl z_inX4 tyX4 tyX4_ok nmX4 2 (by decide) hw rfl rfl rfl (fun _ => by simp) (fun f => by simp) rfl hd h kk
theorem gf_X4_first (hx : z_ok C cc own 0) {idx : Nat} (hw : Cond.fieldLink own idx RX4 "first" "I" ∈ z_ws) (hd : decode cc pc = .ok (.getfield idx, 3)) (kk : z_W C σ (pc + 3) lv (.int (zi (σ 59 3)) :: st)) : z_W C σ pc lv (.ref (z_ad (z_g C) 59) :: st) := z_getf hx (z_lt0 (z_ok_sd hx) (by omega)) (z_kb59 (z_ok_sd hx) _) rfl z_inX4 3 (by decide) hw rfl rfl hd kk
theorem pf_X4_first (hx : z_ok C cc own 0) {idx : Nat} (hw : Cond.fieldLink own idx RX4 "first" "I" ∈ z_ws) {v : Int} {K : zS → Option α} (hd : decode cc pc = .ok (.putfield idx, 3)) (h : z_put σ 59 3 v K = some r) (kk : ∀ σ1, K σ1 = some r → z_W C σ1 (pc + 3) lv st) : z_W C σ pc lv (.int (zi v) :: .ref (z_ad (z_g C) 59) :: st) := z_putf hx (z_lt0 (z_ok_sd hx) (by omega)) (fun f => [.ref (z_ad (z_g C) 40), .int (zi (f 1)), .int (zi (f 2)), .int (zi (f 3)), .int (zi (f 4)), .int (zi (f 5)), .int (zi (f 6))]) (z_kb59 (z_ok_sd hx)) rfl z_inX4 tyX4 tyX4_ok nmX4 3 (by decide) hw rfl rfl rfl (fun _ => by simp) (fun f => by simp) rfl hd h kk
theorem gf_X4_doubt (hx : z_ok C cc own 0) {idx : Nat} (hw : Cond.fieldLink own idx RX4 "doubt" "I" ∈ z_ws) (hd : decode cc pc = .ok (.getfield idx, 3)) (kk : z_W C σ (pc + 3) lv (.int (zi (σ 59 4)) :: st)) : z_W C σ pc lv (.ref (z_ad (z_g C) 59) :: st) := z_getf hx (z_lt0 (z_ok_sd hx) (by omega)) (z_kb59 (z_ok_sd hx) _) rfl z_inX4 4 (by decide) hw rfl rfl hd kk
theorem pf_X4_doubt (hx : z_ok C cc own 0) {idx : Nat} (hw : Cond.fieldLink own idx RX4 "doubt" "I" ∈ z_ws) {v : Int} {K : zS → Option α} (hd : decode cc pc = .ok (.putfield idx, 3)) (h : z_put σ 59 4 v K = some r) (kk : ∀ σ1, K σ1 = some r → z_W C σ1 (pc + 3) lv st) : z_W C σ pc lv (.int (zi v) :: .ref (z_ad (z_g C) 59) :: st) := z_putf hx (z_lt0 (z_ok_sd hx) (by omega)) (fun f => [.ref (z_ad (z_g C) 40), .int (zi (f 1)), .int (zi (f 2)), .int (zi (f 3)), .int (zi (f 4)), .int (zi (f 5)), .int (zi (f 6))]) (z_kb59 (z_ok_sd hx)) rfl z_inX4 tyX4 tyX4_ok nmX4 4 (by decide) hw rfl rfl rfl (fun _ => by simp) (fun f => by simp) rfl hd h kk
theorem gf_X4_doubtDigits (hx : z_ok C cc own 0) {idx : Nat} (hw : Cond.fieldLink own idx RX4 "doubtDigits" "I" ∈ z_ws) (hd : decode cc pc = .ok (.getfield idx, 3)) (kk : z_W C σ (pc + 3) lv (.int (zi (σ 59 5)) :: st)) : z_W C σ pc lv (.ref (z_ad (z_g C) 59) :: st) := z_getf hx (z_lt0 (z_ok_sd hx) (by omega)) (z_kb59 (z_ok_sd hx) _) rfl z_inX4 5 (by decide) hw rfl rfl hd kk
theorem pf_X4_doubtDigits (hx : z_ok C cc own 0) {idx : Nat} (hw : Cond.fieldLink own idx RX4 "doubtDigits" "I" ∈ z_ws) {v : Int} {K : zS → Option α} (hd : decode cc pc = .ok (.putfield idx, 3)) (h : z_put σ 59 5 v K = some r) (kk : ∀ σ1, K σ1 = some r → z_W C σ1 (pc + 3) lv st) : z_W C σ pc lv (.int (zi v) :: .ref (z_ad (z_g C) 59) :: st) := z_putf hx (z_lt0 (z_ok_sd hx) (by omega)) (fun f => [.ref (z_ad (z_g C) 40), .int (zi (f 1)), .int (zi (f 2)), .int (zi (f 3)), .int (zi (f 4)), .int (zi (f 5)), .int (zi (f 6))]) (z_kb59 (z_ok_sd hx)) rfl z_inX4 tyX4 tyX4_ok nmX4 5 (by decide) hw rfl rfl rfl (fun _ => by simp) (fun f => by simp) rfl hd h kk
theorem gf_X4_wrongDoubtPlace (hx : z_ok C cc own 0) {idx : Nat} (hw : Cond.fieldLink own idx RX4 "wrongDoubtPlace" "I" ∈ z_ws) (hd : decode cc pc = .ok (.getfield idx, 3)) (kk : z_W C σ (pc + 3) lv (.int (zi (σ 59 6)) :: st)) : z_W C σ pc lv (.ref (z_ad (z_g C) 59) :: st) := z_getf hx (z_lt0 (z_ok_sd hx) (by omega)) (z_kb59 (z_ok_sd hx) _) rfl z_inX4 6 (by decide) hw rfl rfl hd kk
theorem pf_X4_wrongDoubtPlace (hx : z_ok C cc own 0) {idx : Nat} (hw : Cond.fieldLink own idx RX4 "wrongDoubtPlace" "I" ∈ z_ws) {v : Int} {K : zS → Option α} (hd : decode cc pc = .ok (.putfield idx, 3)) (h : z_put σ 59 6 v K = some r) (kk : ∀ σ1, K σ1 = some r → z_W C σ1 (pc + 3) lv st) : z_W C σ pc lv (.int (zi v) :: .ref (z_ad (z_g C) 59) :: st) := z_putf hx (z_lt0 (z_ok_sd hx) (by omega)) (fun f => [.ref (z_ad (z_g C) 40), .int (zi (f 1)), .int (zi (f 2)), .int (zi (f 3)), .int (zi (f 4)), .int (zi (f 5)), .int (zi (f 6))]) (z_kb59 (z_ok_sd hx)) rfl z_inX4 tyX4 tyX4_ok nmX4 6 (by decide) hw rfl rfl rfl (fun _ => by simp) (fun f => by simp) rfl hd h kk
theorem gf_X5_buffer (hx : z_ok C cc own 0) {idx : Nat} (hw : Cond.fieldLink own idx RX5 "buffer" "[I" ∈ z_ws) (hd : decode cc pc = .ok (.getfield idx, 3)) (kk : z_W C σ (pc + 3) lv (.ref (z_ad (z_g C) 63) :: st)) : z_W C σ pc lv (.ref (z_ad (z_g C) 62) :: st) := z_getf hx (z_lt0 (z_ok_sd hx) (by omega)) (z_kb62 (z_ok_sd hx) _) rfl z_inX5 0 (by decide) hw rfl rfl hd kk
theorem gf_X5_characters (hx : z_ok C cc own 0) {idx : Nat} (hw : Cond.fieldLink own idx RX5 "characters" "I" ∈ z_ws) (hd : decode cc pc = .ok (.getfield idx, 3)) (kk : z_W C σ (pc + 3) lv (.int (zi (σ 62 1)) :: st)) : z_W C σ pc lv (.ref (z_ad (z_g C) 62) :: st) := z_getf hx (z_lt0 (z_ok_sd hx) (by omega)) (z_kb62 (z_ok_sd hx) _) rfl z_inX5 1 (by decide) hw rfl rfl hd kk
theorem pf_X5_characters (hx : z_ok C cc own 0) {idx : Nat} (hw : Cond.fieldLink own idx RX5 "characters" "I" ∈ z_ws) {v : Int} {K : zS → Option α} (hd : decode cc pc = .ok (.putfield idx, 3)) (h : z_put σ 62 1 v K = some r) (kk : ∀ σ1, K σ1 = some r → z_W C σ1 (pc + 3) lv st) : z_W C σ pc lv (.int (zi v) :: .ref (z_ad (z_g C) 62) :: st) := z_putf hx (z_lt0 (z_ok_sd hx) (by omega)) (fun f => [.ref (z_ad (z_g C) 63), .int (zi (f 1)), .ref (z_ad (z_g C) 0), .ref (z_ad (z_g C) 60), .ref (z_ad (z_g C) 59), .ref (z_ad (z_g C) 48), .ref (z_ad (z_g C) 54)]) (z_kb62 (z_ok_sd hx)) rfl z_inX5 tyX5 tyX5_ok nmX5 1 (by decide) hw rfl rfl rfl (fun _ => by simp) (fun f => by simp) rfl hd h kk
theorem gf_X5_recording (hx : z_ok C cc own 0) {idx : Nat} (hw : Cond.fieldLink own idx RX5 "recording" "LSpeechCleaner$Recording;" ∈ z_ws) (hd : decode cc pc = .ok (.getfield idx, 3)) (kk : z_W C σ (pc + 3) lv (.ref (z_ad (z_g C) 0) :: st)) : z_W C σ pc lv (.ref (z_ad (z_g C) 62) :: st) := z_getf hx (z_lt0 (z_ok_sd hx) (by omega)) (z_kb62 (z_ok_sd hx) _) rfl z_inX5 2 (by decide) hw rfl rfl hd kk
theorem gf_X5_history (hx : z_ok C cc own 0) {idx : Nat} (hw : Cond.fieldLink own idx RX5 "history" "LSpeechCleaner$History;" ∈ z_ws) (hd : decode cc pc = .ok (.getfield idx, 3)) (kk : z_W C σ (pc + 3) lv (.ref (z_ad (z_g C) 60) :: st)) : z_W C σ pc lv (.ref (z_ad (z_g C) 62) :: st) := z_getf hx (z_lt0 (z_ok_sd hx) (by omega)) (z_kb62 (z_ok_sd hx) _) rfl z_inX5 3 (by decide) hw rfl rfl hd kk
theorem gf_X5_reader (hx : z_ok C cc own 0) {idx : Nat} (hw : Cond.fieldLink own idx RX5 "reader" "LSpeechCleaner$TextReader;" ∈ z_ws) (hd : decode cc pc = .ok (.getfield idx, 3)) (kk : z_W C σ (pc + 3) lv (.ref (z_ad (z_g C) 59) :: st)) : z_W C σ pc lv (.ref (z_ad (z_g C) 62) :: st) := z_getf hx (z_lt0 (z_ok_sd hx) (by omega)) (z_kb62 (z_ok_sd hx) _) rfl z_inX5 4 (by decide) hw rfl rfl hd kk
theorem gf_X5_cutList (hx : z_ok C cc own 0) {idx : Nat} (hw : Cond.fieldLink own idx RX5 "cutList" "LSpeechCleaner$CutList;" ∈ z_ws) (hd : decode cc pc = .ok (.getfield idx, 3)) (kk : z_W C σ (pc + 3) lv (.ref (z_ad (z_g C) 48) :: st)) : z_W C σ pc lv (.ref (z_ad (z_g C) 62) :: st) := z_getf hx (z_lt0 (z_ok_sd hx) (by omega)) (z_kb62 (z_ok_sd hx) _) rfl z_inX5 5 (by decide) hw rfl rfl hd kk
theorem gf_X5_result (hx : z_ok C cc own 0) {idx : Nat} (hw : Cond.fieldLink own idx RX5 "result" "LSpeechCleaner$Result;" ∈ z_ws) (hd : decode cc pc = .ok (.getfield idx, 3)) (kk : z_W C σ (pc + 3) lv (.ref (z_ad (z_g C) 54) :: st)) : z_W C σ pc lv (.ref (z_ad (z_g C) 62) :: st) := z_getf hx (z_lt0 (z_ok_sd hx) (by omega)) (z_kb62 (z_ok_sd hx) _) rfl z_inX5 6 (by decide) hw rfl rfl hd kk
theorem z_aald (hx : z_ok C cc own 0) {i : Int} {A : Option α} (hd : decode cc pc = .ok (.aaload, 1)) (h : (if (0 ≤ i ∧ i < 4) ∧ 0 ≤ σ 61 i ∧ σ 61 i < 6 then A else none) = some r) (kk : A = some r → (σ 61 i).toNat < 6 → z_W C σ (pc + 1) lv (.ref (z_ad (z_g C) (8 * (σ 61 i).toNat)) :: st)) : z_W C σ pc lv (.int (zi i) :: .ref (z_ad (z_g C) 61) :: st) := by
  obtain ⟨⟨⟨i0, i1⟩, v0, v1⟩, h⟩ := z_gd h
  have kk := kk h (by omega)
  have hsd := z_ok_sd hx
  have hk : 61 < z_N (z_g C) := z_lt0 hsd (by decide)
  have hm := z_kb61 hsd (σ 61)
  obtain ⟨p, l, e, R, s, m, args, below, meth, c, Q, cells, slots, A, H0, nL, g⟩ := C
  intro H locs ls hP hS hl
  have he := z_wd_get (mk := z_mk g) (ad := g.2.1) (σ := σ) hk
  rw [hm] at he
  obtain ⟨h1, h2, h3, h4, h5, h6, h7, h8, h9, h10, h11, h12⟩ := hx
  refine va_aldq h1 h2 h6 hP 61 2 he rfl (zi_in i0 (by omega) (by omega)) hd ?_
  rw [zi_clamp i0 (by omega), Int.toNat_of_nonneg i0]
  exact kk H locs ls hP hS hl
theorem z_aast (hx : z_ok C cc own 0) {i : Int} {j : Nat} (hj : j < 6) {K : zS → Option α} (hd : decode cc pc = .ok (.aastore, 1)) (h : (if 0 ≤ i ∧ i < 4 then z_put σ 61 i (j : Nat) K else none) = some r) (kk : ∀ σ1, K σ1 = some r → z_W C σ1 (pc + 1) lv st) : z_W C σ pc lv (.ref (z_ad (z_g C) (8 * j)) :: .int (zi i) :: .ref (z_ad (z_g C) 61) :: st) := by
  obtain ⟨⟨i0, i1⟩, h⟩ := z_gd h
  have kk := kk _ h
  have hsd := z_ok_sd hx
  have hk : 61 < z_N (z_g C) := z_lt0 hsd (by decide)
  have hkj : 8 * j < z_N (z_g C) := z_lt0 hsd (by omega)
  have hm := z_kb61 hsd
  have hmj := z_ka0 hsd hj (σ (8 * j))
  obtain ⟨p, l, e, R, s, m, args, below, meth, c, Q, cells, slots, A, H0, nL, g⟩ := C
  intro H locs ls hP hS hl
  have he := z_wd_get (mk := z_mk g) (ad := g.2.1) (σ := σ) hk
  rw [hm] at he
  have hej := z_wd_get (mk := z_mk g) (ad := g.2.1) (σ := σ) hkj
  rw [hmj] at hej
  obtain ⟨h1, h2, h3, h4, h5, h6, h7, h8, h9, h10, h11, h12⟩ := hx
  refine va_astq h1 h2 h6 hP (h7 σ) hS 61 2 (8 * j) 2 (r := (RX2, TX2, 9)) he rfl hej rfl (zi_in i0 (by omega) (by omega)) hd (fun H1 locs1 hP1 hD1 hS1 => ?_)
  refine kk H1 locs1 ls ?_ hS1 hl
  have e0 : va_up (fun i : Nat => some (g.2.1 (8 * (σ 61 (i : Int)).toNat))) (zi i).toNatClampNeg (some (g.2.1 (8 * j))) = fun q : Nat => some (g.2.1 (8 * ((fun b : Int => if b = i then (j : Int) else σ 61 b) (q : Int)).toNat)) := by
    funext q
    rw [zi_clamp i0 (by omega)]
    simp only [va_up]
    by_cases h : q = i.toNat
    · rw [if_pos h, if_pos (by omega), Int.toNat_natCast]
    · rw [if_neg h, if_neg (by omega)]
  have e1 := z_wd_set (mk := z_mk g) (N := z_N g) (ad := g.2.1) (σ := σ) (τ := z_up σ 61 i (j : Nat)) (k := 61) (e := .inl (g.2.2.2.2.1, 4, .inr (.inr (.inr (.inr (va_up (fun i : Nat => some (g.2.1 (8 * (σ 61 (i : Int)).toNat))) (zi i).toNatClampNeg (some (g.2.1 (8 * j))))))))) (by rw [z_up_row, e0]; exact (hm (fun b : Int => if b = i then (j : Int) else σ 61 b)).symm) (fun a ha => z_up_ne σ 61 i (j : Nat) a ha)
  show va_P g.2.2.2.2.2 vwCl (z_wd (z_mk g) (z_N g) g.2.1 (z_up σ 61 i (j : Nat))) H1
  rw [← e1]
  exact hP1
end
end
section
/-! walks, by program: ['X2'] -/
theorem dX2_copyMark_0 : decode cX2_copyMark 0 = .ok (.aload_n 0, 1) := by decide +kernel
theorem dX2_copyMark_1 : decode cX2_copyMark 1 = .ok (.getfield 19, 3) := by decide +kernel
theorem dX2_copyMark_4 : decode cX2_copyMark 4 = .ok (.iload_n 3, 1) := by decide +kernel
theorem dX2_copyMark_5 : decode cX2_copyMark 5 = .ok (.aload_n 1, 1) := by decide +kernel
theorem dX2_copyMark_6 : decode cX2_copyMark 6 = .ok (.getfield 19, 3) := by decide +kernel
theorem dX2_copyMark_9 : decode cX2_copyMark 9 = .ok (.iload_n 2, 1) := by decide +kernel
theorem dX2_copyMark_10 : decode cX2_copyMark 10 = .ok (.iaload, 1) := by decide +kernel
theorem dX2_copyMark_11 : decode cX2_copyMark 11 = .ok (.iastore, 1) := by decide +kernel
theorem dX2_copyMark_12 : decode cX2_copyMark 12 = .ok (.aload_n 0, 1) := by decide +kernel
theorem dX2_copyMark_13 : decode cX2_copyMark 13 = .ok (.getfield 22, 3) := by decide +kernel
theorem dX2_copyMark_16 : decode cX2_copyMark 16 = .ok (.iload_n 3, 1) := by decide +kernel
theorem dX2_copyMark_17 : decode cX2_copyMark 17 = .ok (.aload_n 1, 1) := by decide +kernel
theorem dX2_copyMark_18 : decode cX2_copyMark 18 = .ok (.getfield 22, 3) := by decide +kernel
theorem dX2_copyMark_21 : decode cX2_copyMark 21 = .ok (.iload_n 2, 1) := by decide +kernel
theorem dX2_copyMark_22 : decode cX2_copyMark 22 = .ok (.iaload, 1) := by decide +kernel
theorem dX2_copyMark_23 : decode cX2_copyMark 23 = .ok (.iastore, 1) := by decide +kernel
theorem dX2_copyMark_24 : decode cX2_copyMark 24 = .ok (.aload_n 0, 1) := by decide +kernel
theorem dX2_copyMark_25 : decode cX2_copyMark 25 = .ok (.getfield 25, 3) := by decide +kernel
theorem dX2_copyMark_28 : decode cX2_copyMark 28 = .ok (.iload_n 3, 1) := by decide +kernel
theorem dX2_copyMark_29 : decode cX2_copyMark 29 = .ok (.aload_n 1, 1) := by decide +kernel
theorem dX2_copyMark_30 : decode cX2_copyMark 30 = .ok (.getfield 25, 3) := by decide +kernel
theorem dX2_copyMark_33 : decode cX2_copyMark 33 = .ok (.iload_n 2, 1) := by decide +kernel
theorem dX2_copyMark_34 : decode cX2_copyMark 34 = .ok (.iaload, 1) := by decide +kernel
theorem dX2_copyMark_35 : decode cX2_copyMark 35 = .ok (.iastore, 1) := by decide +kernel
theorem dX2_copyMark_36 : decode cX2_copyMark 36 = .ok (.aload_n 0, 1) := by decide +kernel
theorem dX2_copyMark_37 : decode cX2_copyMark 37 = .ok (.getfield 28, 3) := by decide +kernel
theorem dX2_copyMark_40 : decode cX2_copyMark 40 = .ok (.iload_n 3, 1) := by decide +kernel
theorem dX2_copyMark_41 : decode cX2_copyMark 41 = .ok (.aload_n 1, 1) := by decide +kernel
theorem dX2_copyMark_42 : decode cX2_copyMark 42 = .ok (.getfield 28, 3) := by decide +kernel
theorem dX2_copyMark_45 : decode cX2_copyMark 45 = .ok (.iload_n 2, 1) := by decide +kernel
theorem dX2_copyMark_46 : decode cX2_copyMark 46 = .ok (.iaload, 1) := by decide +kernel
theorem dX2_copyMark_47 : decode cX2_copyMark 47 = .ok (.iastore, 1) := by decide +kernel
theorem dX2_copyMark_48 : decode cX2_copyMark 48 = .ok (.aload_n 0, 1) := by decide +kernel
theorem dX2_copyMark_49 : decode cX2_copyMark 49 = .ok (.getfield 31, 3) := by decide +kernel
theorem dX2_copyMark_52 : decode cX2_copyMark 52 = .ok (.iload_n 3, 1) := by decide +kernel
theorem dX2_copyMark_53 : decode cX2_copyMark 53 = .ok (.aload_n 1, 1) := by decide +kernel
theorem dX2_copyMark_54 : decode cX2_copyMark 54 = .ok (.getfield 31, 3) := by decide +kernel
theorem dX2_copyMark_57 : decode cX2_copyMark 57 = .ok (.iload_n 2, 1) := by decide +kernel
theorem dX2_copyMark_58 : decode cX2_copyMark 58 = .ok (.baload, 1) := by decide +kernel
theorem dX2_copyMark_59 : decode cX2_copyMark 59 = .ok (.bastore, 1) := by decide +kernel
theorem dX2_copyMark_60 : decode cX2_copyMark 60 = .ok (.return_, 1) := by decide +kernel
abbrev rm_X2_copyMark : Room := { frames := 0, cells := 0, slots := 0, locals := 0 }
theorem w_X2_copyMark {C : zC} (hx : z_ok C cX2_copyMark RX2 0) (hn : z_nL C = 4) (hR : z_R C = rm_X2_copyMark) {rr : Unit × zS} (hq : z_fin C none (z_QV (z_g C) rr.2)) {j : Nat} (hj : j < 6) {k : Nat} (hk : k < 6) (σ : zS) (x2 : Int) (x3 : Int) (h : f_X2_copyMark j k σ x2 x3 = some rr) : z_W C σ 0 [(0, .ref (z_ad (z_g C) (8 * j))), (1, .ref (z_ad (z_g C) (8 * k))), (2, .int (zi x2)), (3, .int (zi x3))] [] := by
  unfold f_X2_copyMark at h
  refine z_aload_n hx 0 dX2_copyMark_0 rfl ?_
  refine gf_X2_kinds hx wf_X2_19 hj dX2_copyMark_1 ?_
  refine z_iload_n hx 3 dX2_copyMark_4 rfl ?_
  refine z_aload_n hx 1 dX2_copyMark_5 rfl ?_
  refine gf_X2_kinds hx wf_X2_19 hk dX2_copyMark_6 ?_
  refine z_iload_n hx 2 dX2_copyMark_9 rfl ?_
  refine z_iald hx (n := 20) (z_lt0 (z_ok_sd hx) (by have := hk; omega)) (z_ka2 (z_ok_sd hx) hk _) rfl (by decide) dX2_copyMark_10 h (fun h => ?_)
  refine z_iast hx (n := 20) (z_lt0 (z_ok_sd hx) (by have := hj; omega)) (z_ka2 (z_ok_sd hx) hj) rfl (by decide) dX2_copyMark_11 h (fun σ1 h => ?_)
  refine z_aload_n hx 0 dX2_copyMark_12 rfl ?_
  refine gf_X2_firsts hx wf_X2_22 hj dX2_copyMark_13 ?_
  refine z_iload_n hx 3 dX2_copyMark_16 rfl ?_
  refine z_aload_n hx 1 dX2_copyMark_17 rfl ?_
  refine gf_X2_firsts hx wf_X2_22 hk dX2_copyMark_18 ?_
  refine z_iload_n hx 2 dX2_copyMark_21 rfl ?_
  refine z_iald hx (n := 20) (z_lt0 (z_ok_sd hx) (by have := hk; omega)) (z_ka3 (z_ok_sd hx) hk _) rfl (by decide) dX2_copyMark_22 h (fun h => ?_)
  refine z_iast hx (n := 20) (z_lt0 (z_ok_sd hx) (by have := hj; omega)) (z_ka3 (z_ok_sd hx) hj) rfl (by decide) dX2_copyMark_23 h (fun σ2 h => ?_)
  refine z_aload_n hx 0 dX2_copyMark_24 rfl ?_
  refine gf_X2_ends hx wf_X2_25 hj dX2_copyMark_25 ?_
  refine z_iload_n hx 3 dX2_copyMark_28 rfl ?_
  refine z_aload_n hx 1 dX2_copyMark_29 rfl ?_
  refine gf_X2_ends hx wf_X2_25 hk dX2_copyMark_30 ?_
  refine z_iload_n hx 2 dX2_copyMark_33 rfl ?_
  refine z_iald hx (n := 20) (z_lt0 (z_ok_sd hx) (by have := hk; omega)) (z_ka4 (z_ok_sd hx) hk _) rfl (by decide) dX2_copyMark_34 h (fun h => ?_)
  refine z_iast hx (n := 20) (z_lt0 (z_ok_sd hx) (by have := hj; omega)) (z_ka4 (z_ok_sd hx) hj) rfl (by decide) dX2_copyMark_35 h (fun σ3 h => ?_)
  refine z_aload_n hx 0 dX2_copyMark_36 rfl ?_
  refine gf_X2_doubts hx wf_X2_28 hj dX2_copyMark_37 ?_
  refine z_iload_n hx 3 dX2_copyMark_40 rfl ?_
  refine z_aload_n hx 1 dX2_copyMark_41 rfl ?_
  refine gf_X2_doubts hx wf_X2_28 hk dX2_copyMark_42 ?_
  refine z_iload_n hx 2 dX2_copyMark_45 rfl ?_
  refine z_iald hx (n := 20) (z_lt0 (z_ok_sd hx) (by have := hk; omega)) (z_ka5 (z_ok_sd hx) hk _) rfl (by decide) dX2_copyMark_46 h (fun h => ?_)
  refine z_iast hx (n := 20) (z_lt0 (z_ok_sd hx) (by have := hj; omega)) (z_ka5 (z_ok_sd hx) hj) rfl (by decide) dX2_copyMark_47 h (fun σ4 h => ?_)
  refine z_aload_n hx 0 dX2_copyMark_48 rfl ?_
  refine gf_X2_held hx wf_X2_31 hj dX2_copyMark_49 ?_
  refine z_iload_n hx 3 dX2_copyMark_52 rfl ?_
  refine z_aload_n hx 1 dX2_copyMark_53 rfl ?_
  refine gf_X2_held hx wf_X2_31 hk dX2_copyMark_54 ?_
  refine z_iload_n hx 2 dX2_copyMark_57 rfl ?_
  refine z_zald hx (n := 20) (z_lt0 (z_ok_sd hx) (by have := hk; omega)) (z_ka6 (z_ok_sd hx) hk _) rfl (by decide) dX2_copyMark_58 h (fun h => ?_)
  refine z_zast hx (n := 20) (z_lt0 (z_ok_sd hx) (by have := hj; omega)) (z_ka6 (z_ok_sd hx) hj) rfl (by decide) dX2_copyMark_59 h (fun σ5 h => ?_)
  cases h
  exact z_vret hx hq dX2_copyMark_60

theorem met_X2_copyMark (l : Launch) (g : zG) (hg : g.1 = 0) {j : Nat} (hj : j < 6) {k : Nat} (hk : k < 6) {σ : zS} {x2 : Int} {x3 : Int} {rr : Unit × zS} (h : f_X2_copyMark j k σ x2 x3 = some rr) : z_Met l yX2_copyMark cX2_copyMark 4 none rm_X2_copyMark g [.ref (z_ad (g) (8 * j)), .ref (z_ad (g) (8 * k)), .int (zi x2), .int (zi x3)] σ (z_QV g rr.2) := by
  refine z_enter (own := RX2) (sd := 0) (lv0 := [(0, .ref (z_ad (g) (8 * j))), (1, .ref (z_ad (g) (8 * k))), (2, .int (zi x2)), (3, .int (zi x3))]) (by decide) rfl (Nat.le_of_ble_eq_true rfl) hg rfl (fun C hx hl hgC hR hn hq => ?_)
  subst hgC
  refine z_sub [0, 1, 2, 3] rfl ?_
  exact w_X2_copyMark hx hn hR hq hj hk σ x2 x3 h
theorem dX2_copySound_0 : decode cX2_copySound 0 = .ok (.aload_n 0, 1) := by decide +kernel
theorem dX2_copySound_1 : decode cX2_copySound 1 = .ok (.aload_n 1, 1) := by decide +kernel
theorem dX2_copySound_2 : decode cX2_copySound 2 = .ok (.getfield 15, 3) := by decide +kernel
theorem dX2_copySound_5 : decode cX2_copySound 5 = .ok (.putfield 15, 3) := by decide +kernel
theorem dX2_copySound_8 : decode cX2_copySound 8 = .ok (.aload_n 1, 1) := by decide +kernel
theorem dX2_copySound_9 : decode cX2_copySound 9 = .ok (.getfield 9, 3) := by decide +kernel
theorem dX2_copySound_12 : decode cX2_copySound 12 = .ok (.iconst 0, 1) := by decide +kernel
theorem dX2_copySound_13 : decode cX2_copySound 13 = .ok (.aload_n 0, 1) := by decide +kernel
theorem dX2_copySound_14 : decode cX2_copySound 14 = .ok (.getfield 9, 3) := by decide +kernel
theorem dX2_copySound_17 : decode cX2_copySound 17 = .ok (.iconst 0, 1) := by decide +kernel
theorem dX2_copySound_18 : decode cX2_copySound 18 = .ok (.sipush 200, 3) := by decide +kernel
theorem dX2_copySound_21 : decode cX2_copySound 21 = .ok (.invokestatic 44, 3) := by decide +kernel
theorem dX2_copySound_24 : decode cX2_copySound 24 = .ok (.aload_n 0, 1) := by decide +kernel
theorem dX2_copySound_25 : decode cX2_copySound 25 = .ok (.aload_n 1, 1) := by decide +kernel
theorem dX2_copySound_26 : decode cX2_copySound 26 = .ok (.getfield 35, 3) := by decide +kernel
theorem dX2_copySound_29 : decode cX2_copySound 29 = .ok (.putfield 35, 3) := by decide +kernel
theorem dX2_copySound_32 : decode cX2_copySound 32 = .ok (.iconst 0, 1) := by decide +kernel
theorem dX2_copySound_33 : decode cX2_copySound 33 = .ok (.istore_n 2, 1) := by decide +kernel
theorem dX2_copySound_34 : decode cX2_copySound 34 = .ok (.iload_n 2, 1) := by decide +kernel
theorem dX2_copySound_35 : decode cX2_copySound 35 = .ok (.aload_n 0, 1) := by decide +kernel
theorem dX2_copySound_36 : decode cX2_copySound 36 = .ok (.getfield 35, 3) := by decide +kernel
theorem dX2_copySound_39 : decode cX2_copySound 39 = .ok (.if_icmp .ge 16, 3) := by decide +kernel
theorem dX2_copySound_42 : decode cX2_copySound 42 = .ok (.aload_n 0, 1) := by decide +kernel
theorem dX2_copySound_43 : decode cX2_copySound 43 = .ok (.aload_n 1, 1) := by decide +kernel
theorem dX2_copySound_44 : decode cX2_copySound 44 = .ok (.iload_n 2, 1) := by decide +kernel
theorem dX2_copySound_45 : decode cX2_copySound 45 = .ok (.iload_n 2, 1) := by decide +kernel
theorem dX2_copySound_46 : decode cX2_copySound 46 = .ok (.invokevirtual 54, 3) := by decide +kernel
theorem dX2_copySound_49 : decode cX2_copySound 49 = .ok (.iinc 2 1, 3) := by decide +kernel
theorem dX2_copySound_52 : decode cX2_copySound 52 = .ok (.goto (-18), 3) := by decide +kernel
theorem dX2_copySound_55 : decode cX2_copySound 55 = .ok (.return_, 1) := by decide +kernel
abbrev rm_X2_copySound : Room := { frames := 1, cells := 0, slots := 0, locals := 60 }
theorem w_X2_copySound_b34 {C : zC} (hx : z_ok C cX2_copySound RX2 0) (hn : z_nL C = 3) (hR : z_R C = rm_X2_copySound) {rr : Unit × zS} (hq : z_fin C none (z_QV (z_g C) rr.2)) {j : Nat} (hj : j < 6) {k : Nat} (hk : k < 6) {K34 : zS → Int → Option (Unit × zS)} (hK34 : ∀ (σ : zS) (x2 : Int) , K34 σ x2 = some rr → z_W C σ 34 [(0, .ref (z_ad (z_g C) (8 * j))), (1, .ref (z_ad (z_g C) (8 * k))), (2, .int (zi x2))] []) (σ : zS) (x2 : Int) (h : f_X2_copySound_b34 j k K34 σ x2 = some rr) : z_W C σ 34 [(0, .ref (z_ad (z_g C) (8 * j))), (1, .ref (z_ad (z_g C) (8 * k))), (2, .int (zi x2))] [] := by
  unfold f_X2_copySound_b34 at h
  refine z_iload_n hx 2 dX2_copySound_34 rfl ?_
  refine z_aload_n hx 0 dX2_copySound_35 rfl ?_
  refine gf_X2_marks hx wf_X2_35 hj dX2_copySound_36 ?_
  refine z_icmp_ge hx (tgt := 55) dX2_copySound_39 (by decide) h (fun h => h) (fun hc h => ?_) (fun hc h => ?_)
  · cases h
    exact z_vret hx hq dX2_copySound_55
  · refine z_aload_n hx 0 dX2_copySound_42 rfl ?_
    refine z_aload_n hx 1 dX2_copySound_43 rfl ?_
    refine z_iload_n hx 2 dX2_copySound_44 rfl ?_
    refine z_iload_n hx 2 dX2_copySound_45 rfl ?_
    obtain ⟨⟨⟩, σ1, h46, h⟩ := z_bind_some h
    refine z_callv hx (As := [.ref (z_ad (z_g C) (8 * k)), .int (zi x2), .int (zi x2)]) (k := 8 * j) (met_X2_copyMark (z_l C) (z_g C) (z_ok_sd hx) hj hk h46) (z_lt0 (z_ok_sd hx) (by have := hj; omega)) (z_ka0 (z_ok_sd hx) hj _) rfl rfl cv_X2_54 (z_room hR ⟨Nat.le_of_ble_eq_true rfl, Nat.le_of_ble_eq_true rfl⟩) ⟨rfl, rfl⟩ rfl rfl (Nat.le_of_ble_eq_true rfl) dX2_copySound_46 ?_
    refine z_iinc hx hn 2 (lv' := [(2, .int (zi (x2 + 1))), (0, .ref (z_ad (z_g C) (8 * j))), (1, .ref (z_ad (z_g C) (8 * k)))]) dX2_copySound_49 rfl (by decide) rfl ?_
    refine z_goto hx (tgt := 34) dX2_copySound_52 (by decide) ?_
    refine z_sub [1, 2, 0] rfl ?_
    exact hK34 σ1 (x2 + 1) h

theorem w_X2_copySound_l34 {C : zC} (hx : z_ok C cX2_copySound RX2 0) (hn : z_nL C = 3) (hR : z_R C = rm_X2_copySound) {rr : Unit × zS} (hq : z_fin C none (z_QV (z_g C) rr.2)) {j : Nat} (hj : j < 6) {k : Nat} (hk : k < 6) : ∀ (n : Nat) (σ : zS) (x2 : Int) (_ : f_X2_copySound_l34 j k n σ x2 = some rr), z_W C σ 34 [(0, .ref (z_ad (z_g C) (8 * j))), (1, .ref (z_ad (z_g C) (8 * k))), (2, .int (zi x2))] [] := by
  intro n
  induction n with
  | zero => intro σ x2 h; cases h
  | succ n ih =>
    intro σ x2 h
    exact w_X2_copySound_b34 hx hn hR hq hj hk ih σ x2 h
theorem w_X2_copySound {C : zC} (hx : z_ok C cX2_copySound RX2 0) (hn : z_nL C = 3) (hR : z_R C = rm_X2_copySound) {rr : Unit × zS} (hq : z_fin C none (z_QV (z_g C) rr.2)) {j : Nat} (hj : j < 6) {k : Nat} (hk : k < 6) (σ : zS) (h : f_X2_copySound j k σ = some rr) : z_W C σ 0 [(0, .ref (z_ad (z_g C) (8 * j))), (1, .ref (z_ad (z_g C) (8 * k)))] [] := by
  unfold f_X2_copySound at h
  refine z_aload_n hx 0 dX2_copySound_0 rfl ?_
  refine z_aload_n hx 1 dX2_copySound_1 rfl ?_
  refine gf_X2_frames hx wf_X2_15 hk dX2_copySound_2 ?_
  refine pf_X2_frames hx wf_X2_15 hj dX2_copySound_5 h (fun σ1 h => ?_)
  refine z_aload_n hx 1 dX2_copySound_8 rfl ?_
  refine gf_X2_levels hx wf_X2_9 hk dX2_copySound_9 ?_
  refine z_iconst hx (n := 0) dX2_copySound_12 ?_
  refine z_aload_n hx 0 dX2_copySound_13 rfl ?_
  refine gf_X2_levels hx wf_X2_9 hj dX2_copySound_14 ?_
  refine z_iconst hx (n := 0) dX2_copySound_17 ?_
  refine z_sipush hx (n := 200) dX2_copySound_18 rfl ?_
  refine z_copyi hx (n1 := 200) (n2 := 200) (z_lt0 (z_ok_sd hx) (by have := hk; omega)) (z_lt0 (z_ok_sd hx) (by have := hj; omega)) (z_ka1 (z_ok_sd hx) hk _) (z_ka1 (z_ok_sd hx) hj) rfl rfl (by decide) (by decide) wm_X2_44 wna_ac wst_ac wi_J10 (z_room hR ⟨Nat.le_of_ble_eq_true rfl, Nat.le_of_ble_eq_true rfl⟩) (Nat.le_of_ble_eq_true rfl) dX2_copySound_21 h (fun σ2 h => ?_)
  refine z_aload_n hx 0 dX2_copySound_24 rfl ?_
  refine z_aload_n hx 1 dX2_copySound_25 rfl ?_
  refine gf_X2_marks hx wf_X2_35 hk dX2_copySound_26 ?_
  refine pf_X2_marks hx wf_X2_35 hj dX2_copySound_29 h (fun σ3 h => ?_)
  refine z_iconst hx (n := 0) dX2_copySound_32 ?_
  refine z_istore_n hx hn (lv' := [(2, .int (zi 0)), (0, .ref (z_ad (z_g C) (8 * j))), (1, .ref (z_ad (z_g C) (8 * k)))]) dX2_copySound_33 (by decide) rfl ?_
  refine z_sub [1, 2, 0] rfl ?_
  exact w_X2_copySound_l34 hx hn hR hq hj hk z_fuel σ3 0 h

theorem met_X2_copySound (l : Launch) (g : zG) (hg : g.1 = 0) {j : Nat} (hj : j < 6) {k : Nat} (hk : k < 6) {σ : zS} {rr : Unit × zS} (h : f_X2_copySound j k σ = some rr) : z_Met l yX2_copySound cX2_copySound 3 none rm_X2_copySound g [.ref (z_ad (g) (8 * j)), .ref (z_ad (g) (8 * k))] σ (z_QV g rr.2) := by
  refine z_enter (own := RX2) (sd := 0) (lv0 := [(0, .ref (z_ad (g) (8 * j))), (1, .ref (z_ad (g) (8 * k)))]) (by decide) rfl (Nat.le_of_ble_eq_true rfl) hg rfl (fun C hx hl hgC hR hn hq => ?_)
  subst hgC
  refine z_sub [0, 1] rfl ?_
  exact w_X2_copySound hx hn hR hq hj hk σ h
theorem dX2_copyAll_0 : decode cX2_copyAll 0 = .ok (.aload_n 0, 1) := by decide +kernel
theorem dX2_copyAll_1 : decode cX2_copyAll 1 = .ok (.aload_n 1, 1) := by decide +kernel
theorem dX2_copyAll_2 : decode cX2_copyAll 2 = .ok (.invokevirtual 50, 3) := by decide +kernel
theorem dX2_copyAll_5 : decode cX2_copyAll 5 = .ok (.aload_n 1, 1) := by decide +kernel
theorem dX2_copyAll_6 : decode cX2_copyAll 6 = .ok (.getfield 38, 3) := by decide +kernel
theorem dX2_copyAll_9 : decode cX2_copyAll 9 = .ok (.iconst 0, 1) := by decide +kernel
theorem dX2_copyAll_10 : decode cX2_copyAll 10 = .ok (.aload_n 0, 1) := by decide +kernel
theorem dX2_copyAll_11 : decode cX2_copyAll 11 = .ok (.getfield 38, 3) := by decide +kernel
theorem dX2_copyAll_14 : decode cX2_copyAll 14 = .ok (.iconst 0, 1) := by decide +kernel
theorem dX2_copyAll_15 : decode cX2_copyAll 15 = .ok (.bipush 7, 2) := by decide +kernel
theorem dX2_copyAll_17 : decode cX2_copyAll 17 = .ok (.invokestatic 44, 3) := by decide +kernel
theorem dX2_copyAll_20 : decode cX2_copyAll 20 = .ok (.return_, 1) := by decide +kernel
abbrev rm_X2_copyAll : Room := { frames := 2, cells := 0, slots := 0, locals := 82 }
theorem w_X2_copyAll {C : zC} (hx : z_ok C cX2_copyAll RX2 0) (hn : z_nL C = 2) (hR : z_R C = rm_X2_copyAll) {rr : Unit × zS} (hq : z_fin C none (z_QV (z_g C) rr.2)) {j : Nat} (hj : j < 6) {k : Nat} (hk : k < 6) (σ : zS) (h : f_X2_copyAll j k σ = some rr) : z_W C σ 0 [(0, .ref (z_ad (z_g C) (8 * j))), (1, .ref (z_ad (z_g C) (8 * k)))] [] := by
  unfold f_X2_copyAll at h
  refine z_aload_n hx 0 dX2_copyAll_0 rfl ?_
  refine z_aload_n hx 1 dX2_copyAll_1 rfl ?_
  obtain ⟨⟨⟩, σ1, h2, h⟩ := z_bind_some h
  refine z_callv hx (As := [.ref (z_ad (z_g C) (8 * k))]) (k := 8 * j) (met_X2_copySound (z_l C) (z_g C) (z_ok_sd hx) hj hk h2) (z_lt0 (z_ok_sd hx) (by have := hj; omega)) (z_ka0 (z_ok_sd hx) hj _) rfl rfl cv_X2_50 (z_room hR ⟨Nat.le_of_ble_eq_true rfl, Nat.le_of_ble_eq_true rfl⟩) ⟨rfl, rfl⟩ rfl rfl (Nat.le_of_ble_eq_true rfl) dX2_copyAll_2 ?_
  refine z_aload_n hx 1 dX2_copyAll_5 rfl ?_
  refine gf_X2_settings hx wf_X2_38 hk dX2_copyAll_6 ?_
  refine z_iconst hx (n := 0) dX2_copyAll_9 ?_
  refine z_aload_n hx 0 dX2_copyAll_10 rfl ?_
  refine gf_X2_settings hx wf_X2_38 hj dX2_copyAll_11 ?_
  refine z_iconst hx (n := 0) dX2_copyAll_14 ?_
  refine z_bipush hx (n := 7) dX2_copyAll_15 rfl ?_
  refine z_copyi hx (n1 := 7) (n2 := 7) (z_lt0 (z_ok_sd hx) (by have := hk; omega)) (z_lt0 (z_ok_sd hx) (by have := hj; omega)) (z_ka7 (z_ok_sd hx) hk _) (z_ka7 (z_ok_sd hx) hj) rfl rfl (by decide) (by decide) wm_X2_44 wna_ac wst_ac wi_J10 (z_room hR ⟨Nat.le_of_ble_eq_true rfl, Nat.le_of_ble_eq_true rfl⟩) (Nat.le_of_ble_eq_true rfl) dX2_copyAll_17 h (fun σ2 h => ?_)
  cases h
  exact z_vret hx hq dX2_copyAll_20

theorem met_X2_copyAll (l : Launch) (g : zG) (hg : g.1 = 0) {j : Nat} (hj : j < 6) {k : Nat} (hk : k < 6) {σ : zS} {rr : Unit × zS} (h : f_X2_copyAll j k σ = some rr) : z_Met l yX2_copyAll cX2_copyAll 2 none rm_X2_copyAll g [.ref (z_ad (g) (8 * j)), .ref (z_ad (g) (8 * k))] σ (z_QV g rr.2) := by
  refine z_enter (own := RX2) (sd := 0) (lv0 := [(0, .ref (z_ad (g) (8 * j))), (1, .ref (z_ad (g) (8 * k)))]) (by decide) rfl (Nat.le_of_ble_eq_true rfl) hg rfl (fun C hx hl hgC hR hn hq => ?_)
  subst hgC
  refine z_sub [0, 1] rfl ?_
  exact w_X2_copyAll hx hn hR hq hj hk σ h
theorem dX2_addFrame_0 : decode cX2_addFrame 0 = .ok (.aload_n 0, 1) := by decide +kernel
theorem dX2_addFrame_1 : decode cX2_addFrame 1 = .ok (.getfield 15, 3) := by decide +kernel
theorem dX2_addFrame_4 : decode cX2_addFrame 4 = .ok (.sipush 200, 3) := by decide +kernel
theorem dX2_addFrame_7 : decode cX2_addFrame 7 = .ok (.if_icmp .ge 23, 3) := by decide +kernel
theorem dX2_addFrame_10 : decode cX2_addFrame 10 = .ok (.aload_n 0, 1) := by decide +kernel
theorem dX2_addFrame_11 : decode cX2_addFrame 11 = .ok (.getfield 9, 3) := by decide +kernel
theorem dX2_addFrame_14 : decode cX2_addFrame 14 = .ok (.aload_n 0, 1) := by decide +kernel
theorem dX2_addFrame_15 : decode cX2_addFrame 15 = .ok (.getfield 15, 3) := by decide +kernel
theorem dX2_addFrame_18 : decode cX2_addFrame 18 = .ok (.iload_n 1, 1) := by decide +kernel
theorem dX2_addFrame_19 : decode cX2_addFrame 19 = .ok (.iastore, 1) := by decide +kernel
theorem dX2_addFrame_20 : decode cX2_addFrame 20 = .ok (.aload_n 0, 1) := by decide +kernel
theorem dX2_addFrame_21 : decode cX2_addFrame 21 = .ok (.dup, 1) := by decide +kernel
theorem dX2_addFrame_22 : decode cX2_addFrame 22 = .ok (.getfield 15, 3) := by decide +kernel
theorem dX2_addFrame_25 : decode cX2_addFrame 25 = .ok (.iconst 1, 1) := by decide +kernel
theorem dX2_addFrame_26 : decode cX2_addFrame 26 = .ok (.iadd, 1) := by decide +kernel
theorem dX2_addFrame_27 : decode cX2_addFrame 27 = .ok (.putfield 15, 3) := by decide +kernel
theorem dX2_addFrame_30 : decode cX2_addFrame 30 = .ok (.return_, 1) := by decide +kernel
abbrev rm_X2_addFrame : Room := { frames := 0, cells := 0, slots := 0, locals := 0 }
theorem w_X2_addFrame_b30 {C : zC} (hx : z_ok C cX2_addFrame RX2 0) (hn : z_nL C = 2) (hR : z_R C = rm_X2_addFrame) {rr : Unit × zS} (hq : z_fin C none (z_QV (z_g C) rr.2)) {j : Nat} (hj : j < 6) (σ : zS) (h : f_X2_addFrame_b30 j σ = some rr) : z_W C σ 30 [] [] := by
  unfold f_X2_addFrame_b30 at h
  cases h
  exact z_vret hx hq dX2_addFrame_30

theorem w_X2_addFrame {C : zC} (hx : z_ok C cX2_addFrame RX2 0) (hn : z_nL C = 2) (hR : z_R C = rm_X2_addFrame) {rr : Unit × zS} (hq : z_fin C none (z_QV (z_g C) rr.2)) {j : Nat} (hj : j < 6) (σ : zS) (x1 : Int) (h : f_X2_addFrame j σ x1 = some rr) : z_W C σ 0 [(0, .ref (z_ad (z_g C) (8 * j))), (1, .int (zi x1))] [] := by
  unfold f_X2_addFrame at h
  refine z_aload_n hx 0 dX2_addFrame_0 rfl ?_
  refine gf_X2_frames hx wf_X2_15 hj dX2_addFrame_1 ?_
  refine z_sipush hx (n := 200) dX2_addFrame_4 rfl ?_
  refine z_icmp_ge hx (tgt := 30) dX2_addFrame_7 (by decide) h (fun h => ⟨h, by decide⟩) (fun hc h => ?_) (fun hc h => ?_)
  · refine z_sub [] rfl ?_
    exact w_X2_addFrame_b30 hx hn hR hq hj σ h
  · refine z_aload_n hx 0 dX2_addFrame_10 rfl ?_
    refine gf_X2_levels hx wf_X2_9 hj dX2_addFrame_11 ?_
    refine z_aload_n hx 0 dX2_addFrame_14 rfl ?_
    refine gf_X2_frames hx wf_X2_15 hj dX2_addFrame_15 ?_
    refine z_iload_n hx 1 dX2_addFrame_18 rfl ?_
    refine z_iast hx (n := 200) (z_lt0 (z_ok_sd hx) (by have := hj; omega)) (z_ka1 (z_ok_sd hx) hj) rfl (by decide) dX2_addFrame_19 h (fun σ1 h => ?_)
    refine z_aload_n hx 0 dX2_addFrame_20 rfl ?_
    refine z_dup hx dX2_addFrame_21 rfl ?_
    refine gf_X2_frames hx wf_X2_15 hj dX2_addFrame_22 ?_
    refine z_iconst hx (n := 1) dX2_addFrame_25 ?_
    refine z_iadd hx dX2_addFrame_26 ?_
    refine pf_X2_frames hx wf_X2_15 hj dX2_addFrame_27 h (fun σ2 h => ?_)
    refine z_sub [] rfl ?_
    exact w_X2_addFrame_b30 hx hn hR hq hj σ2 h

theorem met_X2_addFrame (l : Launch) (g : zG) (hg : g.1 = 0) {j : Nat} (hj : j < 6) {σ : zS} {x1 : Int} {rr : Unit × zS} (h : f_X2_addFrame j σ x1 = some rr) : z_Met l yX2_addFrame cX2_addFrame 2 none rm_X2_addFrame g [.ref (z_ad (g) (8 * j)), .int (zi x1)] σ (z_QV g rr.2) := by
  refine z_enter (own := RX2) (sd := 0) (lv0 := [(0, .ref (z_ad (g) (8 * j))), (1, .int (zi x1))]) (by decide) rfl (Nat.le_of_ble_eq_true rfl) hg rfl (fun C hx hl hgC hR hn hq => ?_)
  subst hgC
  refine z_sub [0, 1] rfl ?_
  exact w_X2_addFrame hx hn hR hq hj σ x1 h
theorem dX2_hasFrame_0 : decode cX2_hasFrame 0 = .ok (.iload_n 1, 1) := by decide +kernel
theorem dX2_hasFrame_1 : decode cX2_hasFrame 1 = .ok (.ifCond .lt 15, 3) := by decide +kernel
theorem dX2_hasFrame_4 : decode cX2_hasFrame 4 = .ok (.iload_n 1, 1) := by decide +kernel
theorem dX2_hasFrame_5 : decode cX2_hasFrame 5 = .ok (.aload_n 0, 1) := by decide +kernel
theorem dX2_hasFrame_6 : decode cX2_hasFrame 6 = .ok (.getfield 15, 3) := by decide +kernel
theorem dX2_hasFrame_9 : decode cX2_hasFrame 9 = .ok (.if_icmp .ge 7, 3) := by decide +kernel
theorem dX2_hasFrame_12 : decode cX2_hasFrame 12 = .ok (.iconst 1, 1) := by decide +kernel
theorem dX2_hasFrame_13 : decode cX2_hasFrame 13 = .ok (.goto 4, 3) := by decide +kernel
theorem dX2_hasFrame_16 : decode cX2_hasFrame 16 = .ok (.iconst 0, 1) := by decide +kernel
theorem dX2_hasFrame_17 : decode cX2_hasFrame 17 = .ok (.ireturn, 1) := by decide +kernel
abbrev rm_X2_hasFrame : Room := { frames := 0, cells := 0, slots := 0, locals := 0 }
theorem w_X2_hasFrame_b17 {C : zC} (hx : z_ok C cX2_hasFrame RX2 0) (hn : z_nL C = 2) (hR : z_R C = rm_X2_hasFrame) {rr : Int × zS} (hq : z_fin C (some .boolean) (z_QI (z_g C) rr.1 rr.2)) {j : Nat} (hj : j < 6) (σ : zS) (s0 : Int) (h : f_X2_hasFrame_b17 j σ s0 = some rr) : z_W C σ 17 [] [.int (zi s0)] := by
  unfold f_X2_hasFrame_b17 at h
  obtain ⟨hz, h⟩ := z_gd h
  cases h
  exact z_zret hx hz hq dX2_hasFrame_17

theorem w_X2_hasFrame_b16 {C : zC} (hx : z_ok C cX2_hasFrame RX2 0) (hn : z_nL C = 2) (hR : z_R C = rm_X2_hasFrame) {rr : Int × zS} (hq : z_fin C (some .boolean) (z_QI (z_g C) rr.1 rr.2)) {j : Nat} (hj : j < 6) (σ : zS) (h : f_X2_hasFrame_b16 j σ = some rr) : z_W C σ 16 [] [] := by
  unfold f_X2_hasFrame_b16 at h
  refine z_iconst hx (n := 0) dX2_hasFrame_16 ?_
  refine z_sub [] rfl ?_
  exact w_X2_hasFrame_b17 hx hn hR hq hj σ 0 h

theorem w_X2_hasFrame {C : zC} (hx : z_ok C cX2_hasFrame RX2 0) (hn : z_nL C = 2) (hR : z_R C = rm_X2_hasFrame) {rr : Int × zS} (hq : z_fin C (some .boolean) (z_QI (z_g C) rr.1 rr.2)) {j : Nat} (hj : j < 6) (σ : zS) (x1 : Int) (h : f_X2_hasFrame j σ x1 = some rr) : z_W C σ 0 [(0, .ref (z_ad (z_g C) (8 * j))), (1, .int (zi x1))] [] := by
  unfold f_X2_hasFrame at h
  refine z_iload_n hx 1 dX2_hasFrame_0 rfl ?_
  refine z_if_lt hx (tgt := 16) dX2_hasFrame_1 (by decide) h (fun h => h) (fun hc h => ?_) (fun hc h => ?_)
  · refine z_sub [] rfl ?_
    exact w_X2_hasFrame_b16 hx hn hR hq hj σ h
  · refine z_iload_n hx 1 dX2_hasFrame_4 rfl ?_
    refine z_aload_n hx 0 dX2_hasFrame_5 rfl ?_
    refine gf_X2_frames hx wf_X2_15 hj dX2_hasFrame_6 ?_
    refine z_icmp_ge hx (tgt := 16) dX2_hasFrame_9 (by decide) h (fun h => h) (fun hc h => ?_) (fun hc h => ?_)
    · refine z_sub [] rfl ?_
      exact w_X2_hasFrame_b16 hx hn hR hq hj σ h
    · refine z_iconst hx (n := 1) dX2_hasFrame_12 ?_
      refine z_goto hx (tgt := 17) dX2_hasFrame_13 (by decide) ?_
      refine z_sub [] rfl ?_
      exact w_X2_hasFrame_b17 hx hn hR hq hj σ 1 h

theorem met_X2_hasFrame (l : Launch) (g : zG) (hg : g.1 = 0) {j : Nat} (hj : j < 6) {σ : zS} {x1 : Int} {rr : Int × zS} (h : f_X2_hasFrame j σ x1 = some rr) : z_Met l yX2_hasFrame cX2_hasFrame 2 (some .boolean) rm_X2_hasFrame g [.ref (z_ad (g) (8 * j)), .int (zi x1)] σ (z_QI g rr.1 rr.2) := by
  refine z_enter (own := RX2) (sd := 0) (lv0 := [(0, .ref (z_ad (g) (8 * j))), (1, .int (zi x1))]) (by decide) rfl (Nat.le_of_ble_eq_true rfl) hg rfl (fun C hx hl hgC hR hn hq => ?_)
  subst hgC
  refine z_sub [0, 1] rfl ?_
  exact w_X2_hasFrame hx hn hR hq hj σ x1 h
theorem dX2_levelAt_0 : decode cX2_levelAt 0 = .ok (.iload_n 1, 1) := by decide +kernel
theorem dX2_levelAt_1 : decode cX2_levelAt 1 = .ok (.ifCond .lt 20, 3) := by decide +kernel
theorem dX2_levelAt_4 : decode cX2_levelAt 4 = .ok (.iload_n 1, 1) := by decide +kernel
theorem dX2_levelAt_5 : decode cX2_levelAt 5 = .ok (.aload_n 0, 1) := by decide +kernel
theorem dX2_levelAt_6 : decode cX2_levelAt 6 = .ok (.getfield 15, 3) := by decide +kernel
theorem dX2_levelAt_9 : decode cX2_levelAt 9 = .ok (.if_icmp .ge 12, 3) := by decide +kernel
theorem dX2_levelAt_12 : decode cX2_levelAt 12 = .ok (.aload_n 0, 1) := by decide +kernel
theorem dX2_levelAt_13 : decode cX2_levelAt 13 = .ok (.getfield 9, 3) := by decide +kernel
theorem dX2_levelAt_16 : decode cX2_levelAt 16 = .ok (.iload_n 1, 1) := by decide +kernel
theorem dX2_levelAt_17 : decode cX2_levelAt 17 = .ok (.iaload, 1) := by decide +kernel
theorem dX2_levelAt_18 : decode cX2_levelAt 18 = .ok (.goto 4, 3) := by decide +kernel
theorem dX2_levelAt_21 : decode cX2_levelAt 21 = .ok (.iconst 0, 1) := by decide +kernel
theorem dX2_levelAt_22 : decode cX2_levelAt 22 = .ok (.ireturn, 1) := by decide +kernel
abbrev rm_X2_levelAt : Room := { frames := 0, cells := 0, slots := 0, locals := 0 }
theorem w_X2_levelAt_b22 {C : zC} (hx : z_ok C cX2_levelAt RX2 0) (hn : z_nL C = 2) (hR : z_R C = rm_X2_levelAt) {rr : Int × zS} (hq : z_fin C (some .int) (z_QI (z_g C) rr.1 rr.2)) {j : Nat} (hj : j < 6) (σ : zS) (s0 : Int) (h : f_X2_levelAt_b22 j σ s0 = some rr) : z_W C σ 22 [] [.int (zi s0)] := by
  unfold f_X2_levelAt_b22 at h
  cases h
  exact z_iret hx hq dX2_levelAt_22

theorem w_X2_levelAt_b21 {C : zC} (hx : z_ok C cX2_levelAt RX2 0) (hn : z_nL C = 2) (hR : z_R C = rm_X2_levelAt) {rr : Int × zS} (hq : z_fin C (some .int) (z_QI (z_g C) rr.1 rr.2)) {j : Nat} (hj : j < 6) (σ : zS) (h : f_X2_levelAt_b21 j σ = some rr) : z_W C σ 21 [] [] := by
  unfold f_X2_levelAt_b21 at h
  refine z_iconst hx (n := 0) dX2_levelAt_21 ?_
  refine z_sub [] rfl ?_
  exact w_X2_levelAt_b22 hx hn hR hq hj σ 0 h

theorem w_X2_levelAt {C : zC} (hx : z_ok C cX2_levelAt RX2 0) (hn : z_nL C = 2) (hR : z_R C = rm_X2_levelAt) {rr : Int × zS} (hq : z_fin C (some .int) (z_QI (z_g C) rr.1 rr.2)) {j : Nat} (hj : j < 6) (σ : zS) (x1 : Int) (h : f_X2_levelAt j σ x1 = some rr) : z_W C σ 0 [(0, .ref (z_ad (z_g C) (8 * j))), (1, .int (zi x1))] [] := by
  unfold f_X2_levelAt at h
  refine z_iload_n hx 1 dX2_levelAt_0 rfl ?_
  refine z_if_lt hx (tgt := 21) dX2_levelAt_1 (by decide) h (fun h => h) (fun hc h => ?_) (fun hc h => ?_)
  · refine z_sub [] rfl ?_
    exact w_X2_levelAt_b21 hx hn hR hq hj σ h
  · refine z_iload_n hx 1 dX2_levelAt_4 rfl ?_
    refine z_aload_n hx 0 dX2_levelAt_5 rfl ?_
    refine gf_X2_frames hx wf_X2_15 hj dX2_levelAt_6 ?_
    refine z_icmp_ge hx (tgt := 21) dX2_levelAt_9 (by decide) h (fun h => h) (fun hc h => ?_) (fun hc h => ?_)
    · refine z_sub [] rfl ?_
      exact w_X2_levelAt_b21 hx hn hR hq hj σ h
    · refine z_aload_n hx 0 dX2_levelAt_12 rfl ?_
      refine gf_X2_levels hx wf_X2_9 hj dX2_levelAt_13 ?_
      refine z_iload_n hx 1 dX2_levelAt_16 rfl ?_
      refine z_iald hx (n := 200) (z_lt0 (z_ok_sd hx) (by have := hj; omega)) (z_ka1 (z_ok_sd hx) hj _) rfl (by decide) dX2_levelAt_17 h (fun h => ?_)
      refine z_goto hx (tgt := 22) dX2_levelAt_18 (by decide) ?_
      refine z_sub [] rfl ?_
      exact w_X2_levelAt_b22 hx hn hR hq hj σ (σ (8 * j + 1) x1) h

theorem met_X2_levelAt (l : Launch) (g : zG) (hg : g.1 = 0) {j : Nat} (hj : j < 6) {σ : zS} {x1 : Int} {rr : Int × zS} (h : f_X2_levelAt j σ x1 = some rr) : z_Met l yX2_levelAt cX2_levelAt 2 (some .int) rm_X2_levelAt g [.ref (z_ad (g) (8 * j)), .int (zi x1)] σ (z_QI g rr.1 rr.2) := by
  refine z_enter (own := RX2) (sd := 0) (lv0 := [(0, .ref (z_ad (g) (8 * j))), (1, .int (zi x1))]) (by decide) rfl (Nat.le_of_ble_eq_true rfl) hg rfl (fun C hx hl hgC hR hn hq => ?_)
  subst hgC
  refine z_sub [0, 1] rfl ?_
  exact w_X2_levelAt hx hn hR hq hj σ x1 h
theorem dX2_hasMark_0 : decode cX2_hasMark 0 = .ok (.iload_n 1, 1) := by decide +kernel
theorem dX2_hasMark_1 : decode cX2_hasMark 1 = .ok (.ifCond .lt 15, 3) := by decide +kernel
theorem dX2_hasMark_4 : decode cX2_hasMark 4 = .ok (.iload_n 1, 1) := by decide +kernel
theorem dX2_hasMark_5 : decode cX2_hasMark 5 = .ok (.aload_n 0, 1) := by decide +kernel
theorem dX2_hasMark_6 : decode cX2_hasMark 6 = .ok (.getfield 35, 3) := by decide +kernel
theorem dX2_hasMark_9 : decode cX2_hasMark 9 = .ok (.if_icmp .ge 7, 3) := by decide +kernel
theorem dX2_hasMark_12 : decode cX2_hasMark 12 = .ok (.iconst 1, 1) := by decide +kernel
theorem dX2_hasMark_13 : decode cX2_hasMark 13 = .ok (.goto 4, 3) := by decide +kernel
theorem dX2_hasMark_16 : decode cX2_hasMark 16 = .ok (.iconst 0, 1) := by decide +kernel
theorem dX2_hasMark_17 : decode cX2_hasMark 17 = .ok (.ireturn, 1) := by decide +kernel
abbrev rm_X2_hasMark : Room := { frames := 0, cells := 0, slots := 0, locals := 0 }
theorem w_X2_hasMark_b17 {C : zC} (hx : z_ok C cX2_hasMark RX2 0) (hn : z_nL C = 2) (hR : z_R C = rm_X2_hasMark) {rr : Int × zS} (hq : z_fin C (some .boolean) (z_QI (z_g C) rr.1 rr.2)) {j : Nat} (hj : j < 6) (σ : zS) (s0 : Int) (h : f_X2_hasMark_b17 j σ s0 = some rr) : z_W C σ 17 [] [.int (zi s0)] := by
  unfold f_X2_hasMark_b17 at h
  obtain ⟨hz, h⟩ := z_gd h
  cases h
  exact z_zret hx hz hq dX2_hasMark_17

theorem w_X2_hasMark_b16 {C : zC} (hx : z_ok C cX2_hasMark RX2 0) (hn : z_nL C = 2) (hR : z_R C = rm_X2_hasMark) {rr : Int × zS} (hq : z_fin C (some .boolean) (z_QI (z_g C) rr.1 rr.2)) {j : Nat} (hj : j < 6) (σ : zS) (h : f_X2_hasMark_b16 j σ = some rr) : z_W C σ 16 [] [] := by
  unfold f_X2_hasMark_b16 at h
  refine z_iconst hx (n := 0) dX2_hasMark_16 ?_
  refine z_sub [] rfl ?_
  exact w_X2_hasMark_b17 hx hn hR hq hj σ 0 h

theorem w_X2_hasMark {C : zC} (hx : z_ok C cX2_hasMark RX2 0) (hn : z_nL C = 2) (hR : z_R C = rm_X2_hasMark) {rr : Int × zS} (hq : z_fin C (some .boolean) (z_QI (z_g C) rr.1 rr.2)) {j : Nat} (hj : j < 6) (σ : zS) (x1 : Int) (h : f_X2_hasMark j σ x1 = some rr) : z_W C σ 0 [(0, .ref (z_ad (z_g C) (8 * j))), (1, .int (zi x1))] [] := by
  unfold f_X2_hasMark at h
  refine z_iload_n hx 1 dX2_hasMark_0 rfl ?_
  refine z_if_lt hx (tgt := 16) dX2_hasMark_1 (by decide) h (fun h => h) (fun hc h => ?_) (fun hc h => ?_)
  · refine z_sub [] rfl ?_
    exact w_X2_hasMark_b16 hx hn hR hq hj σ h
  · refine z_iload_n hx 1 dX2_hasMark_4 rfl ?_
    refine z_aload_n hx 0 dX2_hasMark_5 rfl ?_
    refine gf_X2_marks hx wf_X2_35 hj dX2_hasMark_6 ?_
    refine z_icmp_ge hx (tgt := 16) dX2_hasMark_9 (by decide) h (fun h => h) (fun hc h => ?_) (fun hc h => ?_)
    · refine z_sub [] rfl ?_
      exact w_X2_hasMark_b16 hx hn hR hq hj σ h
    · refine z_iconst hx (n := 1) dX2_hasMark_12 ?_
      refine z_goto hx (tgt := 17) dX2_hasMark_13 (by decide) ?_
      refine z_sub [] rfl ?_
      exact w_X2_hasMark_b17 hx hn hR hq hj σ 1 h

theorem met_X2_hasMark (l : Launch) (g : zG) (hg : g.1 = 0) {j : Nat} (hj : j < 6) {σ : zS} {x1 : Int} {rr : Int × zS} (h : f_X2_hasMark j σ x1 = some rr) : z_Met l yX2_hasMark cX2_hasMark 2 (some .boolean) rm_X2_hasMark g [.ref (z_ad (g) (8 * j)), .int (zi x1)] σ (z_QI g rr.1 rr.2) := by
  refine z_enter (own := RX2) (sd := 0) (lv0 := [(0, .ref (z_ad (g) (8 * j))), (1, .int (zi x1))]) (by decide) rfl (Nat.le_of_ble_eq_true rfl) hg rfl (fun C hx hl hgC hR hn hq => ?_)
  subst hgC
  refine z_sub [0, 1] rfl ?_
  exact w_X2_hasMark hx hn hR hq hj σ x1 h
theorem dX2_overlaps_0 : decode cX2_overlaps 0 = .ok (.iconst 0, 1) := by decide +kernel
theorem dX2_overlaps_1 : decode cX2_overlaps 1 = .ok (.istore_n 3, 1) := by decide +kernel
theorem dX2_overlaps_2 : decode cX2_overlaps 2 = .ok (.iload_n 3, 1) := by decide +kernel
theorem dX2_overlaps_3 : decode cX2_overlaps 3 = .ok (.aload_n 0, 1) := by decide +kernel
theorem dX2_overlaps_4 : decode cX2_overlaps 4 = .ok (.getfield 35, 3) := by decide +kernel
theorem dX2_overlaps_7 : decode cX2_overlaps 7 = .ok (.if_icmp .ge 31, 3) := by decide +kernel
theorem dX2_overlaps_10 : decode cX2_overlaps 10 = .ok (.iload_n 1, 1) := by decide +kernel
theorem dX2_overlaps_11 : decode cX2_overlaps 11 = .ok (.aload_n 0, 1) := by decide +kernel
theorem dX2_overlaps_12 : decode cX2_overlaps 12 = .ok (.getfield 25, 3) := by decide +kernel
theorem dX2_overlaps_15 : decode cX2_overlaps 15 = .ok (.iload_n 3, 1) := by decide +kernel
theorem dX2_overlaps_16 : decode cX2_overlaps 16 = .ok (.iaload, 1) := by decide +kernel
theorem dX2_overlaps_17 : decode cX2_overlaps 17 = .ok (.if_icmp .ge 15, 3) := by decide +kernel
theorem dX2_overlaps_20 : decode cX2_overlaps 20 = .ok (.aload_n 0, 1) := by decide +kernel
theorem dX2_overlaps_21 : decode cX2_overlaps 21 = .ok (.getfield 22, 3) := by decide +kernel
theorem dX2_overlaps_24 : decode cX2_overlaps 24 = .ok (.iload_n 3, 1) := by decide +kernel
theorem dX2_overlaps_25 : decode cX2_overlaps 25 = .ok (.iaload, 1) := by decide +kernel
theorem dX2_overlaps_26 : decode cX2_overlaps 26 = .ok (.iload_n 2, 1) := by decide +kernel
theorem dX2_overlaps_27 : decode cX2_overlaps 27 = .ok (.if_icmp .ge 5, 3) := by decide +kernel
theorem dX2_overlaps_30 : decode cX2_overlaps 30 = .ok (.iconst 1, 1) := by decide +kernel
theorem dX2_overlaps_31 : decode cX2_overlaps 31 = .ok (.ireturn, 1) := by decide +kernel
theorem dX2_overlaps_32 : decode cX2_overlaps 32 = .ok (.iinc 3 1, 3) := by decide +kernel
theorem dX2_overlaps_35 : decode cX2_overlaps 35 = .ok (.goto (-33), 3) := by decide +kernel
theorem dX2_overlaps_38 : decode cX2_overlaps 38 = .ok (.iconst 0, 1) := by decide +kernel
theorem dX2_overlaps_39 : decode cX2_overlaps 39 = .ok (.ireturn, 1) := by decide +kernel
abbrev rm_X2_overlaps : Room := { frames := 0, cells := 0, slots := 0, locals := 0 }
theorem w_X2_overlaps_b32 {C : zC} (hx : z_ok C cX2_overlaps RX2 0) (hn : z_nL C = 4) (hR : z_R C = rm_X2_overlaps) {rr : Int × zS} (hq : z_fin C (some .boolean) (z_QI (z_g C) rr.1 rr.2)) {j : Nat} (hj : j < 6) {K2 : zS → Int → Int → Int → Option (Int × zS)} (hK2 : ∀ (σ : zS) (x1 : Int) (x2 : Int) (x3 : Int) , K2 σ x1 x2 x3 = some rr → z_W C σ 2 [(0, .ref (z_ad (z_g C) (8 * j))), (1, .int (zi x1)), (2, .int (zi x2)), (3, .int (zi x3))] []) (σ : zS) (x1 : Int) (x2 : Int) (x3 : Int) (h : f_X2_overlaps_b32 j K2 σ x1 x2 x3 = some rr) : z_W C σ 32 [(0, .ref (z_ad (z_g C) (8 * j))), (1, .int (zi x1)), (2, .int (zi x2)), (3, .int (zi x3))] [] := by
  unfold f_X2_overlaps_b32 at h
  refine z_iinc hx hn 3 (lv' := [(3, .int (zi (x3 + 1))), (0, .ref (z_ad (z_g C) (8 * j))), (1, .int (zi x1)), (2, .int (zi x2))]) dX2_overlaps_32 rfl (by decide) rfl ?_
  refine z_goto hx (tgt := 2) dX2_overlaps_35 (by decide) ?_
  refine z_sub [1, 2, 3, 0] rfl ?_
  exact hK2 σ x1 x2 (x3 + 1) h

theorem w_X2_overlaps_b2 {C : zC} (hx : z_ok C cX2_overlaps RX2 0) (hn : z_nL C = 4) (hR : z_R C = rm_X2_overlaps) {rr : Int × zS} (hq : z_fin C (some .boolean) (z_QI (z_g C) rr.1 rr.2)) {j : Nat} (hj : j < 6) {K2 : zS → Int → Int → Int → Option (Int × zS)} (hK2 : ∀ (σ : zS) (x1 : Int) (x2 : Int) (x3 : Int) , K2 σ x1 x2 x3 = some rr → z_W C σ 2 [(0, .ref (z_ad (z_g C) (8 * j))), (1, .int (zi x1)), (2, .int (zi x2)), (3, .int (zi x3))] []) (σ : zS) (x1 : Int) (x2 : Int) (x3 : Int) (h : f_X2_overlaps_b2 j K2 σ x1 x2 x3 = some rr) : z_W C σ 2 [(0, .ref (z_ad (z_g C) (8 * j))), (1, .int (zi x1)), (2, .int (zi x2)), (3, .int (zi x3))] [] := by
  unfold f_X2_overlaps_b2 at h
  refine z_iload_n hx 3 dX2_overlaps_2 rfl ?_
  refine z_aload_n hx 0 dX2_overlaps_3 rfl ?_
  refine gf_X2_marks hx wf_X2_35 hj dX2_overlaps_4 ?_
  refine z_icmp_ge hx (tgt := 38) dX2_overlaps_7 (by decide) h (fun h => h) (fun hc h => ?_) (fun hc h => ?_)
  · refine z_iconst hx (n := 0) dX2_overlaps_38 ?_
    cases h
    exact z_zret hx (by decide) hq dX2_overlaps_39
  · refine z_iload_n hx 1 dX2_overlaps_10 rfl ?_
    refine z_aload_n hx 0 dX2_overlaps_11 rfl ?_
    refine gf_X2_ends hx wf_X2_25 hj dX2_overlaps_12 ?_
    refine z_iload_n hx 3 dX2_overlaps_15 rfl ?_
    refine z_iald hx (n := 20) (z_lt0 (z_ok_sd hx) (by have := hj; omega)) (z_ka4 (z_ok_sd hx) hj _) rfl (by decide) dX2_overlaps_16 h (fun h => ?_)
    refine z_icmp_ge hx (tgt := 32) dX2_overlaps_17 (by decide) h (fun h => h) (fun hc h => ?_) (fun hc h => ?_)
    · refine z_sub [0, 1, 2, 3] rfl ?_
      exact w_X2_overlaps_b32 hx hn hR hq hj hK2 σ x1 x2 x3 h
    · refine z_aload_n hx 0 dX2_overlaps_20 rfl ?_
      refine gf_X2_firsts hx wf_X2_22 hj dX2_overlaps_21 ?_
      refine z_iload_n hx 3 dX2_overlaps_24 rfl ?_
      refine z_iald hx (n := 20) (z_lt0 (z_ok_sd hx) (by have := hj; omega)) (z_ka3 (z_ok_sd hx) hj _) rfl (by decide) dX2_overlaps_25 h (fun h => ?_)
      refine z_iload_n hx 2 dX2_overlaps_26 rfl ?_
      refine z_icmp_ge hx (tgt := 32) dX2_overlaps_27 (by decide) h (fun h => h) (fun hc h => ?_) (fun hc h => ?_)
      · refine z_sub [0, 1, 2, 3] rfl ?_
        exact w_X2_overlaps_b32 hx hn hR hq hj hK2 σ x1 x2 x3 h
      · refine z_iconst hx (n := 1) dX2_overlaps_30 ?_
        cases h
        exact z_zret hx (by decide) hq dX2_overlaps_31

theorem w_X2_overlaps_l2 {C : zC} (hx : z_ok C cX2_overlaps RX2 0) (hn : z_nL C = 4) (hR : z_R C = rm_X2_overlaps) {rr : Int × zS} (hq : z_fin C (some .boolean) (z_QI (z_g C) rr.1 rr.2)) {j : Nat} (hj : j < 6) : ∀ (n : Nat) (σ : zS) (x1 : Int) (x2 : Int) (x3 : Int) (_ : f_X2_overlaps_l2 j n σ x1 x2 x3 = some rr), z_W C σ 2 [(0, .ref (z_ad (z_g C) (8 * j))), (1, .int (zi x1)), (2, .int (zi x2)), (3, .int (zi x3))] [] := by
  intro n
  induction n with
  | zero => intro σ x1 x2 x3 h; cases h
  | succ n ih =>
    intro σ x1 x2 x3 h
    exact w_X2_overlaps_b2 hx hn hR hq hj ih σ x1 x2 x3 h
theorem w_X2_overlaps {C : zC} (hx : z_ok C cX2_overlaps RX2 0) (hn : z_nL C = 4) (hR : z_R C = rm_X2_overlaps) {rr : Int × zS} (hq : z_fin C (some .boolean) (z_QI (z_g C) rr.1 rr.2)) {j : Nat} (hj : j < 6) (σ : zS) (x1 : Int) (x2 : Int) (h : f_X2_overlaps j σ x1 x2 = some rr) : z_W C σ 0 [(0, .ref (z_ad (z_g C) (8 * j))), (1, .int (zi x1)), (2, .int (zi x2))] [] := by
  unfold f_X2_overlaps at h
  refine z_iconst hx (n := 0) dX2_overlaps_0 ?_
  refine z_istore_n hx hn (lv' := [(3, .int (zi 0)), (0, .ref (z_ad (z_g C) (8 * j))), (1, .int (zi x1)), (2, .int (zi x2))]) dX2_overlaps_1 (by decide) rfl ?_
  refine z_sub [1, 2, 3, 0] rfl ?_
  exact w_X2_overlaps_l2 hx hn hR hq hj z_fuel σ x1 x2 0 h

theorem met_X2_overlaps (l : Launch) (g : zG) (hg : g.1 = 0) {j : Nat} (hj : j < 6) {σ : zS} {x1 : Int} {x2 : Int} {rr : Int × zS} (h : f_X2_overlaps j σ x1 x2 = some rr) : z_Met l yX2_overlaps cX2_overlaps 4 (some .boolean) rm_X2_overlaps g [.ref (z_ad (g) (8 * j)), .int (zi x1), .int (zi x2)] σ (z_QI g rr.1 rr.2) := by
  refine z_enter (own := RX2) (sd := 0) (lv0 := [(0, .ref (z_ad (g) (8 * j))), (1, .int (zi x1)), (2, .int (zi x2))]) (by decide) rfl (Nat.le_of_ble_eq_true rfl) hg rfl (fun C hx hl hgC hR hn hq => ?_)
  subst hgC
  refine z_sub [0, 1, 2] rfl ?_
  exact w_X2_overlaps hx hn hR hq hj σ x1 x2 h
theorem dX2_addMark_0 : decode cX2_addMark 0 = .ok (.aload_n 0, 1) := by decide +kernel
theorem dX2_addMark_1 : decode cX2_addMark 1 = .ok (.getfield 35, 3) := by decide +kernel
theorem dX2_addMark_4 : decode cX2_addMark 4 = .ok (.bipush 20, 2) := by decide +kernel
theorem dX2_addMark_6 : decode cX2_addMark 6 = .ok (.if_icmp .lt 6, 3) := by decide +kernel
theorem dX2_addMark_9 : decode cX2_addMark 9 = .ok (.bipush (-3), 2) := by decide +kernel
theorem dX2_addMark_11 : decode cX2_addMark 11 = .ok (.ireturn, 1) := by decide +kernel
theorem dX2_addMark_12 : decode cX2_addMark 12 = .ok (.aload_n 0, 1) := by decide +kernel
theorem dX2_addMark_13 : decode cX2_addMark 13 = .ok (.getfield 35, 3) := by decide +kernel
theorem dX2_addMark_16 : decode cX2_addMark 16 = .ok (.istore 5, 2) := by decide +kernel
theorem dX2_addMark_18 : decode cX2_addMark 18 = .ok (.iload 5, 2) := by decide +kernel
theorem dX2_addMark_20 : decode cX2_addMark 20 = .ok (.ifCond .le 33, 3) := by decide +kernel
theorem dX2_addMark_23 : decode cX2_addMark 23 = .ok (.aload_n 0, 1) := by decide +kernel
theorem dX2_addMark_24 : decode cX2_addMark 24 = .ok (.getfield 22, 3) := by decide +kernel
theorem dX2_addMark_27 : decode cX2_addMark 27 = .ok (.iload 5, 2) := by decide +kernel
theorem dX2_addMark_29 : decode cX2_addMark 29 = .ok (.iconst 1, 1) := by decide +kernel
theorem dX2_addMark_30 : decode cX2_addMark 30 = .ok (.isub, 1) := by decide +kernel
theorem dX2_addMark_31 : decode cX2_addMark 31 = .ok (.iaload, 1) := by decide +kernel
theorem dX2_addMark_32 : decode cX2_addMark 32 = .ok (.iload_n 2, 1) := by decide +kernel
theorem dX2_addMark_33 : decode cX2_addMark 33 = .ok (.if_icmp .le 20, 3) := by decide +kernel
theorem dX2_addMark_36 : decode cX2_addMark 36 = .ok (.aload_n 0, 1) := by decide +kernel
theorem dX2_addMark_37 : decode cX2_addMark 37 = .ok (.aload_n 0, 1) := by decide +kernel
theorem dX2_addMark_38 : decode cX2_addMark 38 = .ok (.iload 5, 2) := by decide +kernel
theorem dX2_addMark_40 : decode cX2_addMark 40 = .ok (.iconst 1, 1) := by decide +kernel
theorem dX2_addMark_41 : decode cX2_addMark 41 = .ok (.isub, 1) := by decide +kernel
theorem dX2_addMark_42 : decode cX2_addMark 42 = .ok (.iload 5, 2) := by decide +kernel
theorem dX2_addMark_44 : decode cX2_addMark 44 = .ok (.invokevirtual 54, 3) := by decide +kernel
theorem dX2_addMark_47 : decode cX2_addMark 47 = .ok (.iinc 5 (-1), 3) := by decide +kernel
theorem dX2_addMark_50 : decode cX2_addMark 50 = .ok (.goto (-32), 3) := by decide +kernel
theorem dX2_addMark_53 : decode cX2_addMark 53 = .ok (.aload_n 0, 1) := by decide +kernel
theorem dX2_addMark_54 : decode cX2_addMark 54 = .ok (.getfield 19, 3) := by decide +kernel
theorem dX2_addMark_57 : decode cX2_addMark 57 = .ok (.iload 5, 2) := by decide +kernel
theorem dX2_addMark_59 : decode cX2_addMark 59 = .ok (.iload_n 1, 1) := by decide +kernel
theorem dX2_addMark_60 : decode cX2_addMark 60 = .ok (.iastore, 1) := by decide +kernel
theorem dX2_addMark_61 : decode cX2_addMark 61 = .ok (.aload_n 0, 1) := by decide +kernel
theorem dX2_addMark_62 : decode cX2_addMark 62 = .ok (.getfield 22, 3) := by decide +kernel
theorem dX2_addMark_65 : decode cX2_addMark 65 = .ok (.iload 5, 2) := by decide +kernel
theorem dX2_addMark_67 : decode cX2_addMark 67 = .ok (.iload_n 2, 1) := by decide +kernel
theorem dX2_addMark_68 : decode cX2_addMark 68 = .ok (.iastore, 1) := by decide +kernel
theorem dX2_addMark_69 : decode cX2_addMark 69 = .ok (.aload_n 0, 1) := by decide +kernel
theorem dX2_addMark_70 : decode cX2_addMark 70 = .ok (.getfield 25, 3) := by decide +kernel
theorem dX2_addMark_73 : decode cX2_addMark 73 = .ok (.iload 5, 2) := by decide +kernel
theorem dX2_addMark_75 : decode cX2_addMark 75 = .ok (.iload_n 3, 1) := by decide +kernel
theorem dX2_addMark_76 : decode cX2_addMark 76 = .ok (.iastore, 1) := by decide +kernel
theorem dX2_addMark_77 : decode cX2_addMark 77 = .ok (.aload_n 0, 1) := by decide +kernel
theorem dX2_addMark_78 : decode cX2_addMark 78 = .ok (.getfield 28, 3) := by decide +kernel
theorem dX2_addMark_81 : decode cX2_addMark 81 = .ok (.iload 5, 2) := by decide +kernel
theorem dX2_addMark_83 : decode cX2_addMark 83 = .ok (.iload 4, 2) := by decide +kernel
theorem dX2_addMark_85 : decode cX2_addMark 85 = .ok (.iastore, 1) := by decide +kernel
theorem dX2_addMark_86 : decode cX2_addMark 86 = .ok (.aload_n 0, 1) := by decide +kernel
theorem dX2_addMark_87 : decode cX2_addMark 87 = .ok (.getfield 31, 3) := by decide +kernel
theorem dX2_addMark_90 : decode cX2_addMark 90 = .ok (.iload 5, 2) := by decide +kernel
theorem dX2_addMark_92 : decode cX2_addMark 92 = .ok (.iconst 0, 1) := by decide +kernel
theorem dX2_addMark_93 : decode cX2_addMark 93 = .ok (.bastore, 1) := by decide +kernel
theorem dX2_addMark_94 : decode cX2_addMark 94 = .ok (.aload_n 0, 1) := by decide +kernel
theorem dX2_addMark_95 : decode cX2_addMark 95 = .ok (.dup, 1) := by decide +kernel
theorem dX2_addMark_96 : decode cX2_addMark 96 = .ok (.getfield 35, 3) := by decide +kernel
theorem dX2_addMark_99 : decode cX2_addMark 99 = .ok (.iconst 1, 1) := by decide +kernel
theorem dX2_addMark_100 : decode cX2_addMark 100 = .ok (.iadd, 1) := by decide +kernel
theorem dX2_addMark_101 : decode cX2_addMark 101 = .ok (.putfield 35, 3) := by decide +kernel
theorem dX2_addMark_104 : decode cX2_addMark 104 = .ok (.iload 5, 2) := by decide +kernel
theorem dX2_addMark_106 : decode cX2_addMark 106 = .ok (.ireturn, 1) := by decide +kernel
abbrev rm_X2_addMark : Room := { frames := 1, cells := 0, slots := 0, locals := 23 }
theorem w_X2_addMark_b53 {C : zC} (hx : z_ok C cX2_addMark RX2 0) (hn : z_nL C = 6) (hR : z_R C = rm_X2_addMark) {rr : Int × zS} (hq : z_fin C (some .int) (z_QI (z_g C) rr.1 rr.2)) {j : Nat} (hj : j < 6) (σ : zS) (x1 : Int) (x2 : Int) (x3 : Int) (x4 : Int) (x5 : Int) (h : f_X2_addMark_b53 j σ x1 x2 x3 x4 x5 = some rr) : z_W C σ 53 [(0, .ref (z_ad (z_g C) (8 * j))), (1, .int (zi x1)), (2, .int (zi x2)), (3, .int (zi x3)), (4, .int (zi x4)), (5, .int (zi x5))] [] := by
  unfold f_X2_addMark_b53 at h
  refine z_aload_n hx 0 dX2_addMark_53 rfl ?_
  refine gf_X2_kinds hx wf_X2_19 hj dX2_addMark_54 ?_
  refine z_iload hx 5 dX2_addMark_57 rfl ?_
  refine z_iload_n hx 1 dX2_addMark_59 rfl ?_
  refine z_iast hx (n := 20) (z_lt0 (z_ok_sd hx) (by have := hj; omega)) (z_ka2 (z_ok_sd hx) hj) rfl (by decide) dX2_addMark_60 h (fun σ1 h => ?_)
  refine z_aload_n hx 0 dX2_addMark_61 rfl ?_
  refine gf_X2_firsts hx wf_X2_22 hj dX2_addMark_62 ?_
  refine z_iload hx 5 dX2_addMark_65 rfl ?_
  refine z_iload_n hx 2 dX2_addMark_67 rfl ?_
  refine z_iast hx (n := 20) (z_lt0 (z_ok_sd hx) (by have := hj; omega)) (z_ka3 (z_ok_sd hx) hj) rfl (by decide) dX2_addMark_68 h (fun σ2 h => ?_)
  refine z_aload_n hx 0 dX2_addMark_69 rfl ?_
  refine gf_X2_ends hx wf_X2_25 hj dX2_addMark_70 ?_
  refine z_iload hx 5 dX2_addMark_73 rfl ?_
  refine z_iload_n hx 3 dX2_addMark_75 rfl ?_
  refine z_iast hx (n := 20) (z_lt0 (z_ok_sd hx) (by have := hj; omega)) (z_ka4 (z_ok_sd hx) hj) rfl (by decide) dX2_addMark_76 h (fun σ3 h => ?_)
  refine z_aload_n hx 0 dX2_addMark_77 rfl ?_
  refine gf_X2_doubts hx wf_X2_28 hj dX2_addMark_78 ?_
  refine z_iload hx 5 dX2_addMark_81 rfl ?_
  refine z_iload hx 4 dX2_addMark_83 rfl ?_
  refine z_iast hx (n := 20) (z_lt0 (z_ok_sd hx) (by have := hj; omega)) (z_ka5 (z_ok_sd hx) hj) rfl (by decide) dX2_addMark_85 h (fun σ4 h => ?_)
  refine z_aload_n hx 0 dX2_addMark_86 rfl ?_
  refine gf_X2_held hx wf_X2_31 hj dX2_addMark_87 ?_
  refine z_iload hx 5 dX2_addMark_90 rfl ?_
  refine z_iconst hx (n := 0) dX2_addMark_92 ?_
  refine z_zast hx (n := 20) (z_lt0 (z_ok_sd hx) (by have := hj; omega)) (z_ka6 (z_ok_sd hx) hj) rfl (by decide) dX2_addMark_93 h (fun σ5 h => ?_)
  refine z_aload_n hx 0 dX2_addMark_94 rfl ?_
  refine z_dup hx dX2_addMark_95 rfl ?_
  refine gf_X2_marks hx wf_X2_35 hj dX2_addMark_96 ?_
  refine z_iconst hx (n := 1) dX2_addMark_99 ?_
  refine z_iadd hx dX2_addMark_100 ?_
  refine pf_X2_marks hx wf_X2_35 hj dX2_addMark_101 h (fun σ6 h => ?_)
  refine z_iload hx 5 dX2_addMark_104 rfl ?_
  cases h
  exact z_iret hx hq dX2_addMark_106

theorem w_X2_addMark_b18 {C : zC} (hx : z_ok C cX2_addMark RX2 0) (hn : z_nL C = 6) (hR : z_R C = rm_X2_addMark) {rr : Int × zS} (hq : z_fin C (some .int) (z_QI (z_g C) rr.1 rr.2)) {j : Nat} (hj : j < 6) {K18 : zS → Int → Int → Int → Int → Int → Option (Int × zS)} (hK18 : ∀ (σ : zS) (x1 : Int) (x2 : Int) (x3 : Int) (x4 : Int) (x5 : Int) , K18 σ x1 x2 x3 x4 x5 = some rr → z_W C σ 18 [(0, .ref (z_ad (z_g C) (8 * j))), (1, .int (zi x1)), (2, .int (zi x2)), (3, .int (zi x3)), (4, .int (zi x4)), (5, .int (zi x5))] []) (σ : zS) (x1 : Int) (x2 : Int) (x3 : Int) (x4 : Int) (x5 : Int) (h : f_X2_addMark_b18 j K18 σ x1 x2 x3 x4 x5 = some rr) : z_W C σ 18 [(0, .ref (z_ad (z_g C) (8 * j))), (1, .int (zi x1)), (2, .int (zi x2)), (3, .int (zi x3)), (4, .int (zi x4)), (5, .int (zi x5))] [] := by
  unfold f_X2_addMark_b18 at h
  refine z_iload hx 5 dX2_addMark_18 rfl ?_
  refine z_if_le hx (tgt := 53) dX2_addMark_20 (by decide) h (fun h => h) (fun hc h => ?_) (fun hc h => ?_)
  · refine z_sub [0, 1, 2, 3, 4, 5] rfl ?_
    exact w_X2_addMark_b53 hx hn hR hq hj σ x1 x2 x3 x4 x5 h
  · refine z_aload_n hx 0 dX2_addMark_23 rfl ?_
    refine gf_X2_firsts hx wf_X2_22 hj dX2_addMark_24 ?_
    refine z_iload hx 5 dX2_addMark_27 rfl ?_
    refine z_iconst hx (n := 1) dX2_addMark_29 ?_
    refine z_isub hx dX2_addMark_30 ?_
    refine z_iald hx (n := 20) (z_lt0 (z_ok_sd hx) (by have := hj; omega)) (z_ka3 (z_ok_sd hx) hj _) rfl (by decide) dX2_addMark_31 h (fun h => ?_)
    refine z_iload_n hx 2 dX2_addMark_32 rfl ?_
    refine z_icmp_le hx (tgt := 53) dX2_addMark_33 (by decide) h (fun h => h) (fun hc h => ?_) (fun hc h => ?_)
    · refine z_sub [0, 1, 2, 3, 4, 5] rfl ?_
      exact w_X2_addMark_b53 hx hn hR hq hj σ x1 x2 x3 x4 x5 h
    · refine z_aload_n hx 0 dX2_addMark_36 rfl ?_
      refine z_aload_n hx 0 dX2_addMark_37 rfl ?_
      refine z_iload hx 5 dX2_addMark_38 rfl ?_
      refine z_iconst hx (n := 1) dX2_addMark_40 ?_
      refine z_isub hx dX2_addMark_41 ?_
      refine z_iload hx 5 dX2_addMark_42 rfl ?_
      obtain ⟨⟨⟩, σ1, h44, h⟩ := z_bind_some h
      refine z_callv hx (As := [.ref (z_ad (z_g C) (8 * j)), .int (zi (x5 - 1)), .int (zi x5)]) (k := 8 * j) (met_X2_copyMark (z_l C) (z_g C) (z_ok_sd hx) hj hj h44) (z_lt0 (z_ok_sd hx) (by have := hj; omega)) (z_ka0 (z_ok_sd hx) hj _) rfl rfl cv_X2_54 (z_room hR ⟨Nat.le_of_ble_eq_true rfl, Nat.le_of_ble_eq_true rfl⟩) ⟨rfl, rfl⟩ rfl rfl (Nat.le_of_ble_eq_true rfl) dX2_addMark_44 ?_
      refine z_iinc hx hn 5 (lv' := [(5, .int (zi (x5 + (-1)))), (0, .ref (z_ad (z_g C) (8 * j))), (1, .int (zi x1)), (2, .int (zi x2)), (3, .int (zi x3)), (4, .int (zi x4))]) dX2_addMark_47 rfl (by decide) rfl ?_
      refine z_goto hx (tgt := 18) dX2_addMark_50 (by decide) ?_
      refine z_sub [1, 2, 3, 4, 5, 0] rfl ?_
      exact hK18 σ1 x1 x2 x3 x4 (x5 + (-1)) h

theorem w_X2_addMark_l18 {C : zC} (hx : z_ok C cX2_addMark RX2 0) (hn : z_nL C = 6) (hR : z_R C = rm_X2_addMark) {rr : Int × zS} (hq : z_fin C (some .int) (z_QI (z_g C) rr.1 rr.2)) {j : Nat} (hj : j < 6) : ∀ (n : Nat) (σ : zS) (x1 : Int) (x2 : Int) (x3 : Int) (x4 : Int) (x5 : Int) (_ : f_X2_addMark_l18 j n σ x1 x2 x3 x4 x5 = some rr), z_W C σ 18 [(0, .ref (z_ad (z_g C) (8 * j))), (1, .int (zi x1)), (2, .int (zi x2)), (3, .int (zi x3)), (4, .int (zi x4)), (5, .int (zi x5))] [] := by
  intro n
  induction n with
  | zero => intro σ x1 x2 x3 x4 x5 h; cases h
  | succ n ih =>
    intro σ x1 x2 x3 x4 x5 h
    exact w_X2_addMark_b18 hx hn hR hq hj ih σ x1 x2 x3 x4 x5 h
theorem w_X2_addMark {C : zC} (hx : z_ok C cX2_addMark RX2 0) (hn : z_nL C = 6) (hR : z_R C = rm_X2_addMark) {rr : Int × zS} (hq : z_fin C (some .int) (z_QI (z_g C) rr.1 rr.2)) {j : Nat} (hj : j < 6) (σ : zS) (x1 : Int) (x2 : Int) (x3 : Int) (x4 : Int) (h : f_X2_addMark j σ x1 x2 x3 x4 = some rr) : z_W C σ 0 [(0, .ref (z_ad (z_g C) (8 * j))), (1, .int (zi x1)), (2, .int (zi x2)), (3, .int (zi x3)), (4, .int (zi x4))] [] := by
  unfold f_X2_addMark at h
  refine z_aload_n hx 0 dX2_addMark_0 rfl ?_
  refine gf_X2_marks hx wf_X2_35 hj dX2_addMark_1 ?_
  refine z_bipush hx (n := 20) dX2_addMark_4 rfl ?_
  refine z_icmp_lt hx (tgt := 12) dX2_addMark_6 (by decide) h (fun h => ⟨h, by decide⟩) (fun hc h => ?_) (fun hc h => ?_)
  · refine z_aload_n hx 0 dX2_addMark_12 rfl ?_
    refine gf_X2_marks hx wf_X2_35 hj dX2_addMark_13 ?_
    refine z_istore hx hn (lv' := [(5, .int (zi (σ (8 * j) 7))), (0, .ref (z_ad (z_g C) (8 * j))), (1, .int (zi x1)), (2, .int (zi x2)), (3, .int (zi x3)), (4, .int (zi x4))]) dX2_addMark_16 (by decide) rfl ?_
    refine z_sub [1, 2, 3, 4, 5, 0] rfl ?_
    exact w_X2_addMark_l18 hx hn hR hq hj z_fuel σ x1 x2 x3 x4 (σ (8 * j) 7) h
  · refine z_bipush hx (n := (-3)) dX2_addMark_9 rfl ?_
    cases h
    exact z_iret hx hq dX2_addMark_11

theorem met_X2_addMark (l : Launch) (g : zG) (hg : g.1 = 0) {j : Nat} (hj : j < 6) {σ : zS} {x1 : Int} {x2 : Int} {x3 : Int} {x4 : Int} {rr : Int × zS} (h : f_X2_addMark j σ x1 x2 x3 x4 = some rr) : z_Met l yX2_addMark cX2_addMark 6 (some .int) rm_X2_addMark g [.ref (z_ad (g) (8 * j)), .int (zi x1), .int (zi x2), .int (zi x3), .int (zi x4)] σ (z_QI g rr.1 rr.2) := by
  refine z_enter (own := RX2) (sd := 0) (lv0 := [(0, .ref (z_ad (g) (8 * j))), (1, .int (zi x1)), (2, .int (zi x2)), (3, .int (zi x3)), (4, .int (zi x4))]) (by decide) rfl (Nat.le_of_ble_eq_true rfl) hg rfl (fun C hx hl hgC hR hn hq => ?_)
  subst hgC
  refine z_sub [0, 1, 2, 3, 4] rfl ?_
  exact w_X2_addMark hx hn hR hq hj σ x1 x2 x3 x4 h
theorem dX2_removeMark_0 : decode cX2_removeMark 0 = .ok (.aload_n 0, 1) := by decide +kernel
theorem dX2_removeMark_1 : decode cX2_removeMark 1 = .ok (.iload_n 1, 1) := by decide +kernel
theorem dX2_removeMark_2 : decode cX2_removeMark 2 = .ok (.invokevirtual 58, 3) := by decide +kernel
theorem dX2_removeMark_5 : decode cX2_removeMark 5 = .ok (.ifCond .ne 4, 3) := by decide +kernel
theorem dX2_removeMark_8 : decode cX2_removeMark 8 = .ok (.return_, 1) := by decide +kernel
theorem dX2_removeMark_9 : decode cX2_removeMark 9 = .ok (.iload_n 1, 1) := by decide +kernel
theorem dX2_removeMark_10 : decode cX2_removeMark 10 = .ok (.istore_n 2, 1) := by decide +kernel
theorem dX2_removeMark_11 : decode cX2_removeMark 11 = .ok (.iload_n 2, 1) := by decide +kernel
theorem dX2_removeMark_12 : decode cX2_removeMark 12 = .ok (.iconst 1, 1) := by decide +kernel
theorem dX2_removeMark_13 : decode cX2_removeMark 13 = .ok (.iadd, 1) := by decide +kernel
theorem dX2_removeMark_14 : decode cX2_removeMark 14 = .ok (.aload_n 0, 1) := by decide +kernel
theorem dX2_removeMark_15 : decode cX2_removeMark 15 = .ok (.getfield 35, 3) := by decide +kernel
theorem dX2_removeMark_18 : decode cX2_removeMark 18 = .ok (.if_icmp .ge 18, 3) := by decide +kernel
theorem dX2_removeMark_21 : decode cX2_removeMark 21 = .ok (.aload_n 0, 1) := by decide +kernel
theorem dX2_removeMark_22 : decode cX2_removeMark 22 = .ok (.aload_n 0, 1) := by decide +kernel
theorem dX2_removeMark_23 : decode cX2_removeMark 23 = .ok (.iload_n 2, 1) := by decide +kernel
theorem dX2_removeMark_24 : decode cX2_removeMark 24 = .ok (.iconst 1, 1) := by decide +kernel
theorem dX2_removeMark_25 : decode cX2_removeMark 25 = .ok (.iadd, 1) := by decide +kernel
theorem dX2_removeMark_26 : decode cX2_removeMark 26 = .ok (.iload_n 2, 1) := by decide +kernel
theorem dX2_removeMark_27 : decode cX2_removeMark 27 = .ok (.invokevirtual 54, 3) := by decide +kernel
theorem dX2_removeMark_30 : decode cX2_removeMark 30 = .ok (.iinc 2 1, 3) := by decide +kernel
theorem dX2_removeMark_33 : decode cX2_removeMark 33 = .ok (.goto (-22), 3) := by decide +kernel
theorem dX2_removeMark_36 : decode cX2_removeMark 36 = .ok (.aload_n 0, 1) := by decide +kernel
theorem dX2_removeMark_37 : decode cX2_removeMark 37 = .ok (.dup, 1) := by decide +kernel
theorem dX2_removeMark_38 : decode cX2_removeMark 38 = .ok (.getfield 35, 3) := by decide +kernel
theorem dX2_removeMark_41 : decode cX2_removeMark 41 = .ok (.iconst 1, 1) := by decide +kernel
theorem dX2_removeMark_42 : decode cX2_removeMark 42 = .ok (.isub, 1) := by decide +kernel
theorem dX2_removeMark_43 : decode cX2_removeMark 43 = .ok (.putfield 35, 3) := by decide +kernel
theorem dX2_removeMark_46 : decode cX2_removeMark 46 = .ok (.return_, 1) := by decide +kernel
abbrev rm_X2_removeMark : Room := { frames := 1, cells := 0, slots := 0, locals := 23 }
theorem w_X2_removeMark_b11 {C : zC} (hx : z_ok C cX2_removeMark RX2 0) (hn : z_nL C = 3) (hR : z_R C = rm_X2_removeMark) {rr : Unit × zS} (hq : z_fin C none (z_QV (z_g C) rr.2)) {j : Nat} (hj : j < 6) {K11 : zS → Int → Option (Unit × zS)} (hK11 : ∀ (σ : zS) (x2 : Int) , K11 σ x2 = some rr → z_W C σ 11 [(0, .ref (z_ad (z_g C) (8 * j))), (2, .int (zi x2))] []) (σ : zS) (x2 : Int) (h : f_X2_removeMark_b11 j K11 σ x2 = some rr) : z_W C σ 11 [(0, .ref (z_ad (z_g C) (8 * j))), (2, .int (zi x2))] [] := by
  unfold f_X2_removeMark_b11 at h
  refine z_iload_n hx 1 dX2_removeMark_11 rfl ?_
  refine z_iconst hx (n := 1) dX2_removeMark_12 ?_
  refine z_iadd hx dX2_removeMark_13 ?_
  refine z_aload_n hx 0 dX2_removeMark_14 rfl ?_
  refine gf_X2_marks hx wf_X2_35 hj dX2_removeMark_15 ?_
  refine z_icmp_ge hx (tgt := 36) dX2_removeMark_18 (by decide) h (fun h => h) (fun hc h => ?_) (fun hc h => ?_)
  · refine z_aload_n hx 0 dX2_removeMark_36 rfl ?_
    refine z_dup hx dX2_removeMark_37 rfl ?_
    refine gf_X2_marks hx wf_X2_35 hj dX2_removeMark_38 ?_
    refine z_iconst hx (n := 1) dX2_removeMark_41 ?_
    refine z_isub hx dX2_removeMark_42 ?_
    refine pf_X2_marks hx wf_X2_35 hj dX2_removeMark_43 h (fun σ1 h => ?_)
    cases h
    exact z_vret hx hq dX2_removeMark_46
  · refine z_aload_n hx 0 dX2_removeMark_21 rfl ?_
    refine z_aload_n hx 0 dX2_removeMark_22 rfl ?_
    refine z_iload_n hx 1 dX2_removeMark_23 rfl ?_
    refine z_iconst hx (n := 1) dX2_removeMark_24 ?_
    refine z_iadd hx dX2_removeMark_25 ?_
    refine z_iload_n hx 1 dX2_removeMark_26 rfl ?_
    obtain ⟨⟨⟩, σ2, h27, h⟩ := z_bind_some h
    refine z_callv hx (As := [.ref (z_ad (z_g C) (8 * j)), .int (zi (x2 + 1)), .int (zi x2)]) (k := 8 * j) (met_X2_copyMark (z_l C) (z_g C) (z_ok_sd hx) hj hj h27) (z_lt0 (z_ok_sd hx) (by have := hj; omega)) (z_ka0 (z_ok_sd hx) hj _) rfl rfl cv_X2_54 (z_room hR ⟨Nat.le_of_ble_eq_true rfl, Nat.le_of_ble_eq_true rfl⟩) ⟨rfl, rfl⟩ rfl rfl (Nat.le_of_ble_eq_true rfl) dX2_removeMark_27 ?_
    refine z_iinc hx hn 1 (lv' := [(2, .int (zi (x2 + 1))), (0, .ref (z_ad (z_g C) (8 * j)))]) dX2_removeMark_30 rfl (by decide) rfl ?_
    refine z_goto hx (tgt := 11) dX2_removeMark_33 (by decide) ?_
    refine z_sub [1, 0] rfl ?_
    exact hK11 σ2 (x2 + 1) h

theorem w_X2_removeMark_l11 {C : zC} (hx : z_ok C cX2_removeMark RX2 0) (hn : z_nL C = 3) (hR : z_R C = rm_X2_removeMark) {rr : Unit × zS} (hq : z_fin C none (z_QV (z_g C) rr.2)) {j : Nat} (hj : j < 6) : ∀ (n : Nat) (σ : zS) (x2 : Int) (_ : f_X2_removeMark_l11 j n σ x2 = some rr), z_W C σ 11 [(0, .ref (z_ad (z_g C) (8 * j))), (2, .int (zi x2))] [] := by
  intro n
  induction n with
  | zero => intro σ x2 h; cases h
  | succ n ih =>
    intro σ x2 h
    exact w_X2_removeMark_b11 hx hn hR hq hj ih σ x2 h
theorem w_X2_removeMark {C : zC} (hx : z_ok C cX2_removeMark RX2 0) (hn : z_nL C = 3) (hR : z_R C = rm_X2_removeMark) {rr : Unit × zS} (hq : z_fin C none (z_QV (z_g C) rr.2)) {j : Nat} (hj : j < 6) (σ : zS) (x1 : Int) (h : f_X2_removeMark j σ x1 = some rr) : z_W C σ 0 [(0, .ref (z_ad (z_g C) (8 * j))), (1, .int (zi x1))] [] := by
  unfold f_X2_removeMark at h
  refine z_aload_n hx 0 dX2_removeMark_0 rfl ?_
  refine z_iload_n hx 1 dX2_removeMark_1 rfl ?_
  obtain ⟨r2, σ1, h2, h⟩ := z_bind_some h
  refine z_calli hx (As := [.int (zi x1)]) (k := 8 * j) (met_X2_hasMark (z_l C) (z_g C) (z_ok_sd hx) hj h2) (z_lt0 (z_ok_sd hx) (by have := hj; omega)) (z_ka0 (z_ok_sd hx) hj _) rfl rfl cv_X2_58 (z_room hR ⟨Nat.le_of_ble_eq_true rfl, Nat.le_of_ble_eq_true rfl⟩) ⟨rfl, rfl⟩ rfl rfl (Nat.le_of_ble_eq_true rfl) dX2_removeMark_2 ?_
  refine z_if_ne hx (tgt := 9) dX2_removeMark_5 (by decide) h (fun h => h) (fun hc h => ?_) (fun hc h => ?_)
  · refine z_iload_n hx 1 dX2_removeMark_9 rfl ?_
    refine z_istore_n hx hn (lv' := [(2, .int (zi x1)), (0, .ref (z_ad (z_g C) (8 * j))), (1, .int (zi x1))]) dX2_removeMark_10 (by decide) rfl ?_
    refine z_sub [1, 0] rfl ?_
    exact w_X2_removeMark_l11 hx hn hR hq hj z_fuel σ1 x1 h
  · cases h
    exact z_vret hx hq dX2_removeMark_8

theorem met_X2_removeMark (l : Launch) (g : zG) (hg : g.1 = 0) {j : Nat} (hj : j < 6) {σ : zS} {x1 : Int} {rr : Unit × zS} (h : f_X2_removeMark j σ x1 = some rr) : z_Met l yX2_removeMark cX2_removeMark 3 none rm_X2_removeMark g [.ref (z_ad (g) (8 * j)), .int (zi x1)] σ (z_QV g rr.2) := by
  refine z_enter (own := RX2) (sd := 0) (lv0 := [(0, .ref (z_ad (g) (8 * j))), (1, .int (zi x1))]) (by decide) rfl (Nat.le_of_ble_eq_true rfl) hg rfl (fun C hx hl hgC hR hn hq => ?_)
  subst hgC
  refine z_sub [0, 1] rfl ?_
  exact w_X2_removeMark hx hn hR hq hj σ x1 h
theorem dX2_numberOfMark_0 : decode cX2_numberOfMark 0 = .ok (.aload_n 0, 1) := by decide +kernel
theorem dX2_numberOfMark_1 : decode cX2_numberOfMark 1 = .ok (.iload_n 1, 1) := by decide +kernel
theorem dX2_numberOfMark_2 : decode cX2_numberOfMark 2 = .ok (.invokevirtual 58, 3) := by decide +kernel
theorem dX2_numberOfMark_5 : decode cX2_numberOfMark 5 = .ok (.ifCond .ne 5, 3) := by decide +kernel
theorem dX2_numberOfMark_8 : decode cX2_numberOfMark 8 = .ok (.iconst (-1), 1) := by decide +kernel
theorem dX2_numberOfMark_9 : decode cX2_numberOfMark 9 = .ok (.ireturn, 1) := by decide +kernel
theorem dX2_numberOfMark_10 : decode cX2_numberOfMark 10 = .ok (.iload_n 2, 1) := by decide +kernel
theorem dX2_numberOfMark_11 : decode cX2_numberOfMark 11 = .ok (.tableswitch 76 0 4 #[33, 40, 47, 54, 61], 33) := by decide +kernel
theorem dX2_numberOfMark_44 : decode cX2_numberOfMark 44 = .ok (.aload_n 0, 1) := by decide +kernel
theorem dX2_numberOfMark_45 : decode cX2_numberOfMark 45 = .ok (.getfield 19, 3) := by decide +kernel
theorem dX2_numberOfMark_48 : decode cX2_numberOfMark 48 = .ok (.iload_n 1, 1) := by decide +kernel
theorem dX2_numberOfMark_49 : decode cX2_numberOfMark 49 = .ok (.iaload, 1) := by decide +kernel
theorem dX2_numberOfMark_50 : decode cX2_numberOfMark 50 = .ok (.ireturn, 1) := by decide +kernel
theorem dX2_numberOfMark_51 : decode cX2_numberOfMark 51 = .ok (.aload_n 0, 1) := by decide +kernel
theorem dX2_numberOfMark_52 : decode cX2_numberOfMark 52 = .ok (.getfield 22, 3) := by decide +kernel
theorem dX2_numberOfMark_55 : decode cX2_numberOfMark 55 = .ok (.iload_n 1, 1) := by decide +kernel
theorem dX2_numberOfMark_56 : decode cX2_numberOfMark 56 = .ok (.iaload, 1) := by decide +kernel
theorem dX2_numberOfMark_57 : decode cX2_numberOfMark 57 = .ok (.ireturn, 1) := by decide +kernel
theorem dX2_numberOfMark_58 : decode cX2_numberOfMark 58 = .ok (.aload_n 0, 1) := by decide +kernel
theorem dX2_numberOfMark_59 : decode cX2_numberOfMark 59 = .ok (.getfield 25, 3) := by decide +kernel
theorem dX2_numberOfMark_62 : decode cX2_numberOfMark 62 = .ok (.iload_n 1, 1) := by decide +kernel
theorem dX2_numberOfMark_63 : decode cX2_numberOfMark 63 = .ok (.iaload, 1) := by decide +kernel
theorem dX2_numberOfMark_64 : decode cX2_numberOfMark 64 = .ok (.ireturn, 1) := by decide +kernel
theorem dX2_numberOfMark_65 : decode cX2_numberOfMark 65 = .ok (.aload_n 0, 1) := by decide +kernel
theorem dX2_numberOfMark_66 : decode cX2_numberOfMark 66 = .ok (.getfield 28, 3) := by decide +kernel
theorem dX2_numberOfMark_69 : decode cX2_numberOfMark 69 = .ok (.iload_n 1, 1) := by decide +kernel
theorem dX2_numberOfMark_70 : decode cX2_numberOfMark 70 = .ok (.iaload, 1) := by decide +kernel
theorem dX2_numberOfMark_71 : decode cX2_numberOfMark 71 = .ok (.ireturn, 1) := by decide +kernel
theorem dX2_numberOfMark_72 : decode cX2_numberOfMark 72 = .ok (.aload_n 0, 1) := by decide +kernel
theorem dX2_numberOfMark_73 : decode cX2_numberOfMark 73 = .ok (.getfield 31, 3) := by decide +kernel
theorem dX2_numberOfMark_76 : decode cX2_numberOfMark 76 = .ok (.iload_n 1, 1) := by decide +kernel
theorem dX2_numberOfMark_77 : decode cX2_numberOfMark 77 = .ok (.baload, 1) := by decide +kernel
theorem dX2_numberOfMark_78 : decode cX2_numberOfMark 78 = .ok (.ifCond .eq 7, 3) := by decide +kernel
theorem dX2_numberOfMark_81 : decode cX2_numberOfMark 81 = .ok (.iconst 1, 1) := by decide +kernel
theorem dX2_numberOfMark_82 : decode cX2_numberOfMark 82 = .ok (.goto 4, 3) := by decide +kernel
theorem dX2_numberOfMark_85 : decode cX2_numberOfMark 85 = .ok (.iconst 0, 1) := by decide +kernel
theorem dX2_numberOfMark_86 : decode cX2_numberOfMark 86 = .ok (.ireturn, 1) := by decide +kernel
theorem dX2_numberOfMark_87 : decode cX2_numberOfMark 87 = .ok (.iconst (-1), 1) := by decide +kernel
theorem dX2_numberOfMark_88 : decode cX2_numberOfMark 88 = .ok (.ireturn, 1) := by decide +kernel
abbrev rm_X2_numberOfMark : Room := { frames := 1, cells := 0, slots := 0, locals := 21 }
theorem w_X2_numberOfMark_b86 {C : zC} (hx : z_ok C cX2_numberOfMark RX2 0) (hn : z_nL C = 3) (hR : z_R C = rm_X2_numberOfMark) {rr : Int × zS} (hq : z_fin C (some .int) (z_QI (z_g C) rr.1 rr.2)) {j : Nat} (hj : j < 6) (σ : zS) (s0 : Int) (h : f_X2_numberOfMark_b86 j σ s0 = some rr) : z_W C σ 86 [] [.int (zi s0)] := by
  unfold f_X2_numberOfMark_b86 at h
  cases h
  exact z_iret hx hq dX2_numberOfMark_86

theorem w_X2_numberOfMark {C : zC} (hx : z_ok C cX2_numberOfMark RX2 0) (hn : z_nL C = 3) (hR : z_R C = rm_X2_numberOfMark) {rr : Int × zS} (hq : z_fin C (some .int) (z_QI (z_g C) rr.1 rr.2)) {j : Nat} (hj : j < 6) (σ : zS) (x1 : Int) (x2 : Int) (h : f_X2_numberOfMark j σ x1 x2 = some rr) : z_W C σ 0 [(0, .ref (z_ad (z_g C) (8 * j))), (1, .int (zi x1)), (2, .int (zi x2))] [] := by
  unfold f_X2_numberOfMark at h
  refine z_aload_n hx 0 dX2_numberOfMark_0 rfl ?_
  refine z_iload_n hx 1 dX2_numberOfMark_1 rfl ?_
  obtain ⟨r2, σ1, h2, h⟩ := z_bind_some h
  refine z_calli hx (As := [.int (zi x1)]) (k := 8 * j) (met_X2_hasMark (z_l C) (z_g C) (z_ok_sd hx) hj h2) (z_lt0 (z_ok_sd hx) (by have := hj; omega)) (z_ka0 (z_ok_sd hx) hj _) rfl rfl cv_X2_58 (z_room hR ⟨Nat.le_of_ble_eq_true rfl, Nat.le_of_ble_eq_true rfl⟩) ⟨rfl, rfl⟩ rfl rfl (Nat.le_of_ble_eq_true rfl) dX2_numberOfMark_2 ?_
  refine z_if_ne hx (tgt := 10) dX2_numberOfMark_5 (by decide) h (fun h => h) (fun hc h => ?_) (fun hc h => ?_)
  · refine z_iload_n hx 2 dX2_numberOfMark_10 rfl ?_
    obtain ⟨hr, h⟩ := z_gd h
    by_cases hc0 : x2 = 0
    · rw [if_pos hc0] at h
      refine z_tswIn hx (tgt := 44) (off := 33) dX2_numberOfMark_11 hr (by omega) (by omega) (by rw [hc0]; rfl) (by decide) ?_
      refine z_aload_n hx 0 dX2_numberOfMark_44 rfl ?_
      refine gf_X2_kinds hx wf_X2_19 hj dX2_numberOfMark_45 ?_
      refine z_iload_n hx 1 dX2_numberOfMark_48 rfl ?_
      refine z_iald hx (n := 20) (z_lt0 (z_ok_sd hx) (by have := hj; omega)) (z_ka2 (z_ok_sd hx) hj _) rfl (by decide) dX2_numberOfMark_49 h (fun h => ?_)
      cases h
      exact z_iret hx hq dX2_numberOfMark_50
    · rw [if_neg hc0] at h
      by_cases hc1 : x2 = 1
      · rw [if_pos hc1] at h
        refine z_tswIn hx (tgt := 51) (off := 40) dX2_numberOfMark_11 hr (by omega) (by omega) (by rw [hc1]; rfl) (by decide) ?_
        refine z_aload_n hx 0 dX2_numberOfMark_51 rfl ?_
        refine gf_X2_firsts hx wf_X2_22 hj dX2_numberOfMark_52 ?_
        refine z_iload_n hx 1 dX2_numberOfMark_55 rfl ?_
        refine z_iald hx (n := 20) (z_lt0 (z_ok_sd hx) (by have := hj; omega)) (z_ka3 (z_ok_sd hx) hj _) rfl (by decide) dX2_numberOfMark_56 h (fun h => ?_)
        cases h
        exact z_iret hx hq dX2_numberOfMark_57
      · rw [if_neg hc1] at h
        by_cases hc2 : x2 = 2
        · rw [if_pos hc2] at h
          refine z_tswIn hx (tgt := 58) (off := 47) dX2_numberOfMark_11 hr (by omega) (by omega) (by rw [hc2]; rfl) (by decide) ?_
          refine z_aload_n hx 0 dX2_numberOfMark_58 rfl ?_
          refine gf_X2_ends hx wf_X2_25 hj dX2_numberOfMark_59 ?_
          refine z_iload_n hx 1 dX2_numberOfMark_62 rfl ?_
          refine z_iald hx (n := 20) (z_lt0 (z_ok_sd hx) (by have := hj; omega)) (z_ka4 (z_ok_sd hx) hj _) rfl (by decide) dX2_numberOfMark_63 h (fun h => ?_)
          cases h
          exact z_iret hx hq dX2_numberOfMark_64
        · rw [if_neg hc2] at h
          by_cases hc3 : x2 = 3
          · rw [if_pos hc3] at h
            refine z_tswIn hx (tgt := 65) (off := 54) dX2_numberOfMark_11 hr (by omega) (by omega) (by rw [hc3]; rfl) (by decide) ?_
            refine z_aload_n hx 0 dX2_numberOfMark_65 rfl ?_
            refine gf_X2_doubts hx wf_X2_28 hj dX2_numberOfMark_66 ?_
            refine z_iload_n hx 1 dX2_numberOfMark_69 rfl ?_
            refine z_iald hx (n := 20) (z_lt0 (z_ok_sd hx) (by have := hj; omega)) (z_ka5 (z_ok_sd hx) hj _) rfl (by decide) dX2_numberOfMark_70 h (fun h => ?_)
            cases h
            exact z_iret hx hq dX2_numberOfMark_71
          · rw [if_neg hc3] at h
            by_cases hc4 : x2 = 4
            · rw [if_pos hc4] at h
              refine z_tswIn hx (tgt := 72) (off := 61) dX2_numberOfMark_11 hr (by omega) (by omega) (by rw [hc4]; rfl) (by decide) ?_
              refine z_aload_n hx 0 dX2_numberOfMark_72 rfl ?_
              refine gf_X2_held hx wf_X2_31 hj dX2_numberOfMark_73 ?_
              refine z_iload_n hx 1 dX2_numberOfMark_76 rfl ?_
              refine z_zald hx (n := 20) (z_lt0 (z_ok_sd hx) (by have := hj; omega)) (z_ka6 (z_ok_sd hx) hj _) rfl (by decide) dX2_numberOfMark_77 h (fun h => ?_)
              refine z_if_eq hx (tgt := 85) dX2_numberOfMark_78 (by decide) h (fun h => h) (fun hc h => ?_) (fun hc h => ?_)
              · refine z_iconst hx (n := 0) dX2_numberOfMark_85 ?_
                refine z_sub [] rfl ?_
                exact w_X2_numberOfMark_b86 hx hn hR hq hj σ1 0 h
              · refine z_iconst hx (n := 1) dX2_numberOfMark_81 ?_
                refine z_goto hx (tgt := 86) dX2_numberOfMark_82 (by decide) ?_
                refine z_sub [] rfl ?_
                exact w_X2_numberOfMark_b86 hx hn hR hq hj σ1 1 h
            · rw [if_neg hc4] at h
              refine z_tswOut hx (tgt := 87) dX2_numberOfMark_11 hr (by omega) (by decide) ?_
              refine z_iconst hx (n := (-1)) dX2_numberOfMark_87 ?_
              cases h
              exact z_iret hx hq dX2_numberOfMark_88
  · refine z_iconst hx (n := (-1)) dX2_numberOfMark_8 ?_
    cases h
    exact z_iret hx hq dX2_numberOfMark_9

theorem met_X2_numberOfMark (l : Launch) (g : zG) (hg : g.1 = 0) {j : Nat} (hj : j < 6) {σ : zS} {x1 : Int} {x2 : Int} {rr : Int × zS} (h : f_X2_numberOfMark j σ x1 x2 = some rr) : z_Met l yX2_numberOfMark cX2_numberOfMark 3 (some .int) rm_X2_numberOfMark g [.ref (z_ad (g) (8 * j)), .int (zi x1), .int (zi x2)] σ (z_QI g rr.1 rr.2) := by
  refine z_enter (own := RX2) (sd := 0) (lv0 := [(0, .ref (z_ad (g) (8 * j))), (1, .int (zi x1)), (2, .int (zi x2))]) (by decide) rfl (Nat.le_of_ble_eq_true rfl) hg rfl (fun C hx hl hgC hR hn hq => ?_)
  subst hgC
  refine z_sub [0, 1, 2] rfl ?_
  exact w_X2_numberOfMark hx hn hR hq hj σ x1 x2 h
theorem dX2_hasFillerOfDoubt_0 : decode cX2_hasFillerOfDoubt 0 = .ok (.iconst 0, 1) := by decide +kernel
theorem dX2_hasFillerOfDoubt_1 : decode cX2_hasFillerOfDoubt 1 = .ok (.istore_n 2, 1) := by decide +kernel
theorem dX2_hasFillerOfDoubt_2 : decode cX2_hasFillerOfDoubt 2 = .ok (.iload_n 2, 1) := by decide +kernel
theorem dX2_hasFillerOfDoubt_3 : decode cX2_hasFillerOfDoubt 3 = .ok (.aload_n 0, 1) := by decide +kernel
theorem dX2_hasFillerOfDoubt_4 : decode cX2_hasFillerOfDoubt 4 = .ok (.getfield 35, 3) := by decide +kernel
theorem dX2_hasFillerOfDoubt_7 : decode cX2_hasFillerOfDoubt 7 = .ok (.if_icmp .ge 30, 3) := by decide +kernel
theorem dX2_hasFillerOfDoubt_10 : decode cX2_hasFillerOfDoubt 10 = .ok (.aload_n 0, 1) := by decide +kernel
theorem dX2_hasFillerOfDoubt_11 : decode cX2_hasFillerOfDoubt 11 = .ok (.getfield 19, 3) := by decide +kernel
theorem dX2_hasFillerOfDoubt_14 : decode cX2_hasFillerOfDoubt 14 = .ok (.iload_n 2, 1) := by decide +kernel
theorem dX2_hasFillerOfDoubt_15 : decode cX2_hasFillerOfDoubt 15 = .ok (.iaload, 1) := by decide +kernel
theorem dX2_hasFillerOfDoubt_16 : decode cX2_hasFillerOfDoubt 16 = .ok (.ifCond .ne 15, 3) := by decide +kernel
theorem dX2_hasFillerOfDoubt_19 : decode cX2_hasFillerOfDoubt 19 = .ok (.aload_n 0, 1) := by decide +kernel
theorem dX2_hasFillerOfDoubt_20 : decode cX2_hasFillerOfDoubt 20 = .ok (.getfield 28, 3) := by decide +kernel
theorem dX2_hasFillerOfDoubt_23 : decode cX2_hasFillerOfDoubt 23 = .ok (.iload_n 2, 1) := by decide +kernel
theorem dX2_hasFillerOfDoubt_24 : decode cX2_hasFillerOfDoubt 24 = .ok (.iaload, 1) := by decide +kernel
theorem dX2_hasFillerOfDoubt_25 : decode cX2_hasFillerOfDoubt 25 = .ok (.iload_n 1, 1) := by decide +kernel
theorem dX2_hasFillerOfDoubt_26 : decode cX2_hasFillerOfDoubt 26 = .ok (.if_icmp .ne 5, 3) := by decide +kernel
theorem dX2_hasFillerOfDoubt_29 : decode cX2_hasFillerOfDoubt 29 = .ok (.iconst 1, 1) := by decide +kernel
theorem dX2_hasFillerOfDoubt_30 : decode cX2_hasFillerOfDoubt 30 = .ok (.ireturn, 1) := by decide +kernel
theorem dX2_hasFillerOfDoubt_31 : decode cX2_hasFillerOfDoubt 31 = .ok (.iinc 2 1, 3) := by decide +kernel
theorem dX2_hasFillerOfDoubt_34 : decode cX2_hasFillerOfDoubt 34 = .ok (.goto (-32), 3) := by decide +kernel
theorem dX2_hasFillerOfDoubt_37 : decode cX2_hasFillerOfDoubt 37 = .ok (.iconst 0, 1) := by decide +kernel
theorem dX2_hasFillerOfDoubt_38 : decode cX2_hasFillerOfDoubt 38 = .ok (.ireturn, 1) := by decide +kernel
abbrev rm_X2_hasFillerOfDoubt : Room := { frames := 0, cells := 0, slots := 0, locals := 0 }
theorem w_X2_hasFillerOfDoubt_b31 {C : zC} (hx : z_ok C cX2_hasFillerOfDoubt RX2 0) (hn : z_nL C = 3) (hR : z_R C = rm_X2_hasFillerOfDoubt) {rr : Int × zS} (hq : z_fin C (some .boolean) (z_QI (z_g C) rr.1 rr.2)) {j : Nat} (hj : j < 6) {K2 : zS → Int → Int → Option (Int × zS)} (hK2 : ∀ (σ : zS) (x1 : Int) (x2 : Int) , K2 σ x1 x2 = some rr → z_W C σ 2 [(0, .ref (z_ad (z_g C) (8 * j))), (1, .int (zi x1)), (2, .int (zi x2))] []) (σ : zS) (x1 : Int) (x2 : Int) (h : f_X2_hasFillerOfDoubt_b31 j K2 σ x1 x2 = some rr) : z_W C σ 31 [(0, .ref (z_ad (z_g C) (8 * j))), (1, .int (zi x1)), (2, .int (zi x2))] [] := by
  unfold f_X2_hasFillerOfDoubt_b31 at h
  refine z_iinc hx hn 2 (lv' := [(2, .int (zi (x2 + 1))), (0, .ref (z_ad (z_g C) (8 * j))), (1, .int (zi x1))]) dX2_hasFillerOfDoubt_31 rfl (by decide) rfl ?_
  refine z_goto hx (tgt := 2) dX2_hasFillerOfDoubt_34 (by decide) ?_
  refine z_sub [1, 2, 0] rfl ?_
  exact hK2 σ x1 (x2 + 1) h

theorem w_X2_hasFillerOfDoubt_b2 {C : zC} (hx : z_ok C cX2_hasFillerOfDoubt RX2 0) (hn : z_nL C = 3) (hR : z_R C = rm_X2_hasFillerOfDoubt) {rr : Int × zS} (hq : z_fin C (some .boolean) (z_QI (z_g C) rr.1 rr.2)) {j : Nat} (hj : j < 6) {K2 : zS → Int → Int → Option (Int × zS)} (hK2 : ∀ (σ : zS) (x1 : Int) (x2 : Int) , K2 σ x1 x2 = some rr → z_W C σ 2 [(0, .ref (z_ad (z_g C) (8 * j))), (1, .int (zi x1)), (2, .int (zi x2))] []) (σ : zS) (x1 : Int) (x2 : Int) (h : f_X2_hasFillerOfDoubt_b2 j K2 σ x1 x2 = some rr) : z_W C σ 2 [(0, .ref (z_ad (z_g C) (8 * j))), (1, .int (zi x1)), (2, .int (zi x2))] [] := by
  unfold f_X2_hasFillerOfDoubt_b2 at h
  refine z_iload_n hx 2 dX2_hasFillerOfDoubt_2 rfl ?_
  refine z_aload_n hx 0 dX2_hasFillerOfDoubt_3 rfl ?_
  refine gf_X2_marks hx wf_X2_35 hj dX2_hasFillerOfDoubt_4 ?_
  refine z_icmp_ge hx (tgt := 37) dX2_hasFillerOfDoubt_7 (by decide) h (fun h => h) (fun hc h => ?_) (fun hc h => ?_)
  · refine z_iconst hx (n := 0) dX2_hasFillerOfDoubt_37 ?_
    cases h
    exact z_zret hx (by decide) hq dX2_hasFillerOfDoubt_38
  · refine z_aload_n hx 0 dX2_hasFillerOfDoubt_10 rfl ?_
    refine gf_X2_kinds hx wf_X2_19 hj dX2_hasFillerOfDoubt_11 ?_
    refine z_iload_n hx 2 dX2_hasFillerOfDoubt_14 rfl ?_
    refine z_iald hx (n := 20) (z_lt0 (z_ok_sd hx) (by have := hj; omega)) (z_ka2 (z_ok_sd hx) hj _) rfl (by decide) dX2_hasFillerOfDoubt_15 h (fun h => ?_)
    refine z_if_ne hx (tgt := 31) dX2_hasFillerOfDoubt_16 (by decide) h (fun h => h) (fun hc h => ?_) (fun hc h => ?_)
    · refine z_sub [0, 1, 2] rfl ?_
      exact w_X2_hasFillerOfDoubt_b31 hx hn hR hq hj hK2 σ x1 x2 h
    · refine z_aload_n hx 0 dX2_hasFillerOfDoubt_19 rfl ?_
      refine gf_X2_doubts hx wf_X2_28 hj dX2_hasFillerOfDoubt_20 ?_
      refine z_iload_n hx 2 dX2_hasFillerOfDoubt_23 rfl ?_
      refine z_iald hx (n := 20) (z_lt0 (z_ok_sd hx) (by have := hj; omega)) (z_ka5 (z_ok_sd hx) hj _) rfl (by decide) dX2_hasFillerOfDoubt_24 h (fun h => ?_)
      refine z_iload_n hx 1 dX2_hasFillerOfDoubt_25 rfl ?_
      refine z_icmp_ne hx (tgt := 31) dX2_hasFillerOfDoubt_26 (by decide) h (fun h => h) (fun hc h => ?_) (fun hc h => ?_)
      · refine z_sub [0, 1, 2] rfl ?_
        exact w_X2_hasFillerOfDoubt_b31 hx hn hR hq hj hK2 σ x1 x2 h
      · refine z_iconst hx (n := 1) dX2_hasFillerOfDoubt_29 ?_
        cases h
        exact z_zret hx (by decide) hq dX2_hasFillerOfDoubt_30

theorem w_X2_hasFillerOfDoubt_l2 {C : zC} (hx : z_ok C cX2_hasFillerOfDoubt RX2 0) (hn : z_nL C = 3) (hR : z_R C = rm_X2_hasFillerOfDoubt) {rr : Int × zS} (hq : z_fin C (some .boolean) (z_QI (z_g C) rr.1 rr.2)) {j : Nat} (hj : j < 6) : ∀ (n : Nat) (σ : zS) (x1 : Int) (x2 : Int) (_ : f_X2_hasFillerOfDoubt_l2 j n σ x1 x2 = some rr), z_W C σ 2 [(0, .ref (z_ad (z_g C) (8 * j))), (1, .int (zi x1)), (2, .int (zi x2))] [] := by
  intro n
  induction n with
  | zero => intro σ x1 x2 h; cases h
  | succ n ih =>
    intro σ x1 x2 h
    exact w_X2_hasFillerOfDoubt_b2 hx hn hR hq hj ih σ x1 x2 h
theorem w_X2_hasFillerOfDoubt {C : zC} (hx : z_ok C cX2_hasFillerOfDoubt RX2 0) (hn : z_nL C = 3) (hR : z_R C = rm_X2_hasFillerOfDoubt) {rr : Int × zS} (hq : z_fin C (some .boolean) (z_QI (z_g C) rr.1 rr.2)) {j : Nat} (hj : j < 6) (σ : zS) (x1 : Int) (h : f_X2_hasFillerOfDoubt j σ x1 = some rr) : z_W C σ 0 [(0, .ref (z_ad (z_g C) (8 * j))), (1, .int (zi x1))] [] := by
  unfold f_X2_hasFillerOfDoubt at h
  refine z_iconst hx (n := 0) dX2_hasFillerOfDoubt_0 ?_
  refine z_istore_n hx hn (lv' := [(2, .int (zi 0)), (0, .ref (z_ad (z_g C) (8 * j))), (1, .int (zi x1))]) dX2_hasFillerOfDoubt_1 (by decide) rfl ?_
  refine z_sub [1, 2, 0] rfl ?_
  exact w_X2_hasFillerOfDoubt_l2 hx hn hR hq hj z_fuel σ x1 0 h

theorem met_X2_hasFillerOfDoubt (l : Launch) (g : zG) (hg : g.1 = 0) {j : Nat} (hj : j < 6) {σ : zS} {x1 : Int} {rr : Int × zS} (h : f_X2_hasFillerOfDoubt j σ x1 = some rr) : z_Met l yX2_hasFillerOfDoubt cX2_hasFillerOfDoubt 3 (some .boolean) rm_X2_hasFillerOfDoubt g [.ref (z_ad (g) (8 * j)), .int (zi x1)] σ (z_QI g rr.1 rr.2) := by
  refine z_enter (own := RX2) (sd := 0) (lv0 := [(0, .ref (z_ad (g) (8 * j))), (1, .int (zi x1))]) (by decide) rfl (Nat.le_of_ble_eq_true rfl) hg rfl (fun C hx hl hgC hR hn hq => ?_)
  subst hgC
  refine z_sub [0, 1] rfl ?_
  exact w_X2_hasFillerOfDoubt hx hn hR hq hj σ x1 h
theorem dX2_endOfMarkBefore_0 : decode cX2_endOfMarkBefore 0 = .ok (.aload_n 0, 1) := by decide +kernel
theorem dX2_endOfMarkBefore_1 : decode cX2_endOfMarkBefore 1 = .ok (.iload_n 1, 1) := by decide +kernel
theorem dX2_endOfMarkBefore_2 : decode cX2_endOfMarkBefore 2 = .ok (.iconst 1, 1) := by decide +kernel
theorem dX2_endOfMarkBefore_3 : decode cX2_endOfMarkBefore 3 = .ok (.isub, 1) := by decide +kernel
theorem dX2_endOfMarkBefore_4 : decode cX2_endOfMarkBefore 4 = .ok (.invokevirtual 58, 3) := by decide +kernel
theorem dX2_endOfMarkBefore_7 : decode cX2_endOfMarkBefore 7 = .ok (.ifCond .eq 14, 3) := by decide +kernel
theorem dX2_endOfMarkBefore_10 : decode cX2_endOfMarkBefore 10 = .ok (.aload_n 0, 1) := by decide +kernel
theorem dX2_endOfMarkBefore_11 : decode cX2_endOfMarkBefore 11 = .ok (.getfield 25, 3) := by decide +kernel
theorem dX2_endOfMarkBefore_14 : decode cX2_endOfMarkBefore 14 = .ok (.iload_n 1, 1) := by decide +kernel
theorem dX2_endOfMarkBefore_15 : decode cX2_endOfMarkBefore 15 = .ok (.iconst 1, 1) := by decide +kernel
theorem dX2_endOfMarkBefore_16 : decode cX2_endOfMarkBefore 16 = .ok (.isub, 1) := by decide +kernel
theorem dX2_endOfMarkBefore_17 : decode cX2_endOfMarkBefore 17 = .ok (.iaload, 1) := by decide +kernel
theorem dX2_endOfMarkBefore_18 : decode cX2_endOfMarkBefore 18 = .ok (.goto 4, 3) := by decide +kernel
theorem dX2_endOfMarkBefore_21 : decode cX2_endOfMarkBefore 21 = .ok (.iconst 0, 1) := by decide +kernel
theorem dX2_endOfMarkBefore_22 : decode cX2_endOfMarkBefore 22 = .ok (.ireturn, 1) := by decide +kernel
abbrev rm_X2_endOfMarkBefore : Room := { frames := 1, cells := 0, slots := 0, locals := 21 }
theorem w_X2_endOfMarkBefore_b22 {C : zC} (hx : z_ok C cX2_endOfMarkBefore RX2 0) (hn : z_nL C = 2) (hR : z_R C = rm_X2_endOfMarkBefore) {rr : Int × zS} (hq : z_fin C (some .int) (z_QI (z_g C) rr.1 rr.2)) {j : Nat} (hj : j < 6) (σ : zS) (s0 : Int) (h : f_X2_endOfMarkBefore_b22 j σ s0 = some rr) : z_W C σ 22 [] [.int (zi s0)] := by
  unfold f_X2_endOfMarkBefore_b22 at h
  cases h
  exact z_iret hx hq dX2_endOfMarkBefore_22

theorem w_X2_endOfMarkBefore {C : zC} (hx : z_ok C cX2_endOfMarkBefore RX2 0) (hn : z_nL C = 2) (hR : z_R C = rm_X2_endOfMarkBefore) {rr : Int × zS} (hq : z_fin C (some .int) (z_QI (z_g C) rr.1 rr.2)) {j : Nat} (hj : j < 6) (σ : zS) (x1 : Int) (h : f_X2_endOfMarkBefore j σ x1 = some rr) : z_W C σ 0 [(0, .ref (z_ad (z_g C) (8 * j))), (1, .int (zi x1))] [] := by
  unfold f_X2_endOfMarkBefore at h
  refine z_aload_n hx 0 dX2_endOfMarkBefore_0 rfl ?_
  refine z_iload_n hx 1 dX2_endOfMarkBefore_1 rfl ?_
  refine z_iconst hx (n := 1) dX2_endOfMarkBefore_2 ?_
  refine z_isub hx dX2_endOfMarkBefore_3 ?_
  obtain ⟨r2, σ1, h4, h⟩ := z_bind_some h
  refine z_calli hx (As := [.int (zi (x1 - 1))]) (k := 8 * j) (met_X2_hasMark (z_l C) (z_g C) (z_ok_sd hx) hj h4) (z_lt0 (z_ok_sd hx) (by have := hj; omega)) (z_ka0 (z_ok_sd hx) hj _) rfl rfl cv_X2_58 (z_room hR ⟨Nat.le_of_ble_eq_true rfl, Nat.le_of_ble_eq_true rfl⟩) ⟨rfl, rfl⟩ rfl rfl (Nat.le_of_ble_eq_true rfl) dX2_endOfMarkBefore_4 ?_
  refine z_if_eq hx (tgt := 21) dX2_endOfMarkBefore_7 (by decide) h (fun h => h) (fun hc h => ?_) (fun hc h => ?_)
  · refine z_iconst hx (n := 0) dX2_endOfMarkBefore_21 ?_
    refine z_sub [] rfl ?_
    exact w_X2_endOfMarkBefore_b22 hx hn hR hq hj σ1 0 h
  · refine z_aload_n hx 0 dX2_endOfMarkBefore_10 rfl ?_
    refine gf_X2_ends hx wf_X2_25 hj dX2_endOfMarkBefore_11 ?_
    refine z_iload_n hx 1 dX2_endOfMarkBefore_14 rfl ?_
    refine z_iconst hx (n := 1) dX2_endOfMarkBefore_15 ?_
    refine z_isub hx dX2_endOfMarkBefore_16 ?_
    refine z_iald hx (n := 20) (z_lt0 (z_ok_sd hx) (by have := hj; omega)) (z_ka4 (z_ok_sd hx) hj _) rfl (by decide) dX2_endOfMarkBefore_17 h (fun h => ?_)
    refine z_goto hx (tgt := 22) dX2_endOfMarkBefore_18 (by decide) ?_
    refine z_sub [] rfl ?_
    exact w_X2_endOfMarkBefore_b22 hx hn hR hq hj σ1 (σ1 (8 * j + 4) (x1 - 1)) h

theorem met_X2_endOfMarkBefore (l : Launch) (g : zG) (hg : g.1 = 0) {j : Nat} (hj : j < 6) {σ : zS} {x1 : Int} {rr : Int × zS} (h : f_X2_endOfMarkBefore j σ x1 = some rr) : z_Met l yX2_endOfMarkBefore cX2_endOfMarkBefore 2 (some .int) rm_X2_endOfMarkBefore g [.ref (z_ad (g) (8 * j)), .int (zi x1)] σ (z_QI g rr.1 rr.2) := by
  refine z_enter (own := RX2) (sd := 0) (lv0 := [(0, .ref (z_ad (g) (8 * j))), (1, .int (zi x1))]) (by decide) rfl (Nat.le_of_ble_eq_true rfl) hg rfl (fun C hx hl hgC hR hn hq => ?_)
  subst hgC
  refine z_sub [0, 1] rfl ?_
  exact w_X2_endOfMarkBefore hx hn hR hq hj σ x1 h
theorem dX2_firstOfMarkAfter_0 : decode cX2_firstOfMarkAfter 0 = .ok (.aload_n 0, 1) := by decide +kernel
theorem dX2_firstOfMarkAfter_1 : decode cX2_firstOfMarkAfter 1 = .ok (.iload_n 1, 1) := by decide +kernel
theorem dX2_firstOfMarkAfter_2 : decode cX2_firstOfMarkAfter 2 = .ok (.iconst 1, 1) := by decide +kernel
theorem dX2_firstOfMarkAfter_3 : decode cX2_firstOfMarkAfter 3 = .ok (.iadd, 1) := by decide +kernel
theorem dX2_firstOfMarkAfter_4 : decode cX2_firstOfMarkAfter 4 = .ok (.invokevirtual 58, 3) := by decide +kernel
theorem dX2_firstOfMarkAfter_7 : decode cX2_firstOfMarkAfter 7 = .ok (.ifCond .eq 14, 3) := by decide +kernel
theorem dX2_firstOfMarkAfter_10 : decode cX2_firstOfMarkAfter 10 = .ok (.aload_n 0, 1) := by decide +kernel
theorem dX2_firstOfMarkAfter_11 : decode cX2_firstOfMarkAfter 11 = .ok (.getfield 22, 3) := by decide +kernel
theorem dX2_firstOfMarkAfter_14 : decode cX2_firstOfMarkAfter 14 = .ok (.iload_n 1, 1) := by decide +kernel
theorem dX2_firstOfMarkAfter_15 : decode cX2_firstOfMarkAfter 15 = .ok (.iconst 1, 1) := by decide +kernel
theorem dX2_firstOfMarkAfter_16 : decode cX2_firstOfMarkAfter 16 = .ok (.iadd, 1) := by decide +kernel
theorem dX2_firstOfMarkAfter_17 : decode cX2_firstOfMarkAfter 17 = .ok (.iaload, 1) := by decide +kernel
theorem dX2_firstOfMarkAfter_18 : decode cX2_firstOfMarkAfter 18 = .ok (.goto 7, 3) := by decide +kernel
theorem dX2_firstOfMarkAfter_21 : decode cX2_firstOfMarkAfter 21 = .ok (.aload_n 0, 1) := by decide +kernel
theorem dX2_firstOfMarkAfter_22 : decode cX2_firstOfMarkAfter 22 = .ok (.getfield 15, 3) := by decide +kernel
theorem dX2_firstOfMarkAfter_25 : decode cX2_firstOfMarkAfter 25 = .ok (.ireturn, 1) := by decide +kernel
abbrev rm_X2_firstOfMarkAfter : Room := { frames := 1, cells := 0, slots := 0, locals := 21 }
theorem w_X2_firstOfMarkAfter_b25 {C : zC} (hx : z_ok C cX2_firstOfMarkAfter RX2 0) (hn : z_nL C = 2) (hR : z_R C = rm_X2_firstOfMarkAfter) {rr : Int × zS} (hq : z_fin C (some .int) (z_QI (z_g C) rr.1 rr.2)) {j : Nat} (hj : j < 6) (σ : zS) (s0 : Int) (h : f_X2_firstOfMarkAfter_b25 j σ s0 = some rr) : z_W C σ 25 [] [.int (zi s0)] := by
  unfold f_X2_firstOfMarkAfter_b25 at h
  cases h
  exact z_iret hx hq dX2_firstOfMarkAfter_25

theorem w_X2_firstOfMarkAfter {C : zC} (hx : z_ok C cX2_firstOfMarkAfter RX2 0) (hn : z_nL C = 2) (hR : z_R C = rm_X2_firstOfMarkAfter) {rr : Int × zS} (hq : z_fin C (some .int) (z_QI (z_g C) rr.1 rr.2)) {j : Nat} (hj : j < 6) (σ : zS) (x1 : Int) (h : f_X2_firstOfMarkAfter j σ x1 = some rr) : z_W C σ 0 [(0, .ref (z_ad (z_g C) (8 * j))), (1, .int (zi x1))] [] := by
  unfold f_X2_firstOfMarkAfter at h
  refine z_aload_n hx 0 dX2_firstOfMarkAfter_0 rfl ?_
  refine z_iload_n hx 1 dX2_firstOfMarkAfter_1 rfl ?_
  refine z_iconst hx (n := 1) dX2_firstOfMarkAfter_2 ?_
  refine z_iadd hx dX2_firstOfMarkAfter_3 ?_
  obtain ⟨r2, σ1, h4, h⟩ := z_bind_some h
  refine z_calli hx (As := [.int (zi (x1 + 1))]) (k := 8 * j) (met_X2_hasMark (z_l C) (z_g C) (z_ok_sd hx) hj h4) (z_lt0 (z_ok_sd hx) (by have := hj; omega)) (z_ka0 (z_ok_sd hx) hj _) rfl rfl cv_X2_58 (z_room hR ⟨Nat.le_of_ble_eq_true rfl, Nat.le_of_ble_eq_true rfl⟩) ⟨rfl, rfl⟩ rfl rfl (Nat.le_of_ble_eq_true rfl) dX2_firstOfMarkAfter_4 ?_
  refine z_if_eq hx (tgt := 21) dX2_firstOfMarkAfter_7 (by decide) h (fun h => h) (fun hc h => ?_) (fun hc h => ?_)
  · refine z_aload_n hx 0 dX2_firstOfMarkAfter_21 rfl ?_
    refine gf_X2_frames hx wf_X2_15 hj dX2_firstOfMarkAfter_22 ?_
    refine z_sub [] rfl ?_
    exact w_X2_firstOfMarkAfter_b25 hx hn hR hq hj σ1 (σ1 (8 * j) 1) h
  · refine z_aload_n hx 0 dX2_firstOfMarkAfter_10 rfl ?_
    refine gf_X2_firsts hx wf_X2_22 hj dX2_firstOfMarkAfter_11 ?_
    refine z_iload_n hx 1 dX2_firstOfMarkAfter_14 rfl ?_
    refine z_iconst hx (n := 1) dX2_firstOfMarkAfter_15 ?_
    refine z_iadd hx dX2_firstOfMarkAfter_16 ?_
    refine z_iald hx (n := 20) (z_lt0 (z_ok_sd hx) (by have := hj; omega)) (z_ka3 (z_ok_sd hx) hj _) rfl (by decide) dX2_firstOfMarkAfter_17 h (fun h => ?_)
    refine z_goto hx (tgt := 25) dX2_firstOfMarkAfter_18 (by decide) ?_
    refine z_sub [] rfl ?_
    exact w_X2_firstOfMarkAfter_b25 hx hn hR hq hj σ1 (σ1 (8 * j + 3) (x1 + 1)) h

theorem met_X2_firstOfMarkAfter (l : Launch) (g : zG) (hg : g.1 = 0) {j : Nat} (hj : j < 6) {σ : zS} {x1 : Int} {rr : Int × zS} (h : f_X2_firstOfMarkAfter j σ x1 = some rr) : z_Met l yX2_firstOfMarkAfter cX2_firstOfMarkAfter 2 (some .int) rm_X2_firstOfMarkAfter g [.ref (z_ad (g) (8 * j)), .int (zi x1)] σ (z_QI g rr.1 rr.2) := by
  refine z_enter (own := RX2) (sd := 0) (lv0 := [(0, .ref (z_ad (g) (8 * j))), (1, .int (zi x1))]) (by decide) rfl (Nat.le_of_ble_eq_true rfl) hg rfl (fun C hx hl hgC hR hn hq => ?_)
  subst hgC
  refine z_sub [0, 1] rfl ?_
  exact w_X2_firstOfMarkAfter hx hn hR hq hj σ x1 h
theorem dX2_isQuiet_0 : decode cX2_isQuiet 0 = .ok (.aload_n 0, 1) := by decide +kernel
theorem dX2_isQuiet_1 : decode cX2_isQuiet 1 = .ok (.getfield 38, 3) := by decide +kernel
theorem dX2_isQuiet_4 : decode cX2_isQuiet 4 = .ok (.iconst 1, 1) := by decide +kernel
theorem dX2_isQuiet_5 : decode cX2_isQuiet 5 = .ok (.iaload, 1) := by decide +kernel
theorem dX2_isQuiet_6 : decode cX2_isQuiet 6 = .ok (.istore_n 2, 1) := by decide +kernel
theorem dX2_isQuiet_7 : decode cX2_isQuiet 7 = .ok (.aload_n 0, 1) := by decide +kernel
theorem dX2_isQuiet_8 : decode cX2_isQuiet 8 = .ok (.iload_n 1, 1) := by decide +kernel
theorem dX2_isQuiet_9 : decode cX2_isQuiet 9 = .ok (.iconst 1, 1) := by decide +kernel
theorem dX2_isQuiet_10 : decode cX2_isQuiet 10 = .ok (.isub, 1) := by decide +kernel
theorem dX2_isQuiet_11 : decode cX2_isQuiet 11 = .ok (.invokevirtual 65, 3) := by decide +kernel
theorem dX2_isQuiet_14 : decode cX2_isQuiet 14 = .ok (.iload_n 2, 1) := by decide +kernel
theorem dX2_isQuiet_15 : decode cX2_isQuiet 15 = .ok (.if_icmp .gt 16, 3) := by decide +kernel
theorem dX2_isQuiet_18 : decode cX2_isQuiet 18 = .ok (.aload_n 0, 1) := by decide +kernel
theorem dX2_isQuiet_19 : decode cX2_isQuiet 19 = .ok (.iload_n 1, 1) := by decide +kernel
theorem dX2_isQuiet_20 : decode cX2_isQuiet 20 = .ok (.invokevirtual 65, 3) := by decide +kernel
theorem dX2_isQuiet_23 : decode cX2_isQuiet 23 = .ok (.iload_n 2, 1) := by decide +kernel
theorem dX2_isQuiet_24 : decode cX2_isQuiet 24 = .ok (.if_icmp .gt 7, 3) := by decide +kernel
theorem dX2_isQuiet_27 : decode cX2_isQuiet 27 = .ok (.iconst 1, 1) := by decide +kernel
theorem dX2_isQuiet_28 : decode cX2_isQuiet 28 = .ok (.goto 4, 3) := by decide +kernel
theorem dX2_isQuiet_31 : decode cX2_isQuiet 31 = .ok (.iconst 0, 1) := by decide +kernel
theorem dX2_isQuiet_32 : decode cX2_isQuiet 32 = .ok (.ireturn, 1) := by decide +kernel
abbrev rm_X2_isQuiet : Room := { frames := 1, cells := 0, slots := 0, locals := 21 }
theorem w_X2_isQuiet_b32 {C : zC} (hx : z_ok C cX2_isQuiet RX2 0) (hn : z_nL C = 3) (hR : z_R C = rm_X2_isQuiet) {rr : Int × zS} (hq : z_fin C (some .boolean) (z_QI (z_g C) rr.1 rr.2)) {j : Nat} (hj : j < 6) (σ : zS) (s0 : Int) (h : f_X2_isQuiet_b32 j σ s0 = some rr) : z_W C σ 32 [] [.int (zi s0)] := by
  unfold f_X2_isQuiet_b32 at h
  obtain ⟨hz, h⟩ := z_gd h
  cases h
  exact z_zret hx hz hq dX2_isQuiet_32

theorem w_X2_isQuiet_b31 {C : zC} (hx : z_ok C cX2_isQuiet RX2 0) (hn : z_nL C = 3) (hR : z_R C = rm_X2_isQuiet) {rr : Int × zS} (hq : z_fin C (some .boolean) (z_QI (z_g C) rr.1 rr.2)) {j : Nat} (hj : j < 6) (σ : zS) (h : f_X2_isQuiet_b31 j σ = some rr) : z_W C σ 31 [] [] := by
  unfold f_X2_isQuiet_b31 at h
  refine z_iconst hx (n := 0) dX2_isQuiet_31 ?_
  refine z_sub [] rfl ?_
  exact w_X2_isQuiet_b32 hx hn hR hq hj σ 0 h

theorem w_X2_isQuiet {C : zC} (hx : z_ok C cX2_isQuiet RX2 0) (hn : z_nL C = 3) (hR : z_R C = rm_X2_isQuiet) {rr : Int × zS} (hq : z_fin C (some .boolean) (z_QI (z_g C) rr.1 rr.2)) {j : Nat} (hj : j < 6) (σ : zS) (x1 : Int) (h : f_X2_isQuiet j σ x1 = some rr) : z_W C σ 0 [(0, .ref (z_ad (z_g C) (8 * j))), (1, .int (zi x1))] [] := by
  unfold f_X2_isQuiet at h
  refine z_aload_n hx 0 dX2_isQuiet_0 rfl ?_
  refine gf_X2_settings hx wf_X2_38 hj dX2_isQuiet_1 ?_
  refine z_iconst hx (n := 1) dX2_isQuiet_4 ?_
  refine z_iald hx (n := 7) (z_lt0 (z_ok_sd hx) (by have := hj; omega)) (z_ka7 (z_ok_sd hx) hj _) rfl (by decide) dX2_isQuiet_5 h (fun h => ?_)
  refine z_istore_n hx hn (lv' := [(2, .int (zi (σ (8 * j + 7) 1))), (0, .ref (z_ad (z_g C) (8 * j))), (1, .int (zi x1))]) dX2_isQuiet_6 (by decide) rfl ?_
  refine z_aload_n hx 1 dX2_isQuiet_7 rfl ?_
  refine z_iload_n hx 2 dX2_isQuiet_8 rfl ?_
  refine z_iconst hx (n := 1) dX2_isQuiet_9 ?_
  refine z_isub hx dX2_isQuiet_10 ?_
  obtain ⟨r2, σ1, h11, h⟩ := z_bind_some h
  refine z_calli hx (As := [.int (zi (x1 - 1))]) (k := 8 * j) (met_X2_levelAt (z_l C) (z_g C) (z_ok_sd hx) hj h11) (z_lt0 (z_ok_sd hx) (by have := hj; omega)) (z_ka0 (z_ok_sd hx) hj _) rfl rfl cv_X2_65 (z_room hR ⟨Nat.le_of_ble_eq_true rfl, Nat.le_of_ble_eq_true rfl⟩) ⟨rfl, rfl⟩ rfl rfl (Nat.le_of_ble_eq_true rfl) dX2_isQuiet_11 ?_
  refine z_iload_n hx 0 dX2_isQuiet_14 rfl ?_
  refine z_icmp_gt hx (tgt := 31) dX2_isQuiet_15 (by decide) h (fun h => h) (fun hc h => ?_) (fun hc h => ?_)
  · refine z_sub [] rfl ?_
    exact w_X2_isQuiet_b31 hx hn hR hq hj σ1 h
  · refine z_aload_n hx 1 dX2_isQuiet_18 rfl ?_
    refine z_iload_n hx 2 dX2_isQuiet_19 rfl ?_
    obtain ⟨r4, σ3, h20, h⟩ := z_bind_some h
    refine z_calli hx (As := [.int (zi x1)]) (k := 8 * j) (met_X2_levelAt (z_l C) (z_g C) (z_ok_sd hx) hj h20) (z_lt0 (z_ok_sd hx) (by have := hj; omega)) (z_ka0 (z_ok_sd hx) hj _) rfl rfl cv_X2_65 (z_room hR ⟨Nat.le_of_ble_eq_true rfl, Nat.le_of_ble_eq_true rfl⟩) ⟨rfl, rfl⟩ rfl rfl (Nat.le_of_ble_eq_true rfl) dX2_isQuiet_20 ?_
    refine z_iload_n hx 0 dX2_isQuiet_23 rfl ?_
    refine z_icmp_gt hx (tgt := 31) dX2_isQuiet_24 (by decide) h (fun h => h) (fun hc h => ?_) (fun hc h => ?_)
    · refine z_sub [] rfl ?_
      exact w_X2_isQuiet_b31 hx hn hR hq hj σ3 h
    · refine z_iconst hx (n := 1) dX2_isQuiet_27 ?_
      refine z_goto hx (tgt := 32) dX2_isQuiet_28 (by decide) ?_
      refine z_sub [] rfl ?_
      exact w_X2_isQuiet_b32 hx hn hR hq hj σ3 1 h

theorem met_X2_isQuiet (l : Launch) (g : zG) (hg : g.1 = 0) {j : Nat} (hj : j < 6) {σ : zS} {x1 : Int} {rr : Int × zS} (h : f_X2_isQuiet j σ x1 = some rr) : z_Met l yX2_isQuiet cX2_isQuiet 3 (some .boolean) rm_X2_isQuiet g [.ref (z_ad (g) (8 * j)), .int (zi x1)] σ (z_QI g rr.1 rr.2) := by
  refine z_enter (own := RX2) (sd := 0) (lv0 := [(0, .ref (z_ad (g) (8 * j))), (1, .int (zi x1))]) (by decide) rfl (Nat.le_of_ble_eq_true rfl) hg rfl (fun C hx hl hgC hR hn hq => ?_)
  subst hgC
  refine z_sub [0, 1] rfl ?_
  exact w_X2_isQuiet hx hn hR hq hj σ x1 h
theorem dX2_nearestQuietSeam_0 : decode cX2_nearestQuietSeam 0 = .ok (.iconst 0, 1) := by decide +kernel
theorem dX2_nearestQuietSeam_1 : decode cX2_nearestQuietSeam 1 = .ok (.istore 5, 2) := by decide +kernel
theorem dX2_nearestQuietSeam_3 : decode cX2_nearestQuietSeam 3 = .ok (.iload 5, 2) := by decide +kernel
theorem dX2_nearestQuietSeam_5 : decode cX2_nearestQuietSeam 5 = .ok (.iload_n 2, 1) := by decide +kernel
theorem dX2_nearestQuietSeam_6 : decode cX2_nearestQuietSeam 6 = .ok (.if_icmp .gt 71, 3) := by decide +kernel
theorem dX2_nearestQuietSeam_9 : decode cX2_nearestQuietSeam 9 = .ok (.iload_n 1, 1) := by decide +kernel
theorem dX2_nearestQuietSeam_10 : decode cX2_nearestQuietSeam 10 = .ok (.iload 5, 2) := by decide +kernel
theorem dX2_nearestQuietSeam_12 : decode cX2_nearestQuietSeam 12 = .ok (.isub, 1) := by decide +kernel
theorem dX2_nearestQuietSeam_13 : decode cX2_nearestQuietSeam 13 = .ok (.istore 6, 2) := by decide +kernel
theorem dX2_nearestQuietSeam_15 : decode cX2_nearestQuietSeam 15 = .ok (.iload 6, 2) := by decide +kernel
theorem dX2_nearestQuietSeam_17 : decode cX2_nearestQuietSeam 17 = .ok (.iload_n 3, 1) := by decide +kernel
theorem dX2_nearestQuietSeam_18 : decode cX2_nearestQuietSeam 18 = .ok (.if_icmp .lt 22, 3) := by decide +kernel
theorem dX2_nearestQuietSeam_21 : decode cX2_nearestQuietSeam 21 = .ok (.iload 6, 2) := by decide +kernel
theorem dX2_nearestQuietSeam_23 : decode cX2_nearestQuietSeam 23 = .ok (.iload 4, 2) := by decide +kernel
theorem dX2_nearestQuietSeam_25 : decode cX2_nearestQuietSeam 25 = .ok (.if_icmp .gt 15, 3) := by decide +kernel
theorem dX2_nearestQuietSeam_28 : decode cX2_nearestQuietSeam 28 = .ok (.aload_n 0, 1) := by decide +kernel
theorem dX2_nearestQuietSeam_29 : decode cX2_nearestQuietSeam 29 = .ok (.iload 6, 2) := by decide +kernel
theorem dX2_nearestQuietSeam_31 : decode cX2_nearestQuietSeam 31 = .ok (.invokevirtual 62, 3) := by decide +kernel
theorem dX2_nearestQuietSeam_34 : decode cX2_nearestQuietSeam 34 = .ok (.ifCond .eq 6, 3) := by decide +kernel
theorem dX2_nearestQuietSeam_37 : decode cX2_nearestQuietSeam 37 = .ok (.iload 6, 2) := by decide +kernel
theorem dX2_nearestQuietSeam_39 : decode cX2_nearestQuietSeam 39 = .ok (.ireturn, 1) := by decide +kernel
theorem dX2_nearestQuietSeam_40 : decode cX2_nearestQuietSeam 40 = .ok (.iload_n 1, 1) := by decide +kernel
theorem dX2_nearestQuietSeam_41 : decode cX2_nearestQuietSeam 41 = .ok (.iload 5, 2) := by decide +kernel
theorem dX2_nearestQuietSeam_43 : decode cX2_nearestQuietSeam 43 = .ok (.iadd, 1) := by decide +kernel
theorem dX2_nearestQuietSeam_44 : decode cX2_nearestQuietSeam 44 = .ok (.istore 7, 2) := by decide +kernel
theorem dX2_nearestQuietSeam_46 : decode cX2_nearestQuietSeam 46 = .ok (.iload 7, 2) := by decide +kernel
theorem dX2_nearestQuietSeam_48 : decode cX2_nearestQuietSeam 48 = .ok (.iload_n 3, 1) := by decide +kernel
theorem dX2_nearestQuietSeam_49 : decode cX2_nearestQuietSeam 49 = .ok (.if_icmp .lt 22, 3) := by decide +kernel
theorem dX2_nearestQuietSeam_52 : decode cX2_nearestQuietSeam 52 = .ok (.iload 7, 2) := by decide +kernel
theorem dX2_nearestQuietSeam_54 : decode cX2_nearestQuietSeam 54 = .ok (.iload 4, 2) := by decide +kernel
theorem dX2_nearestQuietSeam_56 : decode cX2_nearestQuietSeam 56 = .ok (.if_icmp .gt 15, 3) := by decide +kernel
theorem dX2_nearestQuietSeam_59 : decode cX2_nearestQuietSeam 59 = .ok (.aload_n 0, 1) := by decide +kernel
theorem dX2_nearestQuietSeam_60 : decode cX2_nearestQuietSeam 60 = .ok (.iload 7, 2) := by decide +kernel
theorem dX2_nearestQuietSeam_62 : decode cX2_nearestQuietSeam 62 = .ok (.invokevirtual 62, 3) := by decide +kernel
theorem dX2_nearestQuietSeam_65 : decode cX2_nearestQuietSeam 65 = .ok (.ifCond .eq 6, 3) := by decide +kernel
theorem dX2_nearestQuietSeam_68 : decode cX2_nearestQuietSeam 68 = .ok (.iload 7, 2) := by decide +kernel
theorem dX2_nearestQuietSeam_70 : decode cX2_nearestQuietSeam 70 = .ok (.ireturn, 1) := by decide +kernel
theorem dX2_nearestQuietSeam_71 : decode cX2_nearestQuietSeam 71 = .ok (.iinc 5 1, 3) := by decide +kernel
theorem dX2_nearestQuietSeam_74 : decode cX2_nearestQuietSeam 74 = .ok (.goto (-71), 3) := by decide +kernel
theorem dX2_nearestQuietSeam_77 : decode cX2_nearestQuietSeam 77 = .ok (.iconst (-1), 1) := by decide +kernel
theorem dX2_nearestQuietSeam_78 : decode cX2_nearestQuietSeam 78 = .ok (.ireturn, 1) := by decide +kernel
abbrev rm_X2_nearestQuietSeam : Room := { frames := 2, cells := 0, slots := 0, locals := 43 }
theorem w_X2_nearestQuietSeam_b71 {C : zC} (hx : z_ok C cX2_nearestQuietSeam RX2 0) (hn : z_nL C = 8) (hR : z_R C = rm_X2_nearestQuietSeam) {rr : Int × zS} (hq : z_fin C (some .int) (z_QI (z_g C) rr.1 rr.2)) {j : Nat} (hj : j < 6) {K3 : zS → Int → Int → Int → Int → Int → Option (Int × zS)} (hK3 : ∀ (σ : zS) (x1 : Int) (x2 : Int) (x3 : Int) (x4 : Int) (x5 : Int) , K3 σ x1 x2 x3 x4 x5 = some rr → z_W C σ 3 [(0, .ref (z_ad (z_g C) (8 * j))), (1, .int (zi x1)), (2, .int (zi x2)), (3, .int (zi x3)), (4, .int (zi x4)), (5, .int (zi x5))] []) (σ : zS) (x1 : Int) (x2 : Int) (x3 : Int) (x4 : Int) (x5 : Int) (h : f_X2_nearestQuietSeam_b71 j K3 σ x1 x2 x3 x4 x5 = some rr) : z_W C σ 71 [(0, .ref (z_ad (z_g C) (8 * j))), (1, .int (zi x1)), (2, .int (zi x2)), (3, .int (zi x3)), (4, .int (zi x4)), (5, .int (zi x5))] [] := by
  unfold f_X2_nearestQuietSeam_b71 at h
  refine z_iinc hx hn 5 (lv' := [(5, .int (zi (x5 + 1))), (0, .ref (z_ad (z_g C) (8 * j))), (1, .int (zi x1)), (2, .int (zi x2)), (3, .int (zi x3)), (4, .int (zi x4))]) dX2_nearestQuietSeam_71 rfl (by decide) rfl ?_
  refine z_goto hx (tgt := 3) dX2_nearestQuietSeam_74 (by decide) ?_
  refine z_sub [1, 2, 3, 4, 5, 0] rfl ?_
  exact hK3 σ x1 x2 x3 x4 (x5 + 1) h

theorem w_X2_nearestQuietSeam_b40 {C : zC} (hx : z_ok C cX2_nearestQuietSeam RX2 0) (hn : z_nL C = 8) (hR : z_R C = rm_X2_nearestQuietSeam) {rr : Int × zS} (hq : z_fin C (some .int) (z_QI (z_g C) rr.1 rr.2)) {j : Nat} (hj : j < 6) {K3 : zS → Int → Int → Int → Int → Int → Option (Int × zS)} (hK3 : ∀ (σ : zS) (x1 : Int) (x2 : Int) (x3 : Int) (x4 : Int) (x5 : Int) , K3 σ x1 x2 x3 x4 x5 = some rr → z_W C σ 3 [(0, .ref (z_ad (z_g C) (8 * j))), (1, .int (zi x1)), (2, .int (zi x2)), (3, .int (zi x3)), (4, .int (zi x4)), (5, .int (zi x5))] []) (σ : zS) (x1 : Int) (x2 : Int) (x3 : Int) (x4 : Int) (x5 : Int) (h : f_X2_nearestQuietSeam_b40 j K3 σ x1 x2 x3 x4 x5 = some rr) : z_W C σ 40 [(0, .ref (z_ad (z_g C) (8 * j))), (1, .int (zi x1)), (2, .int (zi x2)), (3, .int (zi x3)), (4, .int (zi x4)), (5, .int (zi x5))] [] := by
  unfold f_X2_nearestQuietSeam_b40 at h
  refine z_iload_n hx 1 dX2_nearestQuietSeam_40 rfl ?_
  refine z_iload hx 5 dX2_nearestQuietSeam_41 rfl ?_
  refine z_iadd hx dX2_nearestQuietSeam_43 ?_
  refine z_istore hx hn (lv' := [(7, .int (zi (x1 + x5))), (0, .ref (z_ad (z_g C) (8 * j))), (1, .int (zi x1)), (2, .int (zi x2)), (3, .int (zi x3)), (4, .int (zi x4)), (5, .int (zi x5))]) dX2_nearestQuietSeam_44 (by decide) rfl ?_
  refine z_iload hx 0 dX2_nearestQuietSeam_46 rfl ?_
  refine z_iload_n hx 4 dX2_nearestQuietSeam_48 rfl ?_
  refine z_icmp_lt hx (tgt := 71) dX2_nearestQuietSeam_49 (by decide) h (fun h => h) (fun hc h => ?_) (fun hc h => ?_)
  · refine z_sub [1, 2, 3, 4, 5, 6] rfl ?_
    exact w_X2_nearestQuietSeam_b71 hx hn hR hq hj hK3 σ x1 x2 x3 x4 x5 h
  · refine z_iload hx 0 dX2_nearestQuietSeam_52 rfl ?_
    refine z_iload hx 5 dX2_nearestQuietSeam_54 rfl ?_
    refine z_icmp_gt hx (tgt := 71) dX2_nearestQuietSeam_56 (by decide) h (fun h => h) (fun hc h => ?_) (fun hc h => ?_)
    · refine z_sub [1, 2, 3, 4, 5, 6] rfl ?_
      exact w_X2_nearestQuietSeam_b71 hx hn hR hq hj hK3 σ x1 x2 x3 x4 x5 h
    · refine z_aload_n hx 1 dX2_nearestQuietSeam_59 rfl ?_
      refine z_iload hx 0 dX2_nearestQuietSeam_60 rfl ?_
      obtain ⟨r2, σ1, h62, h⟩ := z_bind_some h
      refine z_calli hx (As := [.int (zi (x1 + x5))]) (k := 8 * j) (met_X2_isQuiet (z_l C) (z_g C) (z_ok_sd hx) hj h62) (z_lt0 (z_ok_sd hx) (by have := hj; omega)) (z_ka0 (z_ok_sd hx) hj _) rfl rfl cv_X2_62 (z_room hR ⟨Nat.le_of_ble_eq_true rfl, Nat.le_of_ble_eq_true rfl⟩) ⟨rfl, rfl⟩ rfl rfl (Nat.le_of_ble_eq_true rfl) dX2_nearestQuietSeam_62 ?_
      refine z_if_eq hx (tgt := 71) dX2_nearestQuietSeam_65 (by decide) h (fun h => h) (fun hc h => ?_) (fun hc h => ?_)
      · refine z_sub [1, 2, 3, 4, 5, 6] rfl ?_
        exact w_X2_nearestQuietSeam_b71 hx hn hR hq hj hK3 σ1 x1 x2 x3 x4 x5 h
      · refine z_iload hx 0 dX2_nearestQuietSeam_68 rfl ?_
        cases h
        exact z_iret hx hq dX2_nearestQuietSeam_70

theorem w_X2_nearestQuietSeam_b3 {C : zC} (hx : z_ok C cX2_nearestQuietSeam RX2 0) (hn : z_nL C = 8) (hR : z_R C = rm_X2_nearestQuietSeam) {rr : Int × zS} (hq : z_fin C (some .int) (z_QI (z_g C) rr.1 rr.2)) {j : Nat} (hj : j < 6) {K3 : zS → Int → Int → Int → Int → Int → Option (Int × zS)} (hK3 : ∀ (σ : zS) (x1 : Int) (x2 : Int) (x3 : Int) (x4 : Int) (x5 : Int) , K3 σ x1 x2 x3 x4 x5 = some rr → z_W C σ 3 [(0, .ref (z_ad (z_g C) (8 * j))), (1, .int (zi x1)), (2, .int (zi x2)), (3, .int (zi x3)), (4, .int (zi x4)), (5, .int (zi x5))] []) (σ : zS) (x1 : Int) (x2 : Int) (x3 : Int) (x4 : Int) (x5 : Int) (h : f_X2_nearestQuietSeam_b3 j K3 σ x1 x2 x3 x4 x5 = some rr) : z_W C σ 3 [(0, .ref (z_ad (z_g C) (8 * j))), (1, .int (zi x1)), (2, .int (zi x2)), (3, .int (zi x3)), (4, .int (zi x4)), (5, .int (zi x5))] [] := by
  unfold f_X2_nearestQuietSeam_b3 at h
  refine z_iload hx 5 dX2_nearestQuietSeam_3 rfl ?_
  refine z_iload_n hx 2 dX2_nearestQuietSeam_5 rfl ?_
  refine z_icmp_gt hx (tgt := 77) dX2_nearestQuietSeam_6 (by decide) h (fun h => h) (fun hc h => ?_) (fun hc h => ?_)
  · refine z_iconst hx (n := (-1)) dX2_nearestQuietSeam_77 ?_
    cases h
    exact z_iret hx hq dX2_nearestQuietSeam_78
  · refine z_iload_n hx 1 dX2_nearestQuietSeam_9 rfl ?_
    refine z_iload hx 5 dX2_nearestQuietSeam_10 rfl ?_
    refine z_isub hx dX2_nearestQuietSeam_12 ?_
    refine z_istore hx hn (lv' := [(6, .int (zi (x1 - x5))), (0, .ref (z_ad (z_g C) (8 * j))), (1, .int (zi x1)), (2, .int (zi x2)), (3, .int (zi x3)), (4, .int (zi x4)), (5, .int (zi x5))]) dX2_nearestQuietSeam_13 (by decide) rfl ?_
    refine z_iload hx 0 dX2_nearestQuietSeam_15 rfl ?_
    refine z_iload_n hx 4 dX2_nearestQuietSeam_17 rfl ?_
    refine z_icmp_lt hx (tgt := 40) dX2_nearestQuietSeam_18 (by decide) h (fun h => h) (fun hc h => ?_) (fun hc h => ?_)
    · refine z_sub [1, 2, 3, 4, 5, 6] rfl ?_
      exact w_X2_nearestQuietSeam_b40 hx hn hR hq hj hK3 σ x1 x2 x3 x4 x5 h
    · refine z_iload hx 0 dX2_nearestQuietSeam_21 rfl ?_
      refine z_iload hx 5 dX2_nearestQuietSeam_23 rfl ?_
      refine z_icmp_gt hx (tgt := 40) dX2_nearestQuietSeam_25 (by decide) h (fun h => h) (fun hc h => ?_) (fun hc h => ?_)
      · refine z_sub [1, 2, 3, 4, 5, 6] rfl ?_
        exact w_X2_nearestQuietSeam_b40 hx hn hR hq hj hK3 σ x1 x2 x3 x4 x5 h
      · refine z_aload_n hx 1 dX2_nearestQuietSeam_28 rfl ?_
        refine z_iload hx 0 dX2_nearestQuietSeam_29 rfl ?_
        obtain ⟨r2, σ1, h31, h⟩ := z_bind_some h
        refine z_calli hx (As := [.int (zi (x1 - x5))]) (k := 8 * j) (met_X2_isQuiet (z_l C) (z_g C) (z_ok_sd hx) hj h31) (z_lt0 (z_ok_sd hx) (by have := hj; omega)) (z_ka0 (z_ok_sd hx) hj _) rfl rfl cv_X2_62 (z_room hR ⟨Nat.le_of_ble_eq_true rfl, Nat.le_of_ble_eq_true rfl⟩) ⟨rfl, rfl⟩ rfl rfl (Nat.le_of_ble_eq_true rfl) dX2_nearestQuietSeam_31 ?_
        refine z_if_eq hx (tgt := 40) dX2_nearestQuietSeam_34 (by decide) h (fun h => h) (fun hc h => ?_) (fun hc h => ?_)
        · refine z_sub [1, 2, 3, 4, 5, 6] rfl ?_
          exact w_X2_nearestQuietSeam_b40 hx hn hR hq hj hK3 σ1 x1 x2 x3 x4 x5 h
        · refine z_iload hx 0 dX2_nearestQuietSeam_37 rfl ?_
          cases h
          exact z_iret hx hq dX2_nearestQuietSeam_39

theorem w_X2_nearestQuietSeam_l3 {C : zC} (hx : z_ok C cX2_nearestQuietSeam RX2 0) (hn : z_nL C = 8) (hR : z_R C = rm_X2_nearestQuietSeam) {rr : Int × zS} (hq : z_fin C (some .int) (z_QI (z_g C) rr.1 rr.2)) {j : Nat} (hj : j < 6) : ∀ (n : Nat) (σ : zS) (x1 : Int) (x2 : Int) (x3 : Int) (x4 : Int) (x5 : Int) (_ : f_X2_nearestQuietSeam_l3 j n σ x1 x2 x3 x4 x5 = some rr), z_W C σ 3 [(0, .ref (z_ad (z_g C) (8 * j))), (1, .int (zi x1)), (2, .int (zi x2)), (3, .int (zi x3)), (4, .int (zi x4)), (5, .int (zi x5))] [] := by
  intro n
  induction n with
  | zero => intro σ x1 x2 x3 x4 x5 h; cases h
  | succ n ih =>
    intro σ x1 x2 x3 x4 x5 h
    exact w_X2_nearestQuietSeam_b3 hx hn hR hq hj ih σ x1 x2 x3 x4 x5 h
theorem w_X2_nearestQuietSeam {C : zC} (hx : z_ok C cX2_nearestQuietSeam RX2 0) (hn : z_nL C = 8) (hR : z_R C = rm_X2_nearestQuietSeam) {rr : Int × zS} (hq : z_fin C (some .int) (z_QI (z_g C) rr.1 rr.2)) {j : Nat} (hj : j < 6) (σ : zS) (x1 : Int) (x2 : Int) (x3 : Int) (x4 : Int) (h : f_X2_nearestQuietSeam j σ x1 x2 x3 x4 = some rr) : z_W C σ 0 [(0, .ref (z_ad (z_g C) (8 * j))), (1, .int (zi x1)), (2, .int (zi x2)), (3, .int (zi x3)), (4, .int (zi x4))] [] := by
  unfold f_X2_nearestQuietSeam at h
  refine z_iconst hx (n := 0) dX2_nearestQuietSeam_0 ?_
  refine z_istore hx hn (lv' := [(5, .int (zi 0)), (0, .ref (z_ad (z_g C) (8 * j))), (1, .int (zi x1)), (2, .int (zi x2)), (3, .int (zi x3)), (4, .int (zi x4))]) dX2_nearestQuietSeam_1 (by decide) rfl ?_
  refine z_sub [1, 2, 3, 4, 5, 0] rfl ?_
  exact w_X2_nearestQuietSeam_l3 hx hn hR hq hj z_fuel σ x1 x2 x3 x4 0 h

theorem met_X2_nearestQuietSeam (l : Launch) (g : zG) (hg : g.1 = 0) {j : Nat} (hj : j < 6) {σ : zS} {x1 : Int} {x2 : Int} {x3 : Int} {x4 : Int} {rr : Int × zS} (h : f_X2_nearestQuietSeam j σ x1 x2 x3 x4 = some rr) : z_Met l yX2_nearestQuietSeam cX2_nearestQuietSeam 8 (some .int) rm_X2_nearestQuietSeam g [.ref (z_ad (g) (8 * j)), .int (zi x1), .int (zi x2), .int (zi x3), .int (zi x4)] σ (z_QI g rr.1 rr.2) := by
  refine z_enter (own := RX2) (sd := 0) (lv0 := [(0, .ref (z_ad (g) (8 * j))), (1, .int (zi x1)), (2, .int (zi x2)), (3, .int (zi x3)), (4, .int (zi x4))]) (by decide) rfl (Nat.le_of_ble_eq_true rfl) hg rfl (fun C hx hl hgC hR hn hq => ?_)
  subst hgC
  refine z_sub [0, 1, 2, 3, 4] rfl ?_
  exact w_X2_nearestQuietSeam hx hn hR hq hj σ x1 x2 x3 x4 h
end
section
/-! walks, by program: ['X0', 'X1'] -/
theorem dX0_endOfLastCut_0 : decode cX0_endOfLastCut 0 = .ok (.aload_n 0, 1) := by decide +kernel
theorem dX0_endOfLastCut_1 : decode cX0_endOfLastCut 1 = .ok (.getfield 28, 3) := by decide +kernel
theorem dX0_endOfLastCut_4 : decode cX0_endOfLastCut 4 = .ok (.ifCond .le 26, 3) := by decide +kernel
theorem dX0_endOfLastCut_7 : decode cX0_endOfLastCut 7 = .ok (.aload_n 0, 1) := by decide +kernel
theorem dX0_endOfLastCut_8 : decode cX0_endOfLastCut 8 = .ok (.getfield 28, 3) := by decide +kernel
theorem dX0_endOfLastCut_11 : decode cX0_endOfLastCut 11 = .ok (.bipush 20, 2) := by decide +kernel
theorem dX0_endOfLastCut_13 : decode cX0_endOfLastCut 13 = .ok (.if_icmp .gt 17, 3) := by decide +kernel
theorem dX0_endOfLastCut_16 : decode cX0_endOfLastCut 16 = .ok (.aload_n 0, 1) := by decide +kernel
theorem dX0_endOfLastCut_17 : decode cX0_endOfLastCut 17 = .ok (.getfield 15, 3) := by decide +kernel
theorem dX0_endOfLastCut_20 : decode cX0_endOfLastCut 20 = .ok (.aload_n 0, 1) := by decide +kernel
theorem dX0_endOfLastCut_21 : decode cX0_endOfLastCut 21 = .ok (.getfield 28, 3) := by decide +kernel
theorem dX0_endOfLastCut_24 : decode cX0_endOfLastCut 24 = .ok (.iconst 1, 1) := by decide +kernel
theorem dX0_endOfLastCut_25 : decode cX0_endOfLastCut 25 = .ok (.isub, 1) := by decide +kernel
theorem dX0_endOfLastCut_26 : decode cX0_endOfLastCut 26 = .ok (.iaload, 1) := by decide +kernel
theorem dX0_endOfLastCut_27 : decode cX0_endOfLastCut 27 = .ok (.goto 4, 3) := by decide +kernel
theorem dX0_endOfLastCut_30 : decode cX0_endOfLastCut 30 = .ok (.iconst 0, 1) := by decide +kernel
theorem dX0_endOfLastCut_31 : decode cX0_endOfLastCut 31 = .ok (.ireturn, 1) := by decide +kernel
abbrev rm_X0_endOfLastCut : Room := { frames := 0, cells := 0, slots := 0, locals := 0 }
theorem w_X0_endOfLastCut_b31 {C : zC} (hx : z_ok C cX0_endOfLastCut RX0 0) (hn : z_nL C = 1) (hR : z_R C = rm_X0_endOfLastCut) {rr : Int × zS} (hq : z_fin C (some .int) (z_QI (z_g C) rr.1 rr.2)) (σ : zS) (s0 : Int) (h : f_X0_endOfLastCut_b31 σ s0 = some rr) : z_W C σ 31 [] [.int (zi s0)] := by
  unfold f_X0_endOfLastCut_b31 at h
  cases h
  exact z_iret hx hq dX0_endOfLastCut_31

theorem w_X0_endOfLastCut_b30 {C : zC} (hx : z_ok C cX0_endOfLastCut RX0 0) (hn : z_nL C = 1) (hR : z_R C = rm_X0_endOfLastCut) {rr : Int × zS} (hq : z_fin C (some .int) (z_QI (z_g C) rr.1 rr.2)) (σ : zS) (h : f_X0_endOfLastCut_b30 σ = some rr) : z_W C σ 30 [] [] := by
  unfold f_X0_endOfLastCut_b30 at h
  refine z_iconst hx (n := 0) dX0_endOfLastCut_30 ?_
  refine z_sub [] rfl ?_
  exact w_X0_endOfLastCut_b31 hx hn hR hq σ 0 h

theorem w_X0_endOfLastCut {C : zC} (hx : z_ok C cX0_endOfLastCut RX0 0) (hn : z_nL C = 1) (hR : z_R C = rm_X0_endOfLastCut) {rr : Int × zS} (hq : z_fin C (some .int) (z_QI (z_g C) rr.1 rr.2)) (σ : zS) (h : f_X0_endOfLastCut σ = some rr) : z_W C σ 0 [(0, .ref (z_ad (z_g C) 48))] [] := by
  unfold f_X0_endOfLastCut at h
  refine z_aload_n hx 0 dX0_endOfLastCut_0 rfl ?_
  refine gf_X0_count hx wf_X0_28 dX0_endOfLastCut_1 ?_
  refine z_if_le hx (tgt := 30) dX0_endOfLastCut_4 (by decide) h (fun h => h) (fun hc h => ?_) (fun hc h => ?_)
  · refine z_sub [] rfl ?_
    exact w_X0_endOfLastCut_b30 hx hn hR hq σ h
  · refine z_aload_n hx 0 dX0_endOfLastCut_7 rfl ?_
    refine gf_X0_count hx wf_X0_28 dX0_endOfLastCut_8 ?_
    refine z_bipush hx (n := 20) dX0_endOfLastCut_11 rfl ?_
    refine z_icmp_gt hx (tgt := 30) dX0_endOfLastCut_13 (by decide) h (fun h => ⟨h, by decide⟩) (fun hc h => ?_) (fun hc h => ?_)
    · refine z_sub [] rfl ?_
      exact w_X0_endOfLastCut_b30 hx hn hR hq σ h
    · refine z_aload_n hx 0 dX0_endOfLastCut_16 rfl ?_
      refine gf_X0_ends hx wf_X0_15 dX0_endOfLastCut_17 ?_
      refine z_aload_n hx 0 dX0_endOfLastCut_20 rfl ?_
      refine gf_X0_count hx wf_X0_28 dX0_endOfLastCut_21 ?_
      refine z_iconst hx (n := 1) dX0_endOfLastCut_24 ?_
      refine z_isub hx dX0_endOfLastCut_25 ?_
      refine z_iald hx (n := 20) (z_lt0 (z_ok_sd hx) (by decide)) (z_kb50 (z_ok_sd hx) _) rfl (by decide) dX0_endOfLastCut_26 h (fun h => ?_)
      refine z_goto hx (tgt := 31) dX0_endOfLastCut_27 (by decide) ?_
      refine z_sub [] rfl ?_
      exact w_X0_endOfLastCut_b31 hx hn hR hq σ (σ 50 ((σ 48 5) - 1)) h

theorem met_X0_endOfLastCut (l : Launch) (g : zG) (hg : g.1 = 0) {σ : zS} {rr : Int × zS} (h : f_X0_endOfLastCut σ = some rr) : z_Met l yX0_endOfLastCut cX0_endOfLastCut 1 (some .int) rm_X0_endOfLastCut g [.ref (z_ad (g) 48)] σ (z_QI g rr.1 rr.2) := by
  refine z_enter (own := RX0) (sd := 0) (lv0 := [(0, .ref (z_ad (g) 48))]) (by decide) rfl (Nat.le_of_ble_eq_true rfl) hg rfl (fun C hx hl hgC hR hn hq => ?_)
  subst hgC
  refine z_sub [0] rfl ?_
  exact w_X0_endOfLastCut hx hn hR hq σ h
theorem dX0_addCut_0 : decode cX0_addCut 0 = .ok (.aload_n 0, 1) := by decide +kernel
theorem dX0_addCut_1 : decode cX0_addCut 1 = .ok (.getfield 28, 3) := by decide +kernel
theorem dX0_addCut_4 : decode cX0_addCut 4 = .ok (.bipush 20, 2) := by decide +kernel
theorem dX0_addCut_6 : decode cX0_addCut 6 = .ok (.if_icmp .lt 4, 3) := by decide +kernel
theorem dX0_addCut_9 : decode cX0_addCut 9 = .ok (.return_, 1) := by decide +kernel
theorem dX0_addCut_10 : decode cX0_addCut 10 = .ok (.aload_n 0, 1) := by decide +kernel
theorem dX0_addCut_11 : decode cX0_addCut 11 = .ok (.getfield 9, 3) := by decide +kernel
theorem dX0_addCut_14 : decode cX0_addCut 14 = .ok (.aload_n 0, 1) := by decide +kernel
theorem dX0_addCut_15 : decode cX0_addCut 15 = .ok (.getfield 28, 3) := by decide +kernel
theorem dX0_addCut_18 : decode cX0_addCut 18 = .ok (.iload_n 1, 1) := by decide +kernel
theorem dX0_addCut_19 : decode cX0_addCut 19 = .ok (.iastore, 1) := by decide +kernel
theorem dX0_addCut_20 : decode cX0_addCut 20 = .ok (.aload_n 0, 1) := by decide +kernel
theorem dX0_addCut_21 : decode cX0_addCut 21 = .ok (.getfield 15, 3) := by decide +kernel
theorem dX0_addCut_24 : decode cX0_addCut 24 = .ok (.aload_n 0, 1) := by decide +kernel
theorem dX0_addCut_25 : decode cX0_addCut 25 = .ok (.getfield 28, 3) := by decide +kernel
theorem dX0_addCut_28 : decode cX0_addCut 28 = .ok (.iload_n 2, 1) := by decide +kernel
theorem dX0_addCut_29 : decode cX0_addCut 29 = .ok (.iastore, 1) := by decide +kernel
theorem dX0_addCut_30 : decode cX0_addCut 30 = .ok (.aload_n 0, 1) := by decide +kernel
theorem dX0_addCut_31 : decode cX0_addCut 31 = .ok (.getfield 18, 3) := by decide +kernel
theorem dX0_addCut_34 : decode cX0_addCut 34 = .ok (.aload_n 0, 1) := by decide +kernel
theorem dX0_addCut_35 : decode cX0_addCut 35 = .ok (.getfield 28, 3) := by decide +kernel
theorem dX0_addCut_38 : decode cX0_addCut 38 = .ok (.iload_n 3, 1) := by decide +kernel
theorem dX0_addCut_39 : decode cX0_addCut 39 = .ok (.iastore, 1) := by decide +kernel
theorem dX0_addCut_40 : decode cX0_addCut 40 = .ok (.aload_n 0, 1) := by decide +kernel
theorem dX0_addCut_41 : decode cX0_addCut 41 = .ok (.getfield 21, 3) := by decide +kernel
theorem dX0_addCut_44 : decode cX0_addCut 44 = .ok (.aload_n 0, 1) := by decide +kernel
theorem dX0_addCut_45 : decode cX0_addCut 45 = .ok (.getfield 28, 3) := by decide +kernel
theorem dX0_addCut_48 : decode cX0_addCut 48 = .ok (.iload 4, 2) := by decide +kernel
theorem dX0_addCut_50 : decode cX0_addCut 50 = .ok (.bastore, 1) := by decide +kernel
theorem dX0_addCut_51 : decode cX0_addCut 51 = .ok (.aload_n 0, 1) := by decide +kernel
theorem dX0_addCut_52 : decode cX0_addCut 52 = .ok (.getfield 25, 3) := by decide +kernel
theorem dX0_addCut_55 : decode cX0_addCut 55 = .ok (.aload_n 0, 1) := by decide +kernel
theorem dX0_addCut_56 : decode cX0_addCut 56 = .ok (.getfield 28, 3) := by decide +kernel
theorem dX0_addCut_59 : decode cX0_addCut 59 = .ok (.iload 5, 2) := by decide +kernel
theorem dX0_addCut_61 : decode cX0_addCut 61 = .ok (.iastore, 1) := by decide +kernel
theorem dX0_addCut_62 : decode cX0_addCut 62 = .ok (.aload_n 0, 1) := by decide +kernel
theorem dX0_addCut_63 : decode cX0_addCut 63 = .ok (.dup, 1) := by decide +kernel
theorem dX0_addCut_64 : decode cX0_addCut 64 = .ok (.getfield 28, 3) := by decide +kernel
theorem dX0_addCut_67 : decode cX0_addCut 67 = .ok (.iconst 1, 1) := by decide +kernel
theorem dX0_addCut_68 : decode cX0_addCut 68 = .ok (.iadd, 1) := by decide +kernel
theorem dX0_addCut_69 : decode cX0_addCut 69 = .ok (.putfield 28, 3) := by decide +kernel
theorem dX0_addCut_72 : decode cX0_addCut 72 = .ok (.return_, 1) := by decide +kernel
abbrev rm_X0_addCut : Room := { frames := 0, cells := 0, slots := 0, locals := 0 }
theorem w_X0_addCut {C : zC} (hx : z_ok C cX0_addCut RX0 0) (hn : z_nL C = 6) (hR : z_R C = rm_X0_addCut) {rr : Unit × zS} (hq : z_fin C none (z_QV (z_g C) rr.2)) (σ : zS) (x1 : Int) (x2 : Int) (x3 : Int) (x4 : Int) (x5 : Int) (h : f_X0_addCut σ x1 x2 x3 x4 x5 = some rr) : z_W C σ 0 [(0, .ref (z_ad (z_g C) 48)), (1, .int (zi x1)), (2, .int (zi x2)), (3, .int (zi x3)), (4, .int (zi x4)), (5, .int (zi x5))] [] := by
  unfold f_X0_addCut at h
  refine z_aload_n hx 0 dX0_addCut_0 rfl ?_
  refine gf_X0_count hx wf_X0_28 dX0_addCut_1 ?_
  refine z_bipush hx (n := 20) dX0_addCut_4 rfl ?_
  refine z_icmp_lt hx (tgt := 10) dX0_addCut_6 (by decide) h (fun h => ⟨h, by decide⟩) (fun hc h => ?_) (fun hc h => ?_)
  · refine z_aload_n hx 0 dX0_addCut_10 rfl ?_
    refine gf_X0_begins hx wf_X0_9 dX0_addCut_11 ?_
    refine z_aload_n hx 0 dX0_addCut_14 rfl ?_
    refine gf_X0_count hx wf_X0_28 dX0_addCut_15 ?_
    refine z_iload_n hx 1 dX0_addCut_18 rfl ?_
    refine z_iast hx (n := 20) (z_lt0 (z_ok_sd hx) (by decide)) (z_kb49 (z_ok_sd hx)) rfl (by decide) dX0_addCut_19 h (fun σ1 h => ?_)
    refine z_aload_n hx 0 dX0_addCut_20 rfl ?_
    refine gf_X0_ends hx wf_X0_15 dX0_addCut_21 ?_
    refine z_aload_n hx 0 dX0_addCut_24 rfl ?_
    refine gf_X0_count hx wf_X0_28 dX0_addCut_25 ?_
    refine z_iload_n hx 2 dX0_addCut_28 rfl ?_
    refine z_iast hx (n := 20) (z_lt0 (z_ok_sd hx) (by decide)) (z_kb50 (z_ok_sd hx)) rfl (by decide) dX0_addCut_29 h (fun σ2 h => ?_)
    refine z_aload_n hx 0 dX0_addCut_30 rfl ?_
    refine gf_X0_pauses hx wf_X0_18 dX0_addCut_31 ?_
    refine z_aload_n hx 0 dX0_addCut_34 rfl ?_
    refine gf_X0_count hx wf_X0_28 dX0_addCut_35 ?_
    refine z_iload_n hx 3 dX0_addCut_38 rfl ?_
    refine z_iast hx (n := 20) (z_lt0 (z_ok_sd hx) (by decide)) (z_kb51 (z_ok_sd hx)) rfl (by decide) dX0_addCut_39 h (fun σ3 h => ?_)
    refine z_aload_n hx 0 dX0_addCut_40 rfl ?_
    refine gf_X0_rough hx wf_X0_21 dX0_addCut_41 ?_
    refine z_aload_n hx 0 dX0_addCut_44 rfl ?_
    refine gf_X0_count hx wf_X0_28 dX0_addCut_45 ?_
    refine z_iload hx 4 dX0_addCut_48 rfl ?_
    refine z_zast hx (n := 20) (z_lt0 (z_ok_sd hx) (by decide)) (z_kb52 (z_ok_sd hx)) rfl (by decide) dX0_addCut_50 h (fun σ4 h => ?_)
    refine z_aload_n hx 0 dX0_addCut_51 rfl ?_
    refine gf_X0_markNumbers hx wf_X0_25 dX0_addCut_52 ?_
    refine z_aload_n hx 0 dX0_addCut_55 rfl ?_
    refine gf_X0_count hx wf_X0_28 dX0_addCut_56 ?_
    refine z_iload hx 5 dX0_addCut_59 rfl ?_
    refine z_iast hx (n := 20) (z_lt0 (z_ok_sd hx) (by decide)) (z_kb53 (z_ok_sd hx)) rfl (by decide) dX0_addCut_61 h (fun σ5 h => ?_)
    refine z_aload_n hx 0 dX0_addCut_62 rfl ?_
    refine z_dup hx dX0_addCut_63 rfl ?_
    refine gf_X0_count hx wf_X0_28 dX0_addCut_64 ?_
    refine z_iconst hx (n := 1) dX0_addCut_67 ?_
    refine z_iadd hx dX0_addCut_68 ?_
    refine pf_X0_count hx wf_X0_28 dX0_addCut_69 h (fun σ6 h => ?_)
    cases h
    exact z_vret hx hq dX0_addCut_72
  · cases h
    exact z_vret hx hq dX0_addCut_9

theorem met_X0_addCut (l : Launch) (g : zG) (hg : g.1 = 0) {σ : zS} {x1 : Int} {x2 : Int} {x3 : Int} {x4 : Int} {x5 : Int} {rr : Unit × zS} (h : f_X0_addCut σ x1 x2 x3 x4 x5 = some rr) : z_Met l yX0_addCut cX0_addCut 6 none rm_X0_addCut g [.ref (z_ad (g) 48), .int (zi x1), .int (zi x2), .int (zi x3), .int (zi x4), .int (zi x5)] σ (z_QV g rr.2) := by
  refine z_enter (own := RX0) (sd := 0) (lv0 := [(0, .ref (z_ad (g) 48)), (1, .int (zi x1)), (2, .int (zi x2)), (3, .int (zi x3)), (4, .int (zi x4)), (5, .int (zi x5))]) (by decide) rfl (Nat.le_of_ble_eq_true rfl) hg rfl (fun C hx hl hgC hR hn hq => ?_)
  subst hgC
  refine z_sub [0, 1, 2, 3, 4, 5] rfl ?_
  exact w_X0_addCut hx hn hR hq σ x1 x2 x3 x4 x5 h
theorem dX0_addFillerCut_0 : decode cX0_addFillerCut 0 = .ok (.aload_n 1, 1) := by decide +kernel
theorem dX0_addFillerCut_1 : decode cX0_addFillerCut 1 = .ok (.getfield 54, 3) := by decide +kernel
theorem dX0_addFillerCut_4 : decode cX0_addFillerCut 4 = .ok (.iload_n 2, 1) := by decide +kernel
theorem dX0_addFillerCut_5 : decode cX0_addFillerCut 5 = .ok (.iaload, 1) := by decide +kernel
theorem dX0_addFillerCut_6 : decode cX0_addFillerCut 6 = .ok (.istore 4, 2) := by decide +kernel
theorem dX0_addFillerCut_8 : decode cX0_addFillerCut 8 = .ok (.aload_n 0, 1) := by decide +kernel
theorem dX0_addFillerCut_9 : decode cX0_addFillerCut 9 = .ok (.invokevirtual 55, 3) := by decide +kernel
theorem dX0_addFillerCut_12 : decode cX0_addFillerCut 12 = .ok (.aload_n 1, 1) := by decide +kernel
theorem dX0_addFillerCut_13 : decode cX0_addFillerCut 13 = .ok (.iload_n 2, 1) := by decide +kernel
theorem dX0_addFillerCut_14 : decode cX0_addFillerCut 14 = .ok (.invokevirtual 59, 3) := by decide +kernel
theorem dX0_addFillerCut_17 : decode cX0_addFillerCut 17 = .ok (.invokestatic 63, 3) := by decide +kernel
theorem dX0_addFillerCut_20 : decode cX0_addFillerCut 20 = .ok (.istore 5, 2) := by decide +kernel
theorem dX0_addFillerCut_22 : decode cX0_addFillerCut 22 = .ok (.aload_n 1, 1) := by decide +kernel
theorem dX0_addFillerCut_23 : decode cX0_addFillerCut 23 = .ok (.aload_n 1, 1) := by decide +kernel
theorem dX0_addFillerCut_24 : decode cX0_addFillerCut 24 = .ok (.getfield 69, 3) := by decide +kernel
theorem dX0_addFillerCut_27 : decode cX0_addFillerCut 27 = .ok (.iload_n 2, 1) := by decide +kernel
theorem dX0_addFillerCut_28 : decode cX0_addFillerCut 28 = .ok (.iaload, 1) := by decide +kernel
theorem dX0_addFillerCut_29 : decode cX0_addFillerCut 29 = .ok (.iload_n 3, 1) := by decide +kernel
theorem dX0_addFillerCut_30 : decode cX0_addFillerCut 30 = .ok (.iload 5, 2) := by decide +kernel
theorem dX0_addFillerCut_32 : decode cX0_addFillerCut 32 = .ok (.iload 4, 2) := by decide +kernel
theorem dX0_addFillerCut_34 : decode cX0_addFillerCut 34 = .ok (.iconst 1, 1) := by decide +kernel
theorem dX0_addFillerCut_35 : decode cX0_addFillerCut 35 = .ok (.isub, 1) := by decide +kernel
theorem dX0_addFillerCut_36 : decode cX0_addFillerCut 36 = .ok (.invokevirtual 72, 3) := by decide +kernel
theorem dX0_addFillerCut_39 : decode cX0_addFillerCut 39 = .ok (.istore 6, 2) := by decide +kernel
theorem dX0_addFillerCut_41 : decode cX0_addFillerCut 41 = .ok (.iload 6, 2) := by decide +kernel
theorem dX0_addFillerCut_43 : decode cX0_addFillerCut 43 = .ok (.iconst (-1), 1) := by decide +kernel
theorem dX0_addFillerCut_44 : decode cX0_addFillerCut 44 = .ok (.if_icmp .ne 7, 3) := by decide +kernel
theorem dX0_addFillerCut_47 : decode cX0_addFillerCut 47 = .ok (.iconst 1, 1) := by decide +kernel
theorem dX0_addFillerCut_48 : decode cX0_addFillerCut 48 = .ok (.goto 4, 3) := by decide +kernel
theorem dX0_addFillerCut_51 : decode cX0_addFillerCut 51 = .ok (.iconst 0, 1) := by decide +kernel
theorem dX0_addFillerCut_52 : decode cX0_addFillerCut 52 = .ok (.istore 7, 2) := by decide +kernel
theorem dX0_addFillerCut_54 : decode cX0_addFillerCut 54 = .ok (.iload 7, 2) := by decide +kernel
theorem dX0_addFillerCut_56 : decode cX0_addFillerCut 56 = .ok (.ifCond .eq 11, 3) := by decide +kernel
theorem dX0_addFillerCut_59 : decode cX0_addFillerCut 59 = .ok (.aload_n 1, 1) := by decide +kernel
theorem dX0_addFillerCut_60 : decode cX0_addFillerCut 60 = .ok (.getfield 69, 3) := by decide +kernel
theorem dX0_addFillerCut_63 : decode cX0_addFillerCut 63 = .ok (.iload_n 2, 1) := by decide +kernel
theorem dX0_addFillerCut_64 : decode cX0_addFillerCut 64 = .ok (.iaload, 1) := by decide +kernel
theorem dX0_addFillerCut_65 : decode cX0_addFillerCut 65 = .ok (.istore 6, 2) := by decide +kernel
theorem dX0_addFillerCut_67 : decode cX0_addFillerCut 67 = .ok (.aload_n 1, 1) := by decide +kernel
theorem dX0_addFillerCut_68 : decode cX0_addFillerCut 68 = .ok (.iload_n 2, 1) := by decide +kernel
theorem dX0_addFillerCut_69 : decode cX0_addFillerCut 69 = .ok (.invokevirtual 76, 3) := by decide +kernel
theorem dX0_addFillerCut_72 : decode cX0_addFillerCut 72 = .ok (.istore 8, 2) := by decide +kernel
theorem dX0_addFillerCut_74 : decode cX0_addFillerCut 74 = .ok (.aload_n 1, 1) := by decide +kernel
theorem dX0_addFillerCut_75 : decode cX0_addFillerCut 75 = .ok (.iload 4, 2) := by decide +kernel
theorem dX0_addFillerCut_77 : decode cX0_addFillerCut 77 = .ok (.iload_n 3, 1) := by decide +kernel
theorem dX0_addFillerCut_78 : decode cX0_addFillerCut 78 = .ok (.iload 6, 2) := by decide +kernel
theorem dX0_addFillerCut_80 : decode cX0_addFillerCut 80 = .ok (.iconst 1, 1) := by decide +kernel
theorem dX0_addFillerCut_81 : decode cX0_addFillerCut 81 = .ok (.iadd, 1) := by decide +kernel
theorem dX0_addFillerCut_82 : decode cX0_addFillerCut 82 = .ok (.iload 8, 2) := by decide +kernel
theorem dX0_addFillerCut_84 : decode cX0_addFillerCut 84 = .ok (.invokevirtual 72, 3) := by decide +kernel
theorem dX0_addFillerCut_87 : decode cX0_addFillerCut 87 = .ok (.istore 9, 2) := by decide +kernel
theorem dX0_addFillerCut_89 : decode cX0_addFillerCut 89 = .ok (.iload 9, 2) := by decide +kernel
theorem dX0_addFillerCut_91 : decode cX0_addFillerCut 91 = .ok (.iconst (-1), 1) := by decide +kernel
theorem dX0_addFillerCut_92 : decode cX0_addFillerCut 92 = .ok (.if_icmp .ne 7, 3) := by decide +kernel
theorem dX0_addFillerCut_95 : decode cX0_addFillerCut 95 = .ok (.iconst 1, 1) := by decide +kernel
theorem dX0_addFillerCut_96 : decode cX0_addFillerCut 96 = .ok (.goto 4, 3) := by decide +kernel
theorem dX0_addFillerCut_99 : decode cX0_addFillerCut 99 = .ok (.iconst 0, 1) := by decide +kernel
theorem dX0_addFillerCut_100 : decode cX0_addFillerCut 100 = .ok (.istore 10, 2) := by decide +kernel
theorem dX0_addFillerCut_102 : decode cX0_addFillerCut 102 = .ok (.iload 10, 2) := by decide +kernel
theorem dX0_addFillerCut_104 : decode cX0_addFillerCut 104 = .ok (.ifCond .eq 7, 3) := by decide +kernel
theorem dX0_addFillerCut_107 : decode cX0_addFillerCut 107 = .ok (.iload 4, 2) := by decide +kernel
theorem dX0_addFillerCut_109 : decode cX0_addFillerCut 109 = .ok (.istore 9, 2) := by decide +kernel
theorem dX0_addFillerCut_111 : decode cX0_addFillerCut 111 = .ok (.iload 9, 2) := by decide +kernel
theorem dX0_addFillerCut_113 : decode cX0_addFillerCut 113 = .ok (.iload 6, 2) := by decide +kernel
theorem dX0_addFillerCut_115 : decode cX0_addFillerCut 115 = .ok (.isub, 1) := by decide +kernel
theorem dX0_addFillerCut_116 : decode cX0_addFillerCut 116 = .ok (.aload_n 1, 1) := by decide +kernel
theorem dX0_addFillerCut_117 : decode cX0_addFillerCut 117 = .ok (.getfield 79, 3) := by decide +kernel
theorem dX0_addFillerCut_120 : decode cX0_addFillerCut 120 = .ok (.iconst 4, 1) := by decide +kernel
theorem dX0_addFillerCut_121 : decode cX0_addFillerCut 121 = .ok (.iaload, 1) := by decide +kernel
theorem dX0_addFillerCut_122 : decode cX0_addFillerCut 122 = .ok (.imul, 1) := by decide +kernel
theorem dX0_addFillerCut_123 : decode cX0_addFillerCut 123 = .ok (.bipush 100, 2) := by decide +kernel
theorem dX0_addFillerCut_125 : decode cX0_addFillerCut 125 = .ok (.idiv, 1) := by decide +kernel
theorem dX0_addFillerCut_126 : decode cX0_addFillerCut 126 = .ok (.istore 11, 2) := by decide +kernel
theorem dX0_addFillerCut_128 : decode cX0_addFillerCut 128 = .ok (.aload_n 1, 1) := by decide +kernel
theorem dX0_addFillerCut_129 : decode cX0_addFillerCut 129 = .ok (.getfield 79, 3) := by decide +kernel
theorem dX0_addFillerCut_132 : decode cX0_addFillerCut 132 = .ok (.iconst 3, 1) := by decide +kernel
theorem dX0_addFillerCut_133 : decode cX0_addFillerCut 133 = .ok (.iaload, 1) := by decide +kernel
theorem dX0_addFillerCut_134 : decode cX0_addFillerCut 134 = .ok (.iload 11, 2) := by decide +kernel
theorem dX0_addFillerCut_136 : decode cX0_addFillerCut 136 = .ok (.invokestatic 82, 3) := by decide +kernel
theorem dX0_addFillerCut_139 : decode cX0_addFillerCut 139 = .ok (.istore 12, 2) := by decide +kernel
theorem dX0_addFillerCut_141 : decode cX0_addFillerCut 141 = .ok (.aload_n 0, 1) := by decide +kernel
theorem dX0_addFillerCut_142 : decode cX0_addFillerCut 142 = .ok (.iload 6, 2) := by decide +kernel
theorem dX0_addFillerCut_144 : decode cX0_addFillerCut 144 = .ok (.iload 9, 2) := by decide +kernel
theorem dX0_addFillerCut_146 : decode cX0_addFillerCut 146 = .ok (.iload 12, 2) := by decide +kernel
theorem dX0_addFillerCut_148 : decode cX0_addFillerCut 148 = .ok (.iload 7, 2) := by decide +kernel
theorem dX0_addFillerCut_150 : decode cX0_addFillerCut 150 = .ok (.ifCond .ne 8, 3) := by decide +kernel
theorem dX0_addFillerCut_153 : decode cX0_addFillerCut 153 = .ok (.iload 10, 2) := by decide +kernel
theorem dX0_addFillerCut_155 : decode cX0_addFillerCut 155 = .ok (.ifCond .eq 7, 3) := by decide +kernel
theorem dX0_addFillerCut_158 : decode cX0_addFillerCut 158 = .ok (.iconst 1, 1) := by decide +kernel
theorem dX0_addFillerCut_159 : decode cX0_addFillerCut 159 = .ok (.goto 4, 3) := by decide +kernel
theorem dX0_addFillerCut_162 : decode cX0_addFillerCut 162 = .ok (.iconst 0, 1) := by decide +kernel
theorem dX0_addFillerCut_163 : decode cX0_addFillerCut 163 = .ok (.iload_n 2, 1) := by decide +kernel
theorem dX0_addFillerCut_164 : decode cX0_addFillerCut 164 = .ok (.invokevirtual 85, 3) := by decide +kernel
theorem dX0_addFillerCut_167 : decode cX0_addFillerCut 167 = .ok (.return_, 1) := by decide +kernel
abbrev rm_X0_addFillerCut : Room := { frames := 3, cells := 0, slots := 0, locals := 70 }
theorem w_X0_addFillerCut_b163 {C : zC} (hx : z_ok C cX0_addFillerCut RX0 0) (hn : z_nL C = 13) (hR : z_R C = rm_X0_addFillerCut) {rr : Unit × zS} (hq : z_fin C none (z_QV (z_g C) rr.2)) (σ : zS) (x2 : Int) (s1 : Int) (s2 : Int) (s3 : Int) (s4 : Int) (h : f_X0_addFillerCut_b163 σ x2 s1 s2 s3 s4 = some rr) : z_W C σ 163 [(2, .int (zi x2))] [.int (zi s4), .int (zi s3), .int (zi s2), .int (zi s1), .ref (z_ad (z_g C) 48)] := by
  unfold f_X0_addFillerCut_b163 at h
  refine z_iload_n hx 0 dX0_addFillerCut_163 rfl ?_
  obtain ⟨⟨⟩, σ1, h164, h⟩ := z_bind_some h
  refine z_callv hx (As := [.int (zi s1), .int (zi s2), .int (zi s3), .int (zi s4), .int (zi x2)]) (k := 48) (met_X0_addCut (z_l C) (z_g C) (z_ok_sd hx) h164) (z_lt0 (z_ok_sd hx) (by decide)) (z_kb48 (z_ok_sd hx) _) rfl rfl cv_X0_85 (z_room hR ⟨Nat.le_of_ble_eq_true rfl, Nat.le_of_ble_eq_true rfl⟩) ⟨rfl, rfl⟩ rfl rfl (Nat.le_of_ble_eq_true rfl) dX0_addFillerCut_164 ?_
  cases h
  exact z_vret hx hq dX0_addFillerCut_167

theorem w_X0_addFillerCut_b158 {C : zC} (hx : z_ok C cX0_addFillerCut RX0 0) (hn : z_nL C = 13) (hR : z_R C = rm_X0_addFillerCut) {rr : Unit × zS} (hq : z_fin C none (z_QV (z_g C) rr.2)) (σ : zS) (x2 : Int) (s1 : Int) (s2 : Int) (s3 : Int) (h : f_X0_addFillerCut_b158 σ x2 s1 s2 s3 = some rr) : z_W C σ 158 [(2, .int (zi x2))] [.int (zi s3), .int (zi s2), .int (zi s1), .ref (z_ad (z_g C) 48)] := by
  unfold f_X0_addFillerCut_b158 at h
  refine z_iconst hx (n := 1) dX0_addFillerCut_158 ?_
  refine z_goto hx (tgt := 163) dX0_addFillerCut_159 (by decide) ?_
  refine z_sub [0] rfl ?_
  exact w_X0_addFillerCut_b163 hx hn hR hq σ x2 s1 s2 s3 1 h

theorem w_X0_addFillerCut_b111 {C : zC} (hx : z_ok C cX0_addFillerCut RX0 0) (hn : z_nL C = 13) (hR : z_R C = rm_X0_addFillerCut) {rr : Unit × zS} (hq : z_fin C none (z_QV (z_g C) rr.2)) (σ : zS) (x2 : Int) (x6 : Int) (x7 : Int) (x9 : Int) (x10 : Int) (h : f_X0_addFillerCut_b111 σ x2 x6 x7 x9 x10 = some rr) : z_W C σ 111 [(0, .ref (z_ad (z_g C) 48)), (1, .ref (z_ad (z_g C) 0)), (2, .int (zi x2)), (6, .int (zi x6)), (7, .int (zi x7)), (9, .int (zi x9)), (10, .int (zi x10))] [] := by
  unfold f_X0_addFillerCut_b111 at h
  refine z_iload hx 5 dX0_addFillerCut_111 rfl ?_
  refine z_iload hx 3 dX0_addFillerCut_113 rfl ?_
  refine z_isub hx dX0_addFillerCut_115 ?_
  refine z_aload_n hx 1 dX0_addFillerCut_116 rfl ?_
  refine gf_X2_settings hx wf_X0_79 (show 0 < 6 by decide) dX0_addFillerCut_117 ?_
  refine z_iconst hx (n := 4) dX0_addFillerCut_120 ?_
  refine z_iald hx (n := 7) (z_lt0 (z_ok_sd hx) (by decide)) (z_ka7 (z_ok_sd hx) (show 0 < 6 by decide) _) rfl (by decide) dX0_addFillerCut_121 h (fun h => ?_)
  refine z_imul hx dX0_addFillerCut_122 ?_
  refine z_bipush hx (n := 100) dX0_addFillerCut_123 rfl ?_
  refine z_idiv hx dX0_addFillerCut_125 h (fun h => ?_)
  refine z_istore hx hn (lv' := [(11, .int (zi (((x9 - x6) * (σ 7 4)).tdiv 100))), (0, .ref (z_ad (z_g C) 48)), (1, .ref (z_ad (z_g C) 0)), (2, .int (zi x2)), (6, .int (zi x6)), (7, .int (zi x7)), (9, .int (zi x9)), (10, .int (zi x10))]) dX0_addFillerCut_126 (by decide) rfl ?_
  refine z_aload_n hx 2 dX0_addFillerCut_128 rfl ?_
  refine gf_X2_settings hx wf_X0_79 (show 0 < 6 by decide) dX0_addFillerCut_129 ?_
  refine z_iconst hx (n := 3) dX0_addFillerCut_132 ?_
  refine z_iald hx (n := 7) (z_lt0 (z_ok_sd hx) (by decide)) (z_ka7 (z_ok_sd hx) (show 0 < 6 by decide) _) rfl (by decide) dX0_addFillerCut_133 h (fun h => ?_)
  refine z_iload hx 0 dX0_addFillerCut_134 rfl ?_
  refine z_min hx wm_X0_82 wst_J9_min wi_J9 wc_J9_min (z_room hR ⟨Nat.le_of_ble_eq_true rfl, Nat.le_of_ble_eq_true rfl⟩) (Nat.le_of_ble_eq_true rfl) dX0_addFillerCut_136 h (fun h => ?_)
  refine z_istore hx hn (lv' := [(12, .int (zi (if (((x9 - x6) * (σ 7 4)).tdiv 100) < (σ 7 3) then (((x9 - x6) * (σ 7 4)).tdiv 100) else (σ 7 3)))), (11, .int (zi (((x9 - x6) * (σ 7 4)).tdiv 100))), (0, .ref (z_ad (z_g C) 48)), (1, .ref (z_ad (z_g C) 0)), (2, .int (zi x2)), (6, .int (zi x6)), (7, .int (zi x7)), (9, .int (zi x9)), (10, .int (zi x10))]) dX0_addFillerCut_139 (by decide) rfl ?_
  refine z_aload_n hx 2 dX0_addFillerCut_141 rfl ?_
  refine z_iload hx 5 dX0_addFillerCut_142 rfl ?_
  refine z_iload hx 7 dX0_addFillerCut_144 rfl ?_
  refine z_iload hx 0 dX0_addFillerCut_146 rfl ?_
  refine z_iload hx 6 dX0_addFillerCut_148 rfl ?_
  refine z_if_ne hx (tgt := 158) dX0_addFillerCut_150 (by decide) h (fun h => h) (fun hc h => ?_) (fun hc h => ?_)
  · refine z_sub [4] rfl ?_
    exact w_X0_addFillerCut_b158 hx hn hR hq σ x2 x6 x9 (if (((x9 - x6) * (σ 7 4)).tdiv 100) < (σ 7 3) then (((x9 - x6) * (σ 7 4)).tdiv 100) else (σ 7 3)) h
  · refine z_iload hx 8 dX0_addFillerCut_153 rfl ?_
    refine z_if_eq hx (tgt := 162) dX0_addFillerCut_155 (by decide) h (fun h => h) (fun hc h => ?_) (fun hc h => ?_)
    · refine z_iconst hx (n := 0) dX0_addFillerCut_162 ?_
      refine z_sub [4] rfl ?_
      exact w_X0_addFillerCut_b163 hx hn hR hq σ x2 x6 x9 (if (((x9 - x6) * (σ 7 4)).tdiv 100) < (σ 7 3) then (((x9 - x6) * (σ 7 4)).tdiv 100) else (σ 7 3)) 0 h
    · refine z_sub [4] rfl ?_
      exact w_X0_addFillerCut_b158 hx hn hR hq σ x2 x6 x9 (if (((x9 - x6) * (σ 7 4)).tdiv 100) < (σ 7 3) then (((x9 - x6) * (σ 7 4)).tdiv 100) else (σ 7 3)) h

theorem w_X0_addFillerCut_b100 {C : zC} (hx : z_ok C cX0_addFillerCut RX0 0) (hn : z_nL C = 13) (hR : z_R C = rm_X0_addFillerCut) {rr : Unit × zS} (hq : z_fin C none (z_QV (z_g C) rr.2)) (σ : zS) (x2 : Int) (x4 : Int) (x6 : Int) (x7 : Int) (x9 : Int) (s0 : Int) (h : f_X0_addFillerCut_b100 σ x2 x4 x6 x7 x9 s0 = some rr) : z_W C σ 100 [(0, .ref (z_ad (z_g C) 48)), (1, .ref (z_ad (z_g C) 0)), (2, .int (zi x2)), (4, .int (zi x4)), (6, .int (zi x6)), (7, .int (zi x7)), (9, .int (zi x9))] [.int (zi s0)] := by
  unfold f_X0_addFillerCut_b100 at h
  refine z_istore hx hn (lv' := [(10, .int (zi s0)), (0, .ref (z_ad (z_g C) 48)), (1, .ref (z_ad (z_g C) 0)), (2, .int (zi x2)), (4, .int (zi x4)), (6, .int (zi x6)), (7, .int (zi x7)), (9, .int (zi x9))]) dX0_addFillerCut_100 (by decide) rfl ?_
  refine z_iload hx 0 dX0_addFillerCut_102 rfl ?_
  refine z_if_eq hx (tgt := 111) dX0_addFillerCut_104 (by decide) h (fun h => h) (fun hc h => ?_) (fun hc h => ?_)
  · refine z_sub [1, 2, 3, 5, 6, 7, 0] rfl ?_
    exact w_X0_addFillerCut_b111 hx hn hR hq σ x2 x6 x7 x9 s0 h
  · refine z_iload hx 4 dX0_addFillerCut_107 rfl ?_
    refine z_istore hx hn (lv' := [(9, .int (zi x4)), (10, .int (zi s0)), (0, .ref (z_ad (z_g C) 48)), (1, .ref (z_ad (z_g C) 0)), (2, .int (zi x2)), (4, .int (zi x4)), (6, .int (zi x6)), (7, .int (zi x7))]) dX0_addFillerCut_109 (by decide) rfl ?_
    refine z_sub [2, 3, 4, 6, 7, 0, 1] rfl ?_
    exact w_X0_addFillerCut_b111 hx hn hR hq σ x2 x6 x7 x4 s0 h

theorem w_X0_addFillerCut_b67 {C : zC} (hx : z_ok C cX0_addFillerCut RX0 0) (hn : z_nL C = 13) (hR : z_R C = rm_X0_addFillerCut) {rr : Unit × zS} (hq : z_fin C none (z_QV (z_g C) rr.2)) (σ : zS) (x2 : Int) (x3 : Int) (x4 : Int) (x6 : Int) (x7 : Int) (h : f_X0_addFillerCut_b67 σ x2 x3 x4 x6 x7 = some rr) : z_W C σ 67 [(0, .ref (z_ad (z_g C) 48)), (1, .ref (z_ad (z_g C) 0)), (2, .int (zi x2)), (3, .int (zi x3)), (4, .int (zi x4)), (6, .int (zi x6)), (7, .int (zi x7))] [] := by
  unfold f_X0_addFillerCut_b67 at h
  refine z_aload_n hx 1 dX0_addFillerCut_67 rfl ?_
  refine z_iload_n hx 2 dX0_addFillerCut_68 rfl ?_
  obtain ⟨r2, σ1, h69, h⟩ := z_bind_some h
  refine z_calli hx (As := [.int (zi x2)]) (k := 0) (met_X2_firstOfMarkAfter (z_l C) (z_g C) (z_ok_sd hx) (show 0 < 6 by decide) h69) (z_lt0 (z_ok_sd hx) (by decide)) (z_ka0 (z_ok_sd hx) (show 0 < 6 by decide) _) rfl rfl cv_X0_76 (z_room hR ⟨Nat.le_of_ble_eq_true rfl, Nat.le_of_ble_eq_true rfl⟩) ⟨rfl, rfl⟩ rfl rfl (Nat.le_of_ble_eq_true rfl) dX0_addFillerCut_69 ?_
  refine z_istore hx hn (lv' := [(8, .int (zi r2)), (0, .ref (z_ad (z_g C) 48)), (1, .ref (z_ad (z_g C) 0)), (2, .int (zi x2)), (3, .int (zi x3)), (4, .int (zi x4)), (6, .int (zi x6)), (7, .int (zi x7))]) dX0_addFillerCut_72 (by decide) rfl ?_
  refine z_aload_n hx 2 dX0_addFillerCut_74 rfl ?_
  refine z_iload hx 5 dX0_addFillerCut_75 rfl ?_
  refine z_iload_n hx 4 dX0_addFillerCut_77 rfl ?_
  refine z_iload hx 6 dX0_addFillerCut_78 rfl ?_
  refine z_iconst hx (n := 1) dX0_addFillerCut_80 ?_
  refine z_iadd hx dX0_addFillerCut_81 ?_
  refine z_iload hx 0 dX0_addFillerCut_82 rfl ?_
  obtain ⟨r4, σ3, h84, h⟩ := z_bind_some h
  refine z_calli hx (As := [.int (zi x4), .int (zi x3), .int (zi (x6 + 1)), .int (zi r2)]) (k := 0) (met_X2_nearestQuietSeam (z_l C) (z_g C) (z_ok_sd hx) (show 0 < 6 by decide) h84) (z_lt0 (z_ok_sd hx) (by decide)) (z_ka0 (z_ok_sd hx) (show 0 < 6 by decide) _) rfl rfl cv_X0_72 (z_room hR ⟨Nat.le_of_ble_eq_true rfl, Nat.le_of_ble_eq_true rfl⟩) ⟨rfl, rfl⟩ rfl rfl (Nat.le_of_ble_eq_true rfl) dX0_addFillerCut_84 ?_
  refine z_istore hx hn (lv' := [(9, .int (zi r4)), (8, .int (zi r2)), (0, .ref (z_ad (z_g C) 48)), (1, .ref (z_ad (z_g C) 0)), (2, .int (zi x2)), (3, .int (zi x3)), (4, .int (zi x4)), (6, .int (zi x6)), (7, .int (zi x7))]) dX0_addFillerCut_87 (by decide) rfl ?_
  refine z_iload hx 0 dX0_addFillerCut_89 rfl ?_
  refine z_iconst hx (n := (-1)) dX0_addFillerCut_91 ?_
  refine z_icmp_ne hx (tgt := 99) dX0_addFillerCut_92 (by decide) h (fun h => ⟨h, by decide⟩) (fun hc h => ?_) (fun hc h => ?_)
  · refine z_iconst hx (n := 0) dX0_addFillerCut_99 ?_
    refine z_sub [2, 3, 4, 6, 7, 8, 0] rfl ?_
    exact w_X0_addFillerCut_b100 hx hn hR hq σ3 x2 x4 x6 x7 r4 0 h
  · refine z_iconst hx (n := 1) dX0_addFillerCut_95 ?_
    refine z_goto hx (tgt := 100) dX0_addFillerCut_96 (by decide) ?_
    refine z_sub [2, 3, 4, 6, 7, 8, 0] rfl ?_
    exact w_X0_addFillerCut_b100 hx hn hR hq σ3 x2 x4 x6 x7 r4 1 h

theorem w_X0_addFillerCut_b52 {C : zC} (hx : z_ok C cX0_addFillerCut RX0 0) (hn : z_nL C = 13) (hR : z_R C = rm_X0_addFillerCut) {rr : Unit × zS} (hq : z_fin C none (z_QV (z_g C) rr.2)) (σ : zS) (x2 : Int) (x3 : Int) (x4 : Int) (x6 : Int) (s0 : Int) (h : f_X0_addFillerCut_b52 σ x2 x3 x4 x6 s0 = some rr) : z_W C σ 52 [(0, .ref (z_ad (z_g C) 48)), (1, .ref (z_ad (z_g C) 0)), (2, .int (zi x2)), (3, .int (zi x3)), (4, .int (zi x4)), (6, .int (zi x6))] [.int (zi s0)] := by
  unfold f_X0_addFillerCut_b52 at h
  refine z_istore hx hn (lv' := [(7, .int (zi s0)), (0, .ref (z_ad (z_g C) 48)), (1, .ref (z_ad (z_g C) 0)), (2, .int (zi x2)), (3, .int (zi x3)), (4, .int (zi x4)), (6, .int (zi x6))]) dX0_addFillerCut_52 (by decide) rfl ?_
  refine z_iload hx 0 dX0_addFillerCut_54 rfl ?_
  refine z_if_eq hx (tgt := 67) dX0_addFillerCut_56 (by decide) h (fun h => h) (fun hc h => ?_) (fun hc h => ?_)
  · refine z_sub [1, 2, 3, 4, 5, 6, 0] rfl ?_
    exact w_X0_addFillerCut_b67 hx hn hR hq σ x2 x3 x4 x6 s0 h
  · refine z_aload_n hx 2 dX0_addFillerCut_59 rfl ?_
    refine gf_X2_firsts hx wf_X0_69 (show 0 < 6 by decide) dX0_addFillerCut_60 ?_
    refine z_iload_n hx 3 dX0_addFillerCut_63 rfl ?_
    refine z_iald hx (n := 20) (z_lt0 (z_ok_sd hx) (by decide)) (z_ka3 (z_ok_sd hx) (show 0 < 6 by decide) _) rfl (by decide) dX0_addFillerCut_64 h (fun h => ?_)
    refine z_istore hx hn (lv' := [(6, .int (zi (σ 3 x2))), (7, .int (zi s0)), (0, .ref (z_ad (z_g C) 48)), (1, .ref (z_ad (z_g C) 0)), (2, .int (zi x2)), (3, .int (zi x3)), (4, .int (zi x4))]) dX0_addFillerCut_65 (by decide) rfl ?_
    refine z_sub [2, 3, 4, 5, 6, 0, 1] rfl ?_
    exact w_X0_addFillerCut_b67 hx hn hR hq σ x2 x3 x4 (σ 3 x2) s0 h

theorem w_X0_addFillerCut {C : zC} (hx : z_ok C cX0_addFillerCut RX0 0) (hn : z_nL C = 13) (hR : z_R C = rm_X0_addFillerCut) {rr : Unit × zS} (hq : z_fin C none (z_QV (z_g C) rr.2)) (σ : zS) (x2 : Int) (x3 : Int) (h : f_X0_addFillerCut σ x2 x3 = some rr) : z_W C σ 0 [(0, .ref (z_ad (z_g C) 48)), (1, .ref (z_ad (z_g C) 0)), (2, .int (zi x2)), (3, .int (zi x3))] [] := by
  unfold f_X0_addFillerCut at h
  refine z_aload_n hx 1 dX0_addFillerCut_0 rfl ?_
  refine gf_X2_ends hx wf_X0_54 (show 0 < 6 by decide) dX0_addFillerCut_1 ?_
  refine z_iload_n hx 2 dX0_addFillerCut_4 rfl ?_
  refine z_iald hx (n := 20) (z_lt0 (z_ok_sd hx) (by decide)) (z_ka4 (z_ok_sd hx) (show 0 < 6 by decide) _) rfl (by decide) dX0_addFillerCut_5 h (fun h => ?_)
  refine z_istore hx hn (lv' := [(4, .int (zi (σ 4 x2))), (0, .ref (z_ad (z_g C) 48)), (1, .ref (z_ad (z_g C) 0)), (2, .int (zi x2)), (3, .int (zi x3))]) dX0_addFillerCut_6 (by decide) rfl ?_
  refine z_aload_n hx 1 dX0_addFillerCut_8 rfl ?_
  obtain ⟨r2, σ1, h9, h⟩ := z_bind_some h
  refine z_calli hx (As := []) (k := 48) (met_X0_endOfLastCut (z_l C) (z_g C) (z_ok_sd hx) h9) (z_lt0 (z_ok_sd hx) (by decide)) (z_kb48 (z_ok_sd hx) _) rfl rfl cv_X0_55 (z_room hR ⟨Nat.le_of_ble_eq_true rfl, Nat.le_of_ble_eq_true rfl⟩) ⟨rfl, rfl⟩ rfl rfl (Nat.le_of_ble_eq_true rfl) dX0_addFillerCut_9 ?_
  refine z_aload_n hx 2 dX0_addFillerCut_12 rfl ?_
  refine z_iload_n hx 3 dX0_addFillerCut_13 rfl ?_
  obtain ⟨r4, σ3, h14, h⟩ := z_bind_some h
  refine z_calli hx (As := [.int (zi x2)]) (k := 0) (met_X2_endOfMarkBefore (z_l C) (z_g C) (z_ok_sd hx) (show 0 < 6 by decide) h14) (z_lt0 (z_ok_sd hx) (by decide)) (z_ka0 (z_ok_sd hx) (show 0 < 6 by decide) _) rfl rfl cv_X0_59 (z_room hR ⟨Nat.le_of_ble_eq_true rfl, Nat.le_of_ble_eq_true rfl⟩) ⟨rfl, rfl⟩ rfl rfl (Nat.le_of_ble_eq_true rfl) dX0_addFillerCut_14 ?_
  refine z_max hx wm_X0_63 wst_J9_max wi_J9 wc_J9_max (z_room hR ⟨Nat.le_of_ble_eq_true rfl, Nat.le_of_ble_eq_true rfl⟩) (Nat.le_of_ble_eq_true rfl) dX0_addFillerCut_17 h (fun h => ?_)
  refine z_istore hx hn (lv' := [(5, .int (zi (if r2 < r4 then r4 else r2))), (4, .int (zi (σ 4 x2))), (0, .ref (z_ad (z_g C) 48)), (1, .ref (z_ad (z_g C) 0)), (2, .int (zi x2)), (3, .int (zi x3))]) dX0_addFillerCut_20 (by decide) rfl ?_
  refine z_aload_n hx 3 dX0_addFillerCut_22 rfl ?_
  refine z_aload_n hx 3 dX0_addFillerCut_23 rfl ?_
  refine gf_X2_firsts hx wf_X0_69 (show 0 < 6 by decide) dX0_addFillerCut_24 ?_
  refine z_iload_n hx 4 dX0_addFillerCut_27 rfl ?_
  refine z_iald hx (n := 20) (z_lt0 (z_ok_sd hx) (by decide)) (z_ka3 (z_ok_sd hx) (show 0 < 6 by decide) _) rfl (by decide) dX0_addFillerCut_28 h (fun h => ?_)
  refine z_iload_n hx 5 dX0_addFillerCut_29 rfl ?_
  refine z_iload hx 0 dX0_addFillerCut_30 rfl ?_
  refine z_iload hx 1 dX0_addFillerCut_32 rfl ?_
  refine z_iconst hx (n := 1) dX0_addFillerCut_34 ?_
  refine z_isub hx dX0_addFillerCut_35 ?_
  obtain ⟨r6, σ5, h36, h⟩ := z_bind_some h
  refine z_calli hx (As := [.int (zi (σ3 3 x2)), .int (zi x3), .int (zi (if r2 < r4 then r4 else r2)), .int (zi ((σ 4 x2) - 1))]) (k := 0) (met_X2_nearestQuietSeam (z_l C) (z_g C) (z_ok_sd hx) (show 0 < 6 by decide) h36) (z_lt0 (z_ok_sd hx) (by decide)) (z_ka0 (z_ok_sd hx) (show 0 < 6 by decide) _) rfl rfl cv_X0_72 (z_room hR ⟨Nat.le_of_ble_eq_true rfl, Nat.le_of_ble_eq_true rfl⟩) ⟨rfl, rfl⟩ rfl rfl (Nat.le_of_ble_eq_true rfl) dX0_addFillerCut_36 ?_
  refine z_istore hx hn (lv' := [(6, .int (zi r6)), (5, .int (zi (if r2 < r4 then r4 else r2))), (4, .int (zi (σ 4 x2))), (0, .ref (z_ad (z_g C) 48)), (1, .ref (z_ad (z_g C) 0)), (2, .int (zi x2)), (3, .int (zi x3))]) dX0_addFillerCut_39 (by decide) rfl ?_
  refine z_iload hx 0 dX0_addFillerCut_41 rfl ?_
  refine z_iconst hx (n := (-1)) dX0_addFillerCut_43 ?_
  refine z_icmp_ne hx (tgt := 51) dX0_addFillerCut_44 (by decide) h (fun h => ⟨h, by decide⟩) (fun hc h => ?_) (fun hc h => ?_)
  · refine z_iconst hx (n := 0) dX0_addFillerCut_51 ?_
    refine z_sub [3, 4, 5, 6, 2, 0] rfl ?_
    exact w_X0_addFillerCut_b52 hx hn hR hq σ5 x2 x3 (σ 4 x2) r6 0 h
  · refine z_iconst hx (n := 1) dX0_addFillerCut_47 ?_
    refine z_goto hx (tgt := 52) dX0_addFillerCut_48 (by decide) ?_
    refine z_sub [3, 4, 5, 6, 2, 0] rfl ?_
    exact w_X0_addFillerCut_b52 hx hn hR hq σ5 x2 x3 (σ 4 x2) r6 1 h

theorem met_X0_addFillerCut (l : Launch) (g : zG) (hg : g.1 = 0) {σ : zS} {x2 : Int} {x3 : Int} {rr : Unit × zS} (h : f_X0_addFillerCut σ x2 x3 = some rr) : z_Met l yX0_addFillerCut cX0_addFillerCut 13 none rm_X0_addFillerCut g [.ref (z_ad (g) 48), .ref (z_ad (g) 0), .int (zi x2), .int (zi x3)] σ (z_QV g rr.2) := by
  refine z_enter (own := RX0) (sd := 0) (lv0 := [(0, .ref (z_ad (g) 48)), (1, .ref (z_ad (g) 0)), (2, .int (zi x2)), (3, .int (zi x3))]) (by decide) rfl (Nat.le_of_ble_eq_true rfl) hg rfl (fun C hx hl hgC hR hn hq => ?_)
  subst hgC
  refine z_sub [0, 1, 2, 3] rfl ?_
  exact w_X0_addFillerCut hx hn hR hq σ x2 x3 h
theorem dX0_addBreathCut_0 : decode cX0_addBreathCut 0 = .ok (.aload_n 1, 1) := by decide +kernel
theorem dX0_addBreathCut_1 : decode cX0_addBreathCut 1 = .ok (.getfield 69, 3) := by decide +kernel
theorem dX0_addBreathCut_4 : decode cX0_addBreathCut 4 = .ok (.iload_n 2, 1) := by decide +kernel
theorem dX0_addBreathCut_5 : decode cX0_addBreathCut 5 = .ok (.iaload, 1) := by decide +kernel
theorem dX0_addBreathCut_6 : decode cX0_addBreathCut 6 = .ok (.istore_n 3, 1) := by decide +kernel
theorem dX0_addBreathCut_7 : decode cX0_addBreathCut 7 = .ok (.aload_n 1, 1) := by decide +kernel
theorem dX0_addBreathCut_8 : decode cX0_addBreathCut 8 = .ok (.getfield 54, 3) := by decide +kernel
theorem dX0_addBreathCut_11 : decode cX0_addBreathCut 11 = .ok (.iload_n 2, 1) := by decide +kernel
theorem dX0_addBreathCut_12 : decode cX0_addBreathCut 12 = .ok (.iaload, 1) := by decide +kernel
theorem dX0_addBreathCut_13 : decode cX0_addBreathCut 13 = .ok (.istore 4, 2) := by decide +kernel
theorem dX0_addBreathCut_15 : decode cX0_addBreathCut 15 = .ok (.aload_n 1, 1) := by decide +kernel
theorem dX0_addBreathCut_16 : decode cX0_addBreathCut 16 = .ok (.getfield 79, 3) := by decide +kernel
theorem dX0_addBreathCut_19 : decode cX0_addBreathCut 19 = .ok (.iconst 5, 1) := by decide +kernel
theorem dX0_addBreathCut_20 : decode cX0_addBreathCut 20 = .ok (.iaload, 1) := by decide +kernel
theorem dX0_addBreathCut_21 : decode cX0_addBreathCut 21 = .ok (.istore 5, 2) := by decide +kernel
theorem dX0_addBreathCut_23 : decode cX0_addBreathCut 23 = .ok (.iload 4, 2) := by decide +kernel
theorem dX0_addBreathCut_25 : decode cX0_addBreathCut 25 = .ok (.iload_n 3, 1) := by decide +kernel
theorem dX0_addBreathCut_26 : decode cX0_addBreathCut 26 = .ok (.isub, 1) := by decide +kernel
theorem dX0_addBreathCut_27 : decode cX0_addBreathCut 27 = .ok (.aload_n 1, 1) := by decide +kernel
theorem dX0_addBreathCut_28 : decode cX0_addBreathCut 28 = .ok (.getfield 79, 3) := by decide +kernel
theorem dX0_addBreathCut_31 : decode cX0_addBreathCut 31 = .ok (.bipush 6, 2) := by decide +kernel
theorem dX0_addBreathCut_33 : decode cX0_addBreathCut 33 = .ok (.iaload, 1) := by decide +kernel
theorem dX0_addBreathCut_34 : decode cX0_addBreathCut 34 = .ok (.if_icmp .ge 16, 3) := by decide +kernel
theorem dX0_addBreathCut_37 : decode cX0_addBreathCut 37 = .ok (.aload_n 0, 1) := by decide +kernel
theorem dX0_addBreathCut_38 : decode cX0_addBreathCut 38 = .ok (.iload_n 3, 1) := by decide +kernel
theorem dX0_addBreathCut_39 : decode cX0_addBreathCut 39 = .ok (.iload 4, 2) := by decide +kernel
theorem dX0_addBreathCut_41 : decode cX0_addBreathCut 41 = .ok (.iconst 0, 1) := by decide +kernel
theorem dX0_addBreathCut_42 : decode cX0_addBreathCut 42 = .ok (.iconst 0, 1) := by decide +kernel
theorem dX0_addBreathCut_43 : decode cX0_addBreathCut 43 = .ok (.iload_n 2, 1) := by decide +kernel
theorem dX0_addBreathCut_44 : decode cX0_addBreathCut 44 = .ok (.invokevirtual 85, 3) := by decide +kernel
theorem dX0_addBreathCut_47 : decode cX0_addBreathCut 47 = .ok (.goto 34, 3) := by decide +kernel
theorem dX0_addBreathCut_50 : decode cX0_addBreathCut 50 = .ok (.iload 4, 2) := by decide +kernel
theorem dX0_addBreathCut_52 : decode cX0_addBreathCut 52 = .ok (.iload_n 3, 1) := by decide +kernel
theorem dX0_addBreathCut_53 : decode cX0_addBreathCut 53 = .ok (.isub, 1) := by decide +kernel
theorem dX0_addBreathCut_54 : decode cX0_addBreathCut 54 = .ok (.iload 5, 2) := by decide +kernel
theorem dX0_addBreathCut_56 : decode cX0_addBreathCut 56 = .ok (.if_icmp .le 25, 3) := by decide +kernel
theorem dX0_addBreathCut_59 : decode cX0_addBreathCut 59 = .ok (.aload_n 0, 1) := by decide +kernel
theorem dX0_addBreathCut_60 : decode cX0_addBreathCut 60 = .ok (.iload_n 3, 1) := by decide +kernel
theorem dX0_addBreathCut_61 : decode cX0_addBreathCut 61 = .ok (.iload 5, 2) := by decide +kernel
theorem dX0_addBreathCut_63 : decode cX0_addBreathCut 63 = .ok (.iconst 1, 1) := by decide +kernel
theorem dX0_addBreathCut_64 : decode cX0_addBreathCut 64 = .ok (.iadd, 1) := by decide +kernel
theorem dX0_addBreathCut_65 : decode cX0_addBreathCut 65 = .ok (.iconst 2, 1) := by decide +kernel
theorem dX0_addBreathCut_66 : decode cX0_addBreathCut 66 = .ok (.idiv, 1) := by decide +kernel
theorem dX0_addBreathCut_67 : decode cX0_addBreathCut 67 = .ok (.iadd, 1) := by decide +kernel
theorem dX0_addBreathCut_68 : decode cX0_addBreathCut 68 = .ok (.iload 4, 2) := by decide +kernel
theorem dX0_addBreathCut_70 : decode cX0_addBreathCut 70 = .ok (.iload 5, 2) := by decide +kernel
theorem dX0_addBreathCut_72 : decode cX0_addBreathCut 72 = .ok (.iconst 2, 1) := by decide +kernel
theorem dX0_addBreathCut_73 : decode cX0_addBreathCut 73 = .ok (.idiv, 1) := by decide +kernel
theorem dX0_addBreathCut_74 : decode cX0_addBreathCut 74 = .ok (.isub, 1) := by decide +kernel
theorem dX0_addBreathCut_75 : decode cX0_addBreathCut 75 = .ok (.iconst 0, 1) := by decide +kernel
theorem dX0_addBreathCut_76 : decode cX0_addBreathCut 76 = .ok (.iconst 0, 1) := by decide +kernel
theorem dX0_addBreathCut_77 : decode cX0_addBreathCut 77 = .ok (.iload_n 2, 1) := by decide +kernel
theorem dX0_addBreathCut_78 : decode cX0_addBreathCut 78 = .ok (.invokevirtual 85, 3) := by decide +kernel
theorem dX0_addBreathCut_81 : decode cX0_addBreathCut 81 = .ok (.return_, 1) := by decide +kernel
abbrev rm_X0_addBreathCut : Room := { frames := 1, cells := 0, slots := 0, locals := 25 }
theorem w_X0_addBreathCut_b81 {C : zC} (hx : z_ok C cX0_addBreathCut RX0 0) (hn : z_nL C = 6) (hR : z_R C = rm_X0_addBreathCut) {rr : Unit × zS} (hq : z_fin C none (z_QV (z_g C) rr.2)) (σ : zS) (h : f_X0_addBreathCut_b81 σ = some rr) : z_W C σ 81 [] [] := by
  unfold f_X0_addBreathCut_b81 at h
  cases h
  exact z_vret hx hq dX0_addBreathCut_81

theorem w_X0_addBreathCut {C : zC} (hx : z_ok C cX0_addBreathCut RX0 0) (hn : z_nL C = 6) (hR : z_R C = rm_X0_addBreathCut) {rr : Unit × zS} (hq : z_fin C none (z_QV (z_g C) rr.2)) (σ : zS) (x2 : Int) (h : f_X0_addBreathCut σ x2 = some rr) : z_W C σ 0 [(0, .ref (z_ad (z_g C) 48)), (1, .ref (z_ad (z_g C) 0)), (2, .int (zi x2))] [] := by
  unfold f_X0_addBreathCut at h
  refine z_aload_n hx 1 dX0_addBreathCut_0 rfl ?_
  refine gf_X2_firsts hx wf_X0_69 (show 0 < 6 by decide) dX0_addBreathCut_1 ?_
  refine z_iload_n hx 2 dX0_addBreathCut_4 rfl ?_
  refine z_iald hx (n := 20) (z_lt0 (z_ok_sd hx) (by decide)) (z_ka3 (z_ok_sd hx) (show 0 < 6 by decide) _) rfl (by decide) dX0_addBreathCut_5 h (fun h => ?_)
  refine z_istore_n hx hn (lv' := [(3, .int (zi (σ 3 x2))), (0, .ref (z_ad (z_g C) 48)), (1, .ref (z_ad (z_g C) 0)), (2, .int (zi x2))]) dX0_addBreathCut_6 (by decide) rfl ?_
  refine z_aload_n hx 2 dX0_addBreathCut_7 rfl ?_
  refine gf_X2_ends hx wf_X0_54 (show 0 < 6 by decide) dX0_addBreathCut_8 ?_
  refine z_iload_n hx 3 dX0_addBreathCut_11 rfl ?_
  refine z_iald hx (n := 20) (z_lt0 (z_ok_sd hx) (by decide)) (z_ka4 (z_ok_sd hx) (show 0 < 6 by decide) _) rfl (by decide) dX0_addBreathCut_12 h (fun h => ?_)
  refine z_istore hx hn (lv' := [(4, .int (zi (σ 4 x2))), (3, .int (zi (σ 3 x2))), (0, .ref (z_ad (z_g C) 48)), (1, .ref (z_ad (z_g C) 0)), (2, .int (zi x2))]) dX0_addBreathCut_13 (by decide) rfl ?_
  refine z_aload_n hx 3 dX0_addBreathCut_15 rfl ?_
  refine gf_X2_settings hx wf_X0_79 (show 0 < 6 by decide) dX0_addBreathCut_16 ?_
  refine z_iconst hx (n := 5) dX0_addBreathCut_19 ?_
  refine z_iald hx (n := 7) (z_lt0 (z_ok_sd hx) (by decide)) (z_ka7 (z_ok_sd hx) (show 0 < 6 by decide) _) rfl (by decide) dX0_addBreathCut_20 h (fun h => ?_)
  refine z_istore hx hn (lv' := [(5, .int (zi (σ 7 5))), (4, .int (zi (σ 4 x2))), (3, .int (zi (σ 3 x2))), (0, .ref (z_ad (z_g C) 48)), (1, .ref (z_ad (z_g C) 0)), (2, .int (zi x2))]) dX0_addBreathCut_21 (by decide) rfl ?_
  refine z_iload hx 1 dX0_addBreathCut_23 rfl ?_
  refine z_iload_n hx 2 dX0_addBreathCut_25 rfl ?_
  refine z_isub hx dX0_addBreathCut_26 ?_
  refine z_aload_n hx 4 dX0_addBreathCut_27 rfl ?_
  refine gf_X2_settings hx wf_X0_79 (show 0 < 6 by decide) dX0_addBreathCut_28 ?_
  refine z_bipush hx (n := 6) dX0_addBreathCut_31 rfl ?_
  refine z_iald hx (n := 7) (z_lt0 (z_ok_sd hx) (by decide)) (z_ka7 (z_ok_sd hx) (show 0 < 6 by decide) _) rfl (by decide) dX0_addBreathCut_33 h (fun h => ?_)
  refine z_icmp_ge hx (tgt := 50) dX0_addBreathCut_34 (by decide) h (fun h => h) (fun hc h => ?_) (fun hc h => ?_)
  · refine z_iload hx 1 dX0_addBreathCut_50 rfl ?_
    refine z_iload_n hx 2 dX0_addBreathCut_52 rfl ?_
    refine z_isub hx dX0_addBreathCut_53 ?_
    refine z_iload hx 0 dX0_addBreathCut_54 rfl ?_
    refine z_icmp_le hx (tgt := 81) dX0_addBreathCut_56 (by decide) h (fun h => h) (fun hc h => ?_) (fun hc h => ?_)
    · refine z_sub [] rfl ?_
      exact w_X0_addBreathCut_b81 hx hn hR hq σ h
    · refine z_aload_n hx 3 dX0_addBreathCut_59 rfl ?_
      refine z_iload_n hx 2 dX0_addBreathCut_60 rfl ?_
      refine z_iload hx 0 dX0_addBreathCut_61 rfl ?_
      refine z_iconst hx (n := 1) dX0_addBreathCut_63 ?_
      refine z_iadd hx dX0_addBreathCut_64 ?_
      refine z_iconst hx (n := 2) dX0_addBreathCut_65 ?_
      refine z_idiv hx dX0_addBreathCut_66 h (fun h => ?_)
      refine z_iadd hx dX0_addBreathCut_67 ?_
      refine z_iload hx 1 dX0_addBreathCut_68 rfl ?_
      refine z_iload hx 0 dX0_addBreathCut_70 rfl ?_
      refine z_iconst hx (n := 2) dX0_addBreathCut_72 ?_
      refine z_idiv hx dX0_addBreathCut_73 h (fun h => ?_)
      refine z_isub hx dX0_addBreathCut_74 ?_
      refine z_iconst hx (n := 0) dX0_addBreathCut_75 ?_
      refine z_iconst hx (n := 0) dX0_addBreathCut_76 ?_
      refine z_iload_n hx 5 dX0_addBreathCut_77 rfl ?_
      obtain ⟨⟨⟩, σ1, h78, h⟩ := z_bind_some h
      refine z_callv hx (As := [.int (zi ((σ 3 x2) + (((σ 7 5) + 1).tdiv 2))), .int (zi ((σ 4 x2) - ((σ 7 5).tdiv 2))), .int (zi 0), .int (zi 0), .int (zi x2)]) (k := 48) (met_X0_addCut (z_l C) (z_g C) (z_ok_sd hx) h78) (z_lt0 (z_ok_sd hx) (by decide)) (z_kb48 (z_ok_sd hx) _) rfl rfl cv_X0_85 (z_room hR ⟨Nat.le_of_ble_eq_true rfl, Nat.le_of_ble_eq_true rfl⟩) ⟨rfl, rfl⟩ rfl rfl (Nat.le_of_ble_eq_true rfl) dX0_addBreathCut_78 ?_
      refine z_sub [] rfl ?_
      exact w_X0_addBreathCut_b81 hx hn hR hq σ1 h
  · refine z_aload_n hx 3 dX0_addBreathCut_37 rfl ?_
    refine z_iload_n hx 2 dX0_addBreathCut_38 rfl ?_
    refine z_iload hx 1 dX0_addBreathCut_39 rfl ?_
    refine z_iconst hx (n := 0) dX0_addBreathCut_41 ?_
    refine z_iconst hx (n := 0) dX0_addBreathCut_42 ?_
    refine z_iload_n hx 5 dX0_addBreathCut_43 rfl ?_
    obtain ⟨⟨⟩, σ2, h44, h⟩ := z_bind_some h
    refine z_callv hx (As := [.int (zi (σ 3 x2)), .int (zi (σ 4 x2)), .int (zi 0), .int (zi 0), .int (zi x2)]) (k := 48) (met_X0_addCut (z_l C) (z_g C) (z_ok_sd hx) h44) (z_lt0 (z_ok_sd hx) (by decide)) (z_kb48 (z_ok_sd hx) _) rfl rfl cv_X0_85 (z_room hR ⟨Nat.le_of_ble_eq_true rfl, Nat.le_of_ble_eq_true rfl⟩) ⟨rfl, rfl⟩ rfl rfl (Nat.le_of_ble_eq_true rfl) dX0_addBreathCut_44 ?_
    refine z_goto hx (tgt := 81) dX0_addBreathCut_47 (by decide) ?_
    refine z_sub [] rfl ?_
    exact w_X0_addBreathCut_b81 hx hn hR hq σ2 h

theorem met_X0_addBreathCut (l : Launch) (g : zG) (hg : g.1 = 0) {σ : zS} {x2 : Int} {rr : Unit × zS} (h : f_X0_addBreathCut σ x2 = some rr) : z_Met l yX0_addBreathCut cX0_addBreathCut 6 none rm_X0_addBreathCut g [.ref (z_ad (g) 48), .ref (z_ad (g) 0), .int (zi x2)] σ (z_QV g rr.2) := by
  refine z_enter (own := RX0) (sd := 0) (lv0 := [(0, .ref (z_ad (g) 48)), (1, .ref (z_ad (g) 0)), (2, .int (zi x2))]) (by decide) rfl (Nat.le_of_ble_eq_true rfl) hg rfl (fun C hx hl hgC hR hn hq => ?_)
  subst hgC
  refine z_sub [0, 1, 2] rfl ?_
  exact w_X0_addBreathCut hx hn hR hq σ x2 h
theorem dX0_find_0 : decode cX0_find 0 = .ok (.aload_n 0, 1) := by decide +kernel
theorem dX0_find_1 : decode cX0_find 1 = .ok (.iconst 0, 1) := by decide +kernel
theorem dX0_find_2 : decode cX0_find 2 = .ok (.putfield 28, 3) := by decide +kernel
theorem dX0_find_5 : decode cX0_find 5 = .ok (.iconst 0, 1) := by decide +kernel
theorem dX0_find_6 : decode cX0_find 6 = .ok (.istore 4, 2) := by decide +kernel
theorem dX0_find_8 : decode cX0_find 8 = .ok (.iload 4, 2) := by decide +kernel
theorem dX0_find_10 : decode cX0_find 10 = .ok (.aload_n 1, 1) := by decide +kernel
theorem dX0_find_11 : decode cX0_find 11 = .ok (.getfield 32, 3) := by decide +kernel
theorem dX0_find_14 : decode cX0_find 14 = .ok (.if_icmp .ge 72, 3) := by decide +kernel
theorem dX0_find_17 : decode cX0_find 17 = .ok (.aload_n 1, 1) := by decide +kernel
theorem dX0_find_18 : decode cX0_find 18 = .ok (.getfield 37, 3) := by decide +kernel
theorem dX0_find_21 : decode cX0_find 21 = .ok (.iload 4, 2) := by decide +kernel
theorem dX0_find_23 : decode cX0_find 23 = .ok (.baload, 1) := by decide +kernel
theorem dX0_find_24 : decode cX0_find 24 = .ok (.ifCond .eq 6, 3) := by decide +kernel
theorem dX0_find_27 : decode cX0_find 27 = .ok (.goto 53, 3) := by decide +kernel
theorem dX0_find_30 : decode cX0_find 30 = .ok (.aload_n 1, 1) := by decide +kernel
theorem dX0_find_31 : decode cX0_find 31 = .ok (.getfield 40, 3) := by decide +kernel
theorem dX0_find_34 : decode cX0_find 34 = .ok (.iload 4, 2) := by decide +kernel
theorem dX0_find_36 : decode cX0_find 36 = .ok (.iaload, 1) := by decide +kernel
theorem dX0_find_37 : decode cX0_find 37 = .ok (.ifCond .ne 25, 3) := by decide +kernel
theorem dX0_find_40 : decode cX0_find 40 = .ok (.aload_n 1, 1) := by decide +kernel
theorem dX0_find_41 : decode cX0_find 41 = .ok (.getfield 43, 3) := by decide +kernel
theorem dX0_find_44 : decode cX0_find 44 = .ok (.iload 4, 2) := by decide +kernel
theorem dX0_find_46 : decode cX0_find 46 = .ok (.iaload, 1) := by decide +kernel
theorem dX0_find_47 : decode cX0_find 47 = .ok (.iload_n 2, 1) := by decide +kernel
theorem dX0_find_48 : decode cX0_find 48 = .ok (.if_icmp .gt 14, 3) := by decide +kernel
theorem dX0_find_51 : decode cX0_find 51 = .ok (.aload_n 0, 1) := by decide +kernel
theorem dX0_find_52 : decode cX0_find 52 = .ok (.aload_n 1, 1) := by decide +kernel
theorem dX0_find_53 : decode cX0_find 53 = .ok (.iload 4, 2) := by decide +kernel
theorem dX0_find_55 : decode cX0_find 55 = .ok (.iload_n 3, 1) := by decide +kernel
theorem dX0_find_56 : decode cX0_find 56 = .ok (.invokevirtual 46, 3) := by decide +kernel
theorem dX0_find_59 : decode cX0_find 59 = .ok (.goto 21, 3) := by decide +kernel
theorem dX0_find_62 : decode cX0_find 62 = .ok (.aload_n 1, 1) := by decide +kernel
theorem dX0_find_63 : decode cX0_find 63 = .ok (.getfield 40, 3) := by decide +kernel
theorem dX0_find_66 : decode cX0_find 66 = .ok (.iload 4, 2) := by decide +kernel
theorem dX0_find_68 : decode cX0_find 68 = .ok (.iaload, 1) := by decide +kernel
theorem dX0_find_69 : decode cX0_find 69 = .ok (.iconst 1, 1) := by decide +kernel
theorem dX0_find_70 : decode cX0_find 70 = .ok (.if_icmp .ne 10, 3) := by decide +kernel
theorem dX0_find_73 : decode cX0_find 73 = .ok (.aload_n 0, 1) := by decide +kernel
theorem dX0_find_74 : decode cX0_find 74 = .ok (.aload_n 1, 1) := by decide +kernel
theorem dX0_find_75 : decode cX0_find 75 = .ok (.iload 4, 2) := by decide +kernel
theorem dX0_find_77 : decode cX0_find 77 = .ok (.invokevirtual 50, 3) := by decide +kernel
theorem dX0_find_80 : decode cX0_find 80 = .ok (.iinc 4 1, 3) := by decide +kernel
theorem dX0_find_83 : decode cX0_find 83 = .ok (.goto (-75), 3) := by decide +kernel
theorem dX0_find_86 : decode cX0_find 86 = .ok (.return_, 1) := by decide +kernel
abbrev rm_X0_find : Room := { frames := 4, cells := 0, slots := 0, locals := 102 }
theorem w_X0_find_b80 {C : zC} (hx : z_ok C cX0_find RX0 0) (hn : z_nL C = 5) (hR : z_R C = rm_X0_find) {rr : Unit × zS} (hq : z_fin C none (z_QV (z_g C) rr.2)) {K8 : zS → Int → Int → Int → Option (Unit × zS)} (hK8 : ∀ (σ : zS) (x2 : Int) (x3 : Int) (x4 : Int) , K8 σ x2 x3 x4 = some rr → z_W C σ 8 [(0, .ref (z_ad (z_g C) 48)), (1, .ref (z_ad (z_g C) 0)), (2, .int (zi x2)), (3, .int (zi x3)), (4, .int (zi x4))] []) (σ : zS) (x2 : Int) (x3 : Int) (x4 : Int) (h : f_X0_find_b80 K8 σ x2 x3 x4 = some rr) : z_W C σ 80 [(0, .ref (z_ad (z_g C) 48)), (1, .ref (z_ad (z_g C) 0)), (2, .int (zi x2)), (3, .int (zi x3)), (4, .int (zi x4))] [] := by
  unfold f_X0_find_b80 at h
  refine z_iinc hx hn 4 (lv' := [(4, .int (zi (x4 + 1))), (0, .ref (z_ad (z_g C) 48)), (1, .ref (z_ad (z_g C) 0)), (2, .int (zi x2)), (3, .int (zi x3))]) dX0_find_80 rfl (by decide) rfl ?_
  refine z_goto hx (tgt := 8) dX0_find_83 (by decide) ?_
  refine z_sub [1, 2, 3, 4, 0] rfl ?_
  exact hK8 σ x2 x3 (x4 + 1) h

theorem w_X0_find_b62 {C : zC} (hx : z_ok C cX0_find RX0 0) (hn : z_nL C = 5) (hR : z_R C = rm_X0_find) {rr : Unit × zS} (hq : z_fin C none (z_QV (z_g C) rr.2)) {K8 : zS → Int → Int → Int → Option (Unit × zS)} (hK8 : ∀ (σ : zS) (x2 : Int) (x3 : Int) (x4 : Int) , K8 σ x2 x3 x4 = some rr → z_W C σ 8 [(0, .ref (z_ad (z_g C) 48)), (1, .ref (z_ad (z_g C) 0)), (2, .int (zi x2)), (3, .int (zi x3)), (4, .int (zi x4))] []) (σ : zS) (x2 : Int) (x3 : Int) (x4 : Int) (h : f_X0_find_b62 K8 σ x2 x3 x4 = some rr) : z_W C σ 62 [(0, .ref (z_ad (z_g C) 48)), (1, .ref (z_ad (z_g C) 0)), (2, .int (zi x2)), (3, .int (zi x3)), (4, .int (zi x4))] [] := by
  unfold f_X0_find_b62 at h
  refine z_aload_n hx 1 dX0_find_62 rfl ?_
  refine gf_X2_kinds hx wf_X0_40 (show 0 < 6 by decide) dX0_find_63 ?_
  refine z_iload hx 4 dX0_find_66 rfl ?_
  refine z_iald hx (n := 20) (z_lt0 (z_ok_sd hx) (by decide)) (z_ka2 (z_ok_sd hx) (show 0 < 6 by decide) _) rfl (by decide) dX0_find_68 h (fun h => ?_)
  refine z_iconst hx (n := 1) dX0_find_69 ?_
  refine z_icmp_ne hx (tgt := 80) dX0_find_70 (by decide) h (fun h => ⟨h, by decide⟩) (fun hc h => ?_) (fun hc h => ?_)
  · refine z_sub [0, 1, 2, 3, 4] rfl ?_
    exact w_X0_find_b80 hx hn hR hq hK8 σ x2 x3 x4 h
  · refine z_aload_n hx 0 dX0_find_73 rfl ?_
    refine z_aload_n hx 1 dX0_find_74 rfl ?_
    refine z_iload hx 4 dX0_find_75 rfl ?_
    obtain ⟨⟨⟩, σ1, h77, h⟩ := z_bind_some h
    refine z_callv hx (As := [.ref (z_ad (z_g C) 0), .int (zi x4)]) (k := 48) (met_X0_addBreathCut (z_l C) (z_g C) (z_ok_sd hx) h77) (z_lt0 (z_ok_sd hx) (by decide)) (z_kb48 (z_ok_sd hx) _) rfl rfl cv_X0_50 (z_room hR ⟨Nat.le_of_ble_eq_true rfl, Nat.le_of_ble_eq_true rfl⟩) ⟨rfl, rfl⟩ rfl rfl (Nat.le_of_ble_eq_true rfl) dX0_find_77 ?_
    refine z_sub [0, 1, 2, 3, 4] rfl ?_
    exact w_X0_find_b80 hx hn hR hq hK8 σ1 x2 x3 x4 h

theorem w_X0_find_b8 {C : zC} (hx : z_ok C cX0_find RX0 0) (hn : z_nL C = 5) (hR : z_R C = rm_X0_find) {rr : Unit × zS} (hq : z_fin C none (z_QV (z_g C) rr.2)) {K8 : zS → Int → Int → Int → Option (Unit × zS)} (hK8 : ∀ (σ : zS) (x2 : Int) (x3 : Int) (x4 : Int) , K8 σ x2 x3 x4 = some rr → z_W C σ 8 [(0, .ref (z_ad (z_g C) 48)), (1, .ref (z_ad (z_g C) 0)), (2, .int (zi x2)), (3, .int (zi x3)), (4, .int (zi x4))] []) (σ : zS) (x2 : Int) (x3 : Int) (x4 : Int) (h : f_X0_find_b8 K8 σ x2 x3 x4 = some rr) : z_W C σ 8 [(0, .ref (z_ad (z_g C) 48)), (1, .ref (z_ad (z_g C) 0)), (2, .int (zi x2)), (3, .int (zi x3)), (4, .int (zi x4))] [] := by
  unfold f_X0_find_b8 at h
  refine z_iload hx 4 dX0_find_8 rfl ?_
  refine z_aload_n hx 1 dX0_find_10 rfl ?_
  refine gf_X2_marks hx wf_X0_32 (show 0 < 6 by decide) dX0_find_11 ?_
  refine z_icmp_ge hx (tgt := 86) dX0_find_14 (by decide) h (fun h => h) (fun hc h => ?_) (fun hc h => ?_)
  · cases h
    exact z_vret hx hq dX0_find_86
  · refine z_aload_n hx 1 dX0_find_17 rfl ?_
    refine gf_X2_held hx wf_X0_37 (show 0 < 6 by decide) dX0_find_18 ?_
    refine z_iload hx 4 dX0_find_21 rfl ?_
    refine z_zald hx (n := 20) (z_lt0 (z_ok_sd hx) (by decide)) (z_ka6 (z_ok_sd hx) (show 0 < 6 by decide) _) rfl (by decide) dX0_find_23 h (fun h => ?_)
    refine z_if_eq hx (tgt := 30) dX0_find_24 (by decide) h (fun h => h) (fun hc h => ?_) (fun hc h => ?_)
    · refine z_aload_n hx 1 dX0_find_30 rfl ?_
      refine gf_X2_kinds hx wf_X0_40 (show 0 < 6 by decide) dX0_find_31 ?_
      refine z_iload hx 4 dX0_find_34 rfl ?_
      refine z_iald hx (n := 20) (z_lt0 (z_ok_sd hx) (by decide)) (z_ka2 (z_ok_sd hx) (show 0 < 6 by decide) _) rfl (by decide) dX0_find_36 h (fun h => ?_)
      refine z_if_ne hx (tgt := 62) dX0_find_37 (by decide) h (fun h => h) (fun hc h => ?_) (fun hc h => ?_)
      · refine z_sub [0, 1, 2, 3, 4] rfl ?_
        exact w_X0_find_b62 hx hn hR hq hK8 σ x2 x3 x4 h
      · refine z_aload_n hx 1 dX0_find_40 rfl ?_
        refine gf_X2_doubts hx wf_X0_43 (show 0 < 6 by decide) dX0_find_41 ?_
        refine z_iload hx 4 dX0_find_44 rfl ?_
        refine z_iald hx (n := 20) (z_lt0 (z_ok_sd hx) (by decide)) (z_ka5 (z_ok_sd hx) (show 0 < 6 by decide) _) rfl (by decide) dX0_find_46 h (fun h => ?_)
        refine z_iload_n hx 2 dX0_find_47 rfl ?_
        refine z_icmp_gt hx (tgt := 62) dX0_find_48 (by decide) h (fun h => h) (fun hc h => ?_) (fun hc h => ?_)
        · refine z_sub [0, 1, 2, 3, 4] rfl ?_
          exact w_X0_find_b62 hx hn hR hq hK8 σ x2 x3 x4 h
        · refine z_aload_n hx 0 dX0_find_51 rfl ?_
          refine z_aload_n hx 1 dX0_find_52 rfl ?_
          refine z_iload hx 4 dX0_find_53 rfl ?_
          refine z_iload_n hx 3 dX0_find_55 rfl ?_
          obtain ⟨⟨⟩, σ1, h56, h⟩ := z_bind_some h
          refine z_callv hx (As := [.ref (z_ad (z_g C) 0), .int (zi x4), .int (zi x3)]) (k := 48) (met_X0_addFillerCut (z_l C) (z_g C) (z_ok_sd hx) h56) (z_lt0 (z_ok_sd hx) (by decide)) (z_kb48 (z_ok_sd hx) _) rfl rfl cv_X0_46 (z_room hR ⟨Nat.le_of_ble_eq_true rfl, Nat.le_of_ble_eq_true rfl⟩) ⟨rfl, rfl⟩ rfl rfl (Nat.le_of_ble_eq_true rfl) dX0_find_56 ?_
          refine z_goto hx (tgt := 80) dX0_find_59 (by decide) ?_
          refine z_sub [0, 1, 2, 3, 4] rfl ?_
          exact w_X0_find_b80 hx hn hR hq hK8 σ1 x2 x3 x4 h
    · refine z_goto hx (tgt := 80) dX0_find_27 (by decide) ?_
      refine z_sub [0, 1, 2, 3, 4] rfl ?_
      exact w_X0_find_b80 hx hn hR hq hK8 σ x2 x3 x4 h

theorem w_X0_find_l8 {C : zC} (hx : z_ok C cX0_find RX0 0) (hn : z_nL C = 5) (hR : z_R C = rm_X0_find) {rr : Unit × zS} (hq : z_fin C none (z_QV (z_g C) rr.2)) : ∀ (n : Nat) (σ : zS) (x2 : Int) (x3 : Int) (x4 : Int) (_ : f_X0_find_l8 n σ x2 x3 x4 = some rr), z_W C σ 8 [(0, .ref (z_ad (z_g C) 48)), (1, .ref (z_ad (z_g C) 0)), (2, .int (zi x2)), (3, .int (zi x3)), (4, .int (zi x4))] [] := by
  intro n
  induction n with
  | zero => intro σ x2 x3 x4 h; cases h
  | succ n ih =>
    intro σ x2 x3 x4 h
    exact w_X0_find_b8 hx hn hR hq ih σ x2 x3 x4 h
theorem w_X0_find {C : zC} (hx : z_ok C cX0_find RX0 0) (hn : z_nL C = 5) (hR : z_R C = rm_X0_find) {rr : Unit × zS} (hq : z_fin C none (z_QV (z_g C) rr.2)) (σ : zS) (x2 : Int) (x3 : Int) (h : f_X0_find σ x2 x3 = some rr) : z_W C σ 0 [(0, .ref (z_ad (z_g C) 48)), (1, .ref (z_ad (z_g C) 0)), (2, .int (zi x2)), (3, .int (zi x3))] [] := by
  unfold f_X0_find at h
  refine z_aload_n hx 0 dX0_find_0 rfl ?_
  refine z_iconst hx (n := 0) dX0_find_1 ?_
  refine pf_X0_count hx wf_X0_28 dX0_find_2 h (fun σ1 h => ?_)
  refine z_iconst hx (n := 0) dX0_find_5 ?_
  refine z_istore hx hn (lv' := [(4, .int (zi 0)), (0, .ref (z_ad (z_g C) 48)), (1, .ref (z_ad (z_g C) 0)), (2, .int (zi x2)), (3, .int (zi x3))]) dX0_find_6 (by decide) rfl ?_
  refine z_sub [1, 2, 3, 4, 0] rfl ?_
  exact w_X0_find_l8 hx hn hR hq z_fuel σ1 x2 x3 0 h

theorem met_X0_find (l : Launch) (g : zG) (hg : g.1 = 0) {σ : zS} {x2 : Int} {x3 : Int} {rr : Unit × zS} (h : f_X0_find σ x2 x3 = some rr) : z_Met l yX0_find cX0_find 5 none rm_X0_find g [.ref (z_ad (g) 48), .ref (z_ad (g) 0), .int (zi x2), .int (zi x3)] σ (z_QV g rr.2) := by
  refine z_enter (own := RX0) (sd := 0) (lv0 := [(0, .ref (z_ad (g) 48)), (1, .ref (z_ad (g) 0)), (2, .int (zi x2)), (3, .int (zi x3))]) (by decide) rfl (Nat.le_of_ble_eq_true rfl) hg rfl (fun C hx hl hgC hR hn hq => ?_)
  subst hgC
  refine z_sub [0, 1, 2, 3] rfl ?_
  exact w_X0_find hx hn hR hq σ x2 x3 h
theorem dX0_cutOfMark_0 : decode cX0_cutOfMark 0 = .ok (.iconst 0, 1) := by decide +kernel
theorem dX0_cutOfMark_1 : decode cX0_cutOfMark 1 = .ok (.istore_n 2, 1) := by decide +kernel
theorem dX0_cutOfMark_2 : decode cX0_cutOfMark 2 = .ok (.iload_n 2, 1) := by decide +kernel
theorem dX0_cutOfMark_3 : decode cX0_cutOfMark 3 = .ok (.aload_n 0, 1) := by decide +kernel
theorem dX0_cutOfMark_4 : decode cX0_cutOfMark 4 = .ok (.getfield 28, 3) := by decide +kernel
theorem dX0_cutOfMark_7 : decode cX0_cutOfMark 7 = .ok (.if_icmp .ge 21, 3) := by decide +kernel
theorem dX0_cutOfMark_10 : decode cX0_cutOfMark 10 = .ok (.aload_n 0, 1) := by decide +kernel
theorem dX0_cutOfMark_11 : decode cX0_cutOfMark 11 = .ok (.getfield 25, 3) := by decide +kernel
theorem dX0_cutOfMark_14 : decode cX0_cutOfMark 14 = .ok (.iload_n 2, 1) := by decide +kernel
theorem dX0_cutOfMark_15 : decode cX0_cutOfMark 15 = .ok (.iaload, 1) := by decide +kernel
theorem dX0_cutOfMark_16 : decode cX0_cutOfMark 16 = .ok (.iload_n 1, 1) := by decide +kernel
theorem dX0_cutOfMark_17 : decode cX0_cutOfMark 17 = .ok (.if_icmp .ne 5, 3) := by decide +kernel
theorem dX0_cutOfMark_20 : decode cX0_cutOfMark 20 = .ok (.iload_n 2, 1) := by decide +kernel
theorem dX0_cutOfMark_21 : decode cX0_cutOfMark 21 = .ok (.ireturn, 1) := by decide +kernel
theorem dX0_cutOfMark_22 : decode cX0_cutOfMark 22 = .ok (.iinc 2 1, 3) := by decide +kernel
theorem dX0_cutOfMark_25 : decode cX0_cutOfMark 25 = .ok (.goto (-23), 3) := by decide +kernel
theorem dX0_cutOfMark_28 : decode cX0_cutOfMark 28 = .ok (.bipush (-9), 2) := by decide +kernel
theorem dX0_cutOfMark_30 : decode cX0_cutOfMark 30 = .ok (.ireturn, 1) := by decide +kernel
abbrev rm_X0_cutOfMark : Room := { frames := 0, cells := 0, slots := 0, locals := 0 }
theorem w_X0_cutOfMark_b2 {C : zC} (hx : z_ok C cX0_cutOfMark RX0 0) (hn : z_nL C = 3) (hR : z_R C = rm_X0_cutOfMark) {rr : Int × zS} (hq : z_fin C (some .int) (z_QI (z_g C) rr.1 rr.2)) {K2 : zS → Int → Int → Option (Int × zS)} (hK2 : ∀ (σ : zS) (x1 : Int) (x2 : Int) , K2 σ x1 x2 = some rr → z_W C σ 2 [(0, .ref (z_ad (z_g C) 48)), (1, .int (zi x1)), (2, .int (zi x2))] []) (σ : zS) (x1 : Int) (x2 : Int) (h : f_X0_cutOfMark_b2 K2 σ x1 x2 = some rr) : z_W C σ 2 [(0, .ref (z_ad (z_g C) 48)), (1, .int (zi x1)), (2, .int (zi x2))] [] := by
  unfold f_X0_cutOfMark_b2 at h
  refine z_iload_n hx 2 dX0_cutOfMark_2 rfl ?_
  refine z_aload_n hx 0 dX0_cutOfMark_3 rfl ?_
  refine gf_X0_count hx wf_X0_28 dX0_cutOfMark_4 ?_
  refine z_icmp_ge hx (tgt := 28) dX0_cutOfMark_7 (by decide) h (fun h => h) (fun hc h => ?_) (fun hc h => ?_)
  · refine z_bipush hx (n := (-9)) dX0_cutOfMark_28 rfl ?_
    cases h
    exact z_iret hx hq dX0_cutOfMark_30
  · refine z_aload_n hx 0 dX0_cutOfMark_10 rfl ?_
    refine gf_X0_markNumbers hx wf_X0_25 dX0_cutOfMark_11 ?_
    refine z_iload_n hx 2 dX0_cutOfMark_14 rfl ?_
    refine z_iald hx (n := 20) (z_lt0 (z_ok_sd hx) (by decide)) (z_kb53 (z_ok_sd hx) _) rfl (by decide) dX0_cutOfMark_15 h (fun h => ?_)
    refine z_iload_n hx 1 dX0_cutOfMark_16 rfl ?_
    refine z_icmp_ne hx (tgt := 22) dX0_cutOfMark_17 (by decide) h (fun h => h) (fun hc h => ?_) (fun hc h => ?_)
    · refine z_iinc hx hn 2 (lv' := [(2, .int (zi (x2 + 1))), (0, .ref (z_ad (z_g C) 48)), (1, .int (zi x1))]) dX0_cutOfMark_22 rfl (by decide) rfl ?_
      refine z_goto hx (tgt := 2) dX0_cutOfMark_25 (by decide) ?_
      refine z_sub [1, 2, 0] rfl ?_
      exact hK2 σ x1 (x2 + 1) h
    · refine z_iload_n hx 2 dX0_cutOfMark_20 rfl ?_
      cases h
      exact z_iret hx hq dX0_cutOfMark_21

theorem w_X0_cutOfMark_l2 {C : zC} (hx : z_ok C cX0_cutOfMark RX0 0) (hn : z_nL C = 3) (hR : z_R C = rm_X0_cutOfMark) {rr : Int × zS} (hq : z_fin C (some .int) (z_QI (z_g C) rr.1 rr.2)) : ∀ (n : Nat) (σ : zS) (x1 : Int) (x2 : Int) (_ : f_X0_cutOfMark_l2 n σ x1 x2 = some rr), z_W C σ 2 [(0, .ref (z_ad (z_g C) 48)), (1, .int (zi x1)), (2, .int (zi x2))] [] := by
  intro n
  induction n with
  | zero => intro σ x1 x2 h; cases h
  | succ n ih =>
    intro σ x1 x2 h
    exact w_X0_cutOfMark_b2 hx hn hR hq ih σ x1 x2 h
theorem w_X0_cutOfMark {C : zC} (hx : z_ok C cX0_cutOfMark RX0 0) (hn : z_nL C = 3) (hR : z_R C = rm_X0_cutOfMark) {rr : Int × zS} (hq : z_fin C (some .int) (z_QI (z_g C) rr.1 rr.2)) (σ : zS) (x1 : Int) (h : f_X0_cutOfMark σ x1 = some rr) : z_W C σ 0 [(0, .ref (z_ad (z_g C) 48)), (1, .int (zi x1))] [] := by
  unfold f_X0_cutOfMark at h
  refine z_iconst hx (n := 0) dX0_cutOfMark_0 ?_
  refine z_istore_n hx hn (lv' := [(2, .int (zi 0)), (0, .ref (z_ad (z_g C) 48)), (1, .int (zi x1))]) dX0_cutOfMark_1 (by decide) rfl ?_
  refine z_sub [1, 2, 0] rfl ?_
  exact w_X0_cutOfMark_l2 hx hn hR hq z_fuel σ x1 0 h

theorem met_X0_cutOfMark (l : Launch) (g : zG) (hg : g.1 = 0) {σ : zS} {x1 : Int} {rr : Int × zS} (h : f_X0_cutOfMark σ x1 = some rr) : z_Met l yX0_cutOfMark cX0_cutOfMark 3 (some .int) rm_X0_cutOfMark g [.ref (z_ad (g) 48), .int (zi x1)] σ (z_QI g rr.1 rr.2) := by
  refine z_enter (own := RX0) (sd := 0) (lv0 := [(0, .ref (z_ad (g) 48)), (1, .int (zi x1))]) (by decide) rfl (Nat.le_of_ble_eq_true rfl) hg rfl (fun C hx hl hgC hR hn hq => ?_)
  subst hgC
  refine z_sub [0, 1] rfl ?_
  exact w_X0_cutOfMark hx hn hR hq σ x1 h
theorem dX0_numberOfCut_0 : decode cX0_numberOfCut 0 = .ok (.iload_n 1, 1) := by decide +kernel
theorem dX0_numberOfCut_1 : decode cX0_numberOfCut 1 = .ok (.ifCond .lt 11, 3) := by decide +kernel
theorem dX0_numberOfCut_4 : decode cX0_numberOfCut 4 = .ok (.iload_n 1, 1) := by decide +kernel
theorem dX0_numberOfCut_5 : decode cX0_numberOfCut 5 = .ok (.aload_n 0, 1) := by decide +kernel
theorem dX0_numberOfCut_6 : decode cX0_numberOfCut 6 = .ok (.getfield 28, 3) := by decide +kernel
theorem dX0_numberOfCut_9 : decode cX0_numberOfCut 9 = .ok (.if_icmp .lt 5, 3) := by decide +kernel
theorem dX0_numberOfCut_12 : decode cX0_numberOfCut 12 = .ok (.iconst (-1), 1) := by decide +kernel
theorem dX0_numberOfCut_13 : decode cX0_numberOfCut 13 = .ok (.ireturn, 1) := by decide +kernel
theorem dX0_numberOfCut_14 : decode cX0_numberOfCut 14 = .ok (.iload_n 2, 1) := by decide +kernel
theorem dX0_numberOfCut_15 : decode cX0_numberOfCut 15 = .ok (.tableswitch 76 0 4 #[33, 40, 47, 54, 69], 33) := by decide +kernel
theorem dX0_numberOfCut_48 : decode cX0_numberOfCut 48 = .ok (.aload_n 0, 1) := by decide +kernel
theorem dX0_numberOfCut_49 : decode cX0_numberOfCut 49 = .ok (.getfield 9, 3) := by decide +kernel
theorem dX0_numberOfCut_52 : decode cX0_numberOfCut 52 = .ok (.iload_n 1, 1) := by decide +kernel
theorem dX0_numberOfCut_53 : decode cX0_numberOfCut 53 = .ok (.iaload, 1) := by decide +kernel
theorem dX0_numberOfCut_54 : decode cX0_numberOfCut 54 = .ok (.ireturn, 1) := by decide +kernel
theorem dX0_numberOfCut_55 : decode cX0_numberOfCut 55 = .ok (.aload_n 0, 1) := by decide +kernel
theorem dX0_numberOfCut_56 : decode cX0_numberOfCut 56 = .ok (.getfield 15, 3) := by decide +kernel
theorem dX0_numberOfCut_59 : decode cX0_numberOfCut 59 = .ok (.iload_n 1, 1) := by decide +kernel
theorem dX0_numberOfCut_60 : decode cX0_numberOfCut 60 = .ok (.iaload, 1) := by decide +kernel
theorem dX0_numberOfCut_61 : decode cX0_numberOfCut 61 = .ok (.ireturn, 1) := by decide +kernel
theorem dX0_numberOfCut_62 : decode cX0_numberOfCut 62 = .ok (.aload_n 0, 1) := by decide +kernel
theorem dX0_numberOfCut_63 : decode cX0_numberOfCut 63 = .ok (.getfield 18, 3) := by decide +kernel
theorem dX0_numberOfCut_66 : decode cX0_numberOfCut 66 = .ok (.iload_n 1, 1) := by decide +kernel
theorem dX0_numberOfCut_67 : decode cX0_numberOfCut 67 = .ok (.iaload, 1) := by decide +kernel
theorem dX0_numberOfCut_68 : decode cX0_numberOfCut 68 = .ok (.ireturn, 1) := by decide +kernel
theorem dX0_numberOfCut_69 : decode cX0_numberOfCut 69 = .ok (.aload_n 0, 1) := by decide +kernel
theorem dX0_numberOfCut_70 : decode cX0_numberOfCut 70 = .ok (.getfield 21, 3) := by decide +kernel
theorem dX0_numberOfCut_73 : decode cX0_numberOfCut 73 = .ok (.iload_n 1, 1) := by decide +kernel
theorem dX0_numberOfCut_74 : decode cX0_numberOfCut 74 = .ok (.baload, 1) := by decide +kernel
theorem dX0_numberOfCut_75 : decode cX0_numberOfCut 75 = .ok (.ifCond .eq 7, 3) := by decide +kernel
theorem dX0_numberOfCut_78 : decode cX0_numberOfCut 78 = .ok (.iconst 1, 1) := by decide +kernel
theorem dX0_numberOfCut_79 : decode cX0_numberOfCut 79 = .ok (.goto 4, 3) := by decide +kernel
theorem dX0_numberOfCut_82 : decode cX0_numberOfCut 82 = .ok (.iconst 0, 1) := by decide +kernel
theorem dX0_numberOfCut_83 : decode cX0_numberOfCut 83 = .ok (.ireturn, 1) := by decide +kernel
theorem dX0_numberOfCut_84 : decode cX0_numberOfCut 84 = .ok (.aload_n 0, 1) := by decide +kernel
theorem dX0_numberOfCut_85 : decode cX0_numberOfCut 85 = .ok (.getfield 25, 3) := by decide +kernel
theorem dX0_numberOfCut_88 : decode cX0_numberOfCut 88 = .ok (.iload_n 1, 1) := by decide +kernel
theorem dX0_numberOfCut_89 : decode cX0_numberOfCut 89 = .ok (.iaload, 1) := by decide +kernel
theorem dX0_numberOfCut_90 : decode cX0_numberOfCut 90 = .ok (.ireturn, 1) := by decide +kernel
theorem dX0_numberOfCut_91 : decode cX0_numberOfCut 91 = .ok (.iconst (-1), 1) := by decide +kernel
theorem dX0_numberOfCut_92 : decode cX0_numberOfCut 92 = .ok (.ireturn, 1) := by decide +kernel
abbrev rm_X0_numberOfCut : Room := { frames := 0, cells := 0, slots := 0, locals := 0 }
theorem w_X0_numberOfCut_b83 {C : zC} (hx : z_ok C cX0_numberOfCut RX0 0) (hn : z_nL C = 3) (hR : z_R C = rm_X0_numberOfCut) {rr : Int × zS} (hq : z_fin C (some .int) (z_QI (z_g C) rr.1 rr.2)) (σ : zS) (s0 : Int) (h : f_X0_numberOfCut_b83 σ s0 = some rr) : z_W C σ 83 [] [.int (zi s0)] := by
  unfold f_X0_numberOfCut_b83 at h
  cases h
  exact z_iret hx hq dX0_numberOfCut_83

theorem w_X0_numberOfCut_b12 {C : zC} (hx : z_ok C cX0_numberOfCut RX0 0) (hn : z_nL C = 3) (hR : z_R C = rm_X0_numberOfCut) {rr : Int × zS} (hq : z_fin C (some .int) (z_QI (z_g C) rr.1 rr.2)) (σ : zS) (h : f_X0_numberOfCut_b12 σ = some rr) : z_W C σ 12 [] [] := by
  unfold f_X0_numberOfCut_b12 at h
  refine z_iconst hx (n := (-1)) dX0_numberOfCut_12 ?_
  cases h
  exact z_iret hx hq dX0_numberOfCut_13

theorem w_X0_numberOfCut {C : zC} (hx : z_ok C cX0_numberOfCut RX0 0) (hn : z_nL C = 3) (hR : z_R C = rm_X0_numberOfCut) {rr : Int × zS} (hq : z_fin C (some .int) (z_QI (z_g C) rr.1 rr.2)) (σ : zS) (x1 : Int) (x2 : Int) (h : f_X0_numberOfCut σ x1 x2 = some rr) : z_W C σ 0 [(0, .ref (z_ad (z_g C) 48)), (1, .int (zi x1)), (2, .int (zi x2))] [] := by
  unfold f_X0_numberOfCut at h
  refine z_iload_n hx 1 dX0_numberOfCut_0 rfl ?_
  refine z_if_lt hx (tgt := 12) dX0_numberOfCut_1 (by decide) h (fun h => h) (fun hc h => ?_) (fun hc h => ?_)
  · refine z_sub [] rfl ?_
    exact w_X0_numberOfCut_b12 hx hn hR hq σ h
  · refine z_iload_n hx 1 dX0_numberOfCut_4 rfl ?_
    refine z_aload_n hx 0 dX0_numberOfCut_5 rfl ?_
    refine gf_X0_count hx wf_X0_28 dX0_numberOfCut_6 ?_
    refine z_icmp_lt hx (tgt := 14) dX0_numberOfCut_9 (by decide) h (fun h => h) (fun hc h => ?_) (fun hc h => ?_)
    · refine z_iload_n hx 2 dX0_numberOfCut_14 rfl ?_
      obtain ⟨hr, h⟩ := z_gd h
      by_cases hc0 : x2 = 0
      · rw [if_pos hc0] at h
        refine z_tswIn hx (tgt := 48) (off := 33) dX0_numberOfCut_15 hr (by omega) (by omega) (by rw [hc0]; rfl) (by decide) ?_
        refine z_aload_n hx 0 dX0_numberOfCut_48 rfl ?_
        refine gf_X0_begins hx wf_X0_9 dX0_numberOfCut_49 ?_
        refine z_iload_n hx 1 dX0_numberOfCut_52 rfl ?_
        refine z_iald hx (n := 20) (z_lt0 (z_ok_sd hx) (by decide)) (z_kb49 (z_ok_sd hx) _) rfl (by decide) dX0_numberOfCut_53 h (fun h => ?_)
        cases h
        exact z_iret hx hq dX0_numberOfCut_54
      · rw [if_neg hc0] at h
        by_cases hc1 : x2 = 1
        · rw [if_pos hc1] at h
          refine z_tswIn hx (tgt := 55) (off := 40) dX0_numberOfCut_15 hr (by omega) (by omega) (by rw [hc1]; rfl) (by decide) ?_
          refine z_aload_n hx 0 dX0_numberOfCut_55 rfl ?_
          refine gf_X0_ends hx wf_X0_15 dX0_numberOfCut_56 ?_
          refine z_iload_n hx 1 dX0_numberOfCut_59 rfl ?_
          refine z_iald hx (n := 20) (z_lt0 (z_ok_sd hx) (by decide)) (z_kb50 (z_ok_sd hx) _) rfl (by decide) dX0_numberOfCut_60 h (fun h => ?_)
          cases h
          exact z_iret hx hq dX0_numberOfCut_61
        · rw [if_neg hc1] at h
          by_cases hc2 : x2 = 2
          · rw [if_pos hc2] at h
            refine z_tswIn hx (tgt := 62) (off := 47) dX0_numberOfCut_15 hr (by omega) (by omega) (by rw [hc2]; rfl) (by decide) ?_
            refine z_aload_n hx 0 dX0_numberOfCut_62 rfl ?_
            refine gf_X0_pauses hx wf_X0_18 dX0_numberOfCut_63 ?_
            refine z_iload_n hx 1 dX0_numberOfCut_66 rfl ?_
            refine z_iald hx (n := 20) (z_lt0 (z_ok_sd hx) (by decide)) (z_kb51 (z_ok_sd hx) _) rfl (by decide) dX0_numberOfCut_67 h (fun h => ?_)
            cases h
            exact z_iret hx hq dX0_numberOfCut_68
          · rw [if_neg hc2] at h
            by_cases hc3 : x2 = 3
            · rw [if_pos hc3] at h
              refine z_tswIn hx (tgt := 69) (off := 54) dX0_numberOfCut_15 hr (by omega) (by omega) (by rw [hc3]; rfl) (by decide) ?_
              refine z_aload_n hx 0 dX0_numberOfCut_69 rfl ?_
              refine gf_X0_rough hx wf_X0_21 dX0_numberOfCut_70 ?_
              refine z_iload_n hx 1 dX0_numberOfCut_73 rfl ?_
              refine z_zald hx (n := 20) (z_lt0 (z_ok_sd hx) (by decide)) (z_kb52 (z_ok_sd hx) _) rfl (by decide) dX0_numberOfCut_74 h (fun h => ?_)
              refine z_if_eq hx (tgt := 82) dX0_numberOfCut_75 (by decide) h (fun h => h) (fun hc h => ?_) (fun hc h => ?_)
              · refine z_iconst hx (n := 0) dX0_numberOfCut_82 ?_
                refine z_sub [] rfl ?_
                exact w_X0_numberOfCut_b83 hx hn hR hq σ 0 h
              · refine z_iconst hx (n := 1) dX0_numberOfCut_78 ?_
                refine z_goto hx (tgt := 83) dX0_numberOfCut_79 (by decide) ?_
                refine z_sub [] rfl ?_
                exact w_X0_numberOfCut_b83 hx hn hR hq σ 1 h
            · rw [if_neg hc3] at h
              by_cases hc4 : x2 = 4
              · rw [if_pos hc4] at h
                refine z_tswIn hx (tgt := 84) (off := 69) dX0_numberOfCut_15 hr (by omega) (by omega) (by rw [hc4]; rfl) (by decide) ?_
                refine z_aload_n hx 0 dX0_numberOfCut_84 rfl ?_
                refine gf_X0_markNumbers hx wf_X0_25 dX0_numberOfCut_85 ?_
                refine z_iload_n hx 1 dX0_numberOfCut_88 rfl ?_
                refine z_iald hx (n := 20) (z_lt0 (z_ok_sd hx) (by decide)) (z_kb53 (z_ok_sd hx) _) rfl (by decide) dX0_numberOfCut_89 h (fun h => ?_)
                cases h
                exact z_iret hx hq dX0_numberOfCut_90
              · rw [if_neg hc4] at h
                refine z_tswOut hx (tgt := 91) dX0_numberOfCut_15 hr (by omega) (by decide) ?_
                refine z_iconst hx (n := (-1)) dX0_numberOfCut_91 ?_
                cases h
                exact z_iret hx hq dX0_numberOfCut_92
    · refine z_sub [] rfl ?_
      exact w_X0_numberOfCut_b12 hx hn hR hq σ h

theorem met_X0_numberOfCut (l : Launch) (g : zG) (hg : g.1 = 0) {σ : zS} {x1 : Int} {x2 : Int} {rr : Int × zS} (h : f_X0_numberOfCut σ x1 x2 = some rr) : z_Met l yX0_numberOfCut cX0_numberOfCut 3 (some .int) rm_X0_numberOfCut g [.ref (z_ad (g) 48), .int (zi x1), .int (zi x2)] σ (z_QI g rr.1 rr.2) := by
  refine z_enter (own := RX0) (sd := 0) (lv0 := [(0, .ref (z_ad (g) 48)), (1, .int (zi x1)), (2, .int (zi x2))]) (by decide) rfl (Nat.le_of_ble_eq_true rfl) hg rfl (fun C hx hl hgC hR hn hq => ?_)
  subst hgC
  refine z_sub [0, 1, 2] rfl ?_
  exact w_X0_numberOfCut hx hn hR hq σ x1 x2 h
theorem dX0_cutFrames_0 : decode cX0_cutFrames 0 = .ok (.iconst 0, 1) := by decide +kernel
theorem dX0_cutFrames_1 : decode cX0_cutFrames 1 = .ok (.istore_n 1, 1) := by decide +kernel
theorem dX0_cutFrames_2 : decode cX0_cutFrames 2 = .ok (.iconst 0, 1) := by decide +kernel
theorem dX0_cutFrames_3 : decode cX0_cutFrames 3 = .ok (.istore_n 2, 1) := by decide +kernel
theorem dX0_cutFrames_4 : decode cX0_cutFrames 4 = .ok (.iload_n 2, 1) := by decide +kernel
theorem dX0_cutFrames_5 : decode cX0_cutFrames 5 = .ok (.aload_n 0, 1) := by decide +kernel
theorem dX0_cutFrames_6 : decode cX0_cutFrames 6 = .ok (.getfield 28, 3) := by decide +kernel
theorem dX0_cutFrames_9 : decode cX0_cutFrames 9 = .ok (.if_icmp .ge 25, 3) := by decide +kernel
theorem dX0_cutFrames_12 : decode cX0_cutFrames 12 = .ok (.iload_n 1, 1) := by decide +kernel
theorem dX0_cutFrames_13 : decode cX0_cutFrames 13 = .ok (.aload_n 0, 1) := by decide +kernel
theorem dX0_cutFrames_14 : decode cX0_cutFrames 14 = .ok (.getfield 15, 3) := by decide +kernel
theorem dX0_cutFrames_17 : decode cX0_cutFrames 17 = .ok (.iload_n 2, 1) := by decide +kernel
theorem dX0_cutFrames_18 : decode cX0_cutFrames 18 = .ok (.iaload, 1) := by decide +kernel
theorem dX0_cutFrames_19 : decode cX0_cutFrames 19 = .ok (.aload_n 0, 1) := by decide +kernel
theorem dX0_cutFrames_20 : decode cX0_cutFrames 20 = .ok (.getfield 9, 3) := by decide +kernel
theorem dX0_cutFrames_23 : decode cX0_cutFrames 23 = .ok (.iload_n 2, 1) := by decide +kernel
theorem dX0_cutFrames_24 : decode cX0_cutFrames 24 = .ok (.iaload, 1) := by decide +kernel
theorem dX0_cutFrames_25 : decode cX0_cutFrames 25 = .ok (.isub, 1) := by decide +kernel
theorem dX0_cutFrames_26 : decode cX0_cutFrames 26 = .ok (.iadd, 1) := by decide +kernel
theorem dX0_cutFrames_27 : decode cX0_cutFrames 27 = .ok (.istore_n 1, 1) := by decide +kernel
theorem dX0_cutFrames_28 : decode cX0_cutFrames 28 = .ok (.iinc 2 1, 3) := by decide +kernel
theorem dX0_cutFrames_31 : decode cX0_cutFrames 31 = .ok (.goto (-27), 3) := by decide +kernel
theorem dX0_cutFrames_34 : decode cX0_cutFrames 34 = .ok (.iload_n 1, 1) := by decide +kernel
theorem dX0_cutFrames_35 : decode cX0_cutFrames 35 = .ok (.ireturn, 1) := by decide +kernel
abbrev rm_X0_cutFrames : Room := { frames := 0, cells := 0, slots := 0, locals := 0 }
theorem w_X0_cutFrames_b4 {C : zC} (hx : z_ok C cX0_cutFrames RX0 0) (hn : z_nL C = 3) (hR : z_R C = rm_X0_cutFrames) {rr : Int × zS} (hq : z_fin C (some .int) (z_QI (z_g C) rr.1 rr.2)) {K4 : zS → Int → Int → Option (Int × zS)} (hK4 : ∀ (σ : zS) (x1 : Int) (x2 : Int) , K4 σ x1 x2 = some rr → z_W C σ 4 [(0, .ref (z_ad (z_g C) 48)), (1, .int (zi x1)), (2, .int (zi x2))] []) (σ : zS) (x1 : Int) (x2 : Int) (h : f_X0_cutFrames_b4 K4 σ x1 x2 = some rr) : z_W C σ 4 [(0, .ref (z_ad (z_g C) 48)), (1, .int (zi x1)), (2, .int (zi x2))] [] := by
  unfold f_X0_cutFrames_b4 at h
  refine z_iload_n hx 2 dX0_cutFrames_4 rfl ?_
  refine z_aload_n hx 0 dX0_cutFrames_5 rfl ?_
  refine gf_X0_count hx wf_X0_28 dX0_cutFrames_6 ?_
  refine z_icmp_ge hx (tgt := 34) dX0_cutFrames_9 (by decide) h (fun h => h) (fun hc h => ?_) (fun hc h => ?_)
  · refine z_iload_n hx 1 dX0_cutFrames_34 rfl ?_
    cases h
    exact z_iret hx hq dX0_cutFrames_35
  · refine z_iload_n hx 1 dX0_cutFrames_12 rfl ?_
    refine z_aload_n hx 0 dX0_cutFrames_13 rfl ?_
    refine gf_X0_ends hx wf_X0_15 dX0_cutFrames_14 ?_
    refine z_iload_n hx 2 dX0_cutFrames_17 rfl ?_
    refine z_iald hx (n := 20) (z_lt0 (z_ok_sd hx) (by decide)) (z_kb50 (z_ok_sd hx) _) rfl (by decide) dX0_cutFrames_18 h (fun h => ?_)
    refine z_aload_n hx 0 dX0_cutFrames_19 rfl ?_
    refine gf_X0_begins hx wf_X0_9 dX0_cutFrames_20 ?_
    refine z_iload_n hx 2 dX0_cutFrames_23 rfl ?_
    refine z_iald hx (n := 20) (z_lt0 (z_ok_sd hx) (by decide)) (z_kb49 (z_ok_sd hx) _) rfl (by decide) dX0_cutFrames_24 h (fun h => ?_)
    refine z_isub hx dX0_cutFrames_25 ?_
    refine z_iadd hx dX0_cutFrames_26 ?_
    refine z_istore_n hx hn (lv' := [(1, .int (zi (x1 + ((σ 50 x2) - (σ 49 x2))))), (0, .ref (z_ad (z_g C) 48)), (2, .int (zi x2))]) dX0_cutFrames_27 (by decide) rfl ?_
    refine z_iinc hx hn 2 (lv' := [(2, .int (zi (x2 + 1))), (1, .int (zi (x1 + ((σ 50 x2) - (σ 49 x2))))), (0, .ref (z_ad (z_g C) 48))]) dX0_cutFrames_28 rfl (by decide) rfl ?_
    refine z_goto hx (tgt := 4) dX0_cutFrames_31 (by decide) ?_
    refine z_sub [2, 1, 0] rfl ?_
    exact hK4 σ (x1 + ((σ 50 x2) - (σ 49 x2))) (x2 + 1) h

theorem w_X0_cutFrames_l4 {C : zC} (hx : z_ok C cX0_cutFrames RX0 0) (hn : z_nL C = 3) (hR : z_R C = rm_X0_cutFrames) {rr : Int × zS} (hq : z_fin C (some .int) (z_QI (z_g C) rr.1 rr.2)) : ∀ (n : Nat) (σ : zS) (x1 : Int) (x2 : Int) (_ : f_X0_cutFrames_l4 n σ x1 x2 = some rr), z_W C σ 4 [(0, .ref (z_ad (z_g C) 48)), (1, .int (zi x1)), (2, .int (zi x2))] [] := by
  intro n
  induction n with
  | zero => intro σ x1 x2 h; cases h
  | succ n ih =>
    intro σ x1 x2 h
    exact w_X0_cutFrames_b4 hx hn hR hq ih σ x1 x2 h
theorem w_X0_cutFrames {C : zC} (hx : z_ok C cX0_cutFrames RX0 0) (hn : z_nL C = 3) (hR : z_R C = rm_X0_cutFrames) {rr : Int × zS} (hq : z_fin C (some .int) (z_QI (z_g C) rr.1 rr.2)) (σ : zS) (h : f_X0_cutFrames σ = some rr) : z_W C σ 0 [(0, .ref (z_ad (z_g C) 48))] [] := by
  unfold f_X0_cutFrames at h
  refine z_iconst hx (n := 0) dX0_cutFrames_0 ?_
  refine z_istore_n hx hn (lv' := [(1, .int (zi 0)), (0, .ref (z_ad (z_g C) 48))]) dX0_cutFrames_1 (by decide) rfl ?_
  refine z_iconst hx (n := 0) dX0_cutFrames_2 ?_
  refine z_istore_n hx hn (lv' := [(2, .int (zi 0)), (1, .int (zi 0)), (0, .ref (z_ad (z_g C) 48))]) dX0_cutFrames_3 (by decide) rfl ?_
  refine z_sub [2, 1, 0] rfl ?_
  exact w_X0_cutFrames_l4 hx hn hR hq z_fuel σ 0 0 h

theorem met_X0_cutFrames (l : Launch) (g : zG) (hg : g.1 = 0) {σ : zS} {rr : Int × zS} (h : f_X0_cutFrames σ = some rr) : z_Met l yX0_cutFrames cX0_cutFrames 3 (some .int) rm_X0_cutFrames g [.ref (z_ad (g) 48)] σ (z_QI g rr.1 rr.2) := by
  refine z_enter (own := RX0) (sd := 0) (lv0 := [(0, .ref (z_ad (g) 48))]) (by decide) rfl (Nat.le_of_ble_eq_true rfl) hg rfl (fun C hx hl hgC hR hn hq => ?_)
  subst hgC
  refine z_sub [0] rfl ?_
  exact w_X0_cutFrames hx hn hR hq σ h
theorem dX0_pauseFrames_0 : decode cX0_pauseFrames 0 = .ok (.iconst 0, 1) := by decide +kernel
theorem dX0_pauseFrames_1 : decode cX0_pauseFrames 1 = .ok (.istore_n 1, 1) := by decide +kernel
theorem dX0_pauseFrames_2 : decode cX0_pauseFrames 2 = .ok (.iconst 0, 1) := by decide +kernel
theorem dX0_pauseFrames_3 : decode cX0_pauseFrames 3 = .ok (.istore_n 2, 1) := by decide +kernel
theorem dX0_pauseFrames_4 : decode cX0_pauseFrames 4 = .ok (.iload_n 2, 1) := by decide +kernel
theorem dX0_pauseFrames_5 : decode cX0_pauseFrames 5 = .ok (.aload_n 0, 1) := by decide +kernel
theorem dX0_pauseFrames_6 : decode cX0_pauseFrames 6 = .ok (.getfield 28, 3) := by decide +kernel
theorem dX0_pauseFrames_9 : decode cX0_pauseFrames 9 = .ok (.if_icmp .ge 18, 3) := by decide +kernel
theorem dX0_pauseFrames_12 : decode cX0_pauseFrames 12 = .ok (.iload_n 1, 1) := by decide +kernel
theorem dX0_pauseFrames_13 : decode cX0_pauseFrames 13 = .ok (.aload_n 0, 1) := by decide +kernel
theorem dX0_pauseFrames_14 : decode cX0_pauseFrames 14 = .ok (.getfield 18, 3) := by decide +kernel
theorem dX0_pauseFrames_17 : decode cX0_pauseFrames 17 = .ok (.iload_n 2, 1) := by decide +kernel
theorem dX0_pauseFrames_18 : decode cX0_pauseFrames 18 = .ok (.iaload, 1) := by decide +kernel
theorem dX0_pauseFrames_19 : decode cX0_pauseFrames 19 = .ok (.iadd, 1) := by decide +kernel
theorem dX0_pauseFrames_20 : decode cX0_pauseFrames 20 = .ok (.istore_n 1, 1) := by decide +kernel
theorem dX0_pauseFrames_21 : decode cX0_pauseFrames 21 = .ok (.iinc 2 1, 3) := by decide +kernel
theorem dX0_pauseFrames_24 : decode cX0_pauseFrames 24 = .ok (.goto (-20), 3) := by decide +kernel
theorem dX0_pauseFrames_27 : decode cX0_pauseFrames 27 = .ok (.iload_n 1, 1) := by decide +kernel
theorem dX0_pauseFrames_28 : decode cX0_pauseFrames 28 = .ok (.ireturn, 1) := by decide +kernel
abbrev rm_X0_pauseFrames : Room := { frames := 0, cells := 0, slots := 0, locals := 0 }
theorem w_X0_pauseFrames_b4 {C : zC} (hx : z_ok C cX0_pauseFrames RX0 0) (hn : z_nL C = 3) (hR : z_R C = rm_X0_pauseFrames) {rr : Int × zS} (hq : z_fin C (some .int) (z_QI (z_g C) rr.1 rr.2)) {K4 : zS → Int → Int → Option (Int × zS)} (hK4 : ∀ (σ : zS) (x1 : Int) (x2 : Int) , K4 σ x1 x2 = some rr → z_W C σ 4 [(0, .ref (z_ad (z_g C) 48)), (1, .int (zi x1)), (2, .int (zi x2))] []) (σ : zS) (x1 : Int) (x2 : Int) (h : f_X0_pauseFrames_b4 K4 σ x1 x2 = some rr) : z_W C σ 4 [(0, .ref (z_ad (z_g C) 48)), (1, .int (zi x1)), (2, .int (zi x2))] [] := by
  unfold f_X0_pauseFrames_b4 at h
  refine z_iload_n hx 2 dX0_pauseFrames_4 rfl ?_
  refine z_aload_n hx 0 dX0_pauseFrames_5 rfl ?_
  refine gf_X0_count hx wf_X0_28 dX0_pauseFrames_6 ?_
  refine z_icmp_ge hx (tgt := 27) dX0_pauseFrames_9 (by decide) h (fun h => h) (fun hc h => ?_) (fun hc h => ?_)
  · refine z_iload_n hx 1 dX0_pauseFrames_27 rfl ?_
    cases h
    exact z_iret hx hq dX0_pauseFrames_28
  · refine z_iload_n hx 1 dX0_pauseFrames_12 rfl ?_
    refine z_aload_n hx 0 dX0_pauseFrames_13 rfl ?_
    refine gf_X0_pauses hx wf_X0_18 dX0_pauseFrames_14 ?_
    refine z_iload_n hx 2 dX0_pauseFrames_17 rfl ?_
    refine z_iald hx (n := 20) (z_lt0 (z_ok_sd hx) (by decide)) (z_kb51 (z_ok_sd hx) _) rfl (by decide) dX0_pauseFrames_18 h (fun h => ?_)
    refine z_iadd hx dX0_pauseFrames_19 ?_
    refine z_istore_n hx hn (lv' := [(1, .int (zi (x1 + (σ 51 x2)))), (0, .ref (z_ad (z_g C) 48)), (2, .int (zi x2))]) dX0_pauseFrames_20 (by decide) rfl ?_
    refine z_iinc hx hn 2 (lv' := [(2, .int (zi (x2 + 1))), (1, .int (zi (x1 + (σ 51 x2)))), (0, .ref (z_ad (z_g C) 48))]) dX0_pauseFrames_21 rfl (by decide) rfl ?_
    refine z_goto hx (tgt := 4) dX0_pauseFrames_24 (by decide) ?_
    refine z_sub [2, 1, 0] rfl ?_
    exact hK4 σ (x1 + (σ 51 x2)) (x2 + 1) h

theorem w_X0_pauseFrames_l4 {C : zC} (hx : z_ok C cX0_pauseFrames RX0 0) (hn : z_nL C = 3) (hR : z_R C = rm_X0_pauseFrames) {rr : Int × zS} (hq : z_fin C (some .int) (z_QI (z_g C) rr.1 rr.2)) : ∀ (n : Nat) (σ : zS) (x1 : Int) (x2 : Int) (_ : f_X0_pauseFrames_l4 n σ x1 x2 = some rr), z_W C σ 4 [(0, .ref (z_ad (z_g C) 48)), (1, .int (zi x1)), (2, .int (zi x2))] [] := by
  intro n
  induction n with
  | zero => intro σ x1 x2 h; cases h
  | succ n ih =>
    intro σ x1 x2 h
    exact w_X0_pauseFrames_b4 hx hn hR hq ih σ x1 x2 h
theorem w_X0_pauseFrames {C : zC} (hx : z_ok C cX0_pauseFrames RX0 0) (hn : z_nL C = 3) (hR : z_R C = rm_X0_pauseFrames) {rr : Int × zS} (hq : z_fin C (some .int) (z_QI (z_g C) rr.1 rr.2)) (σ : zS) (h : f_X0_pauseFrames σ = some rr) : z_W C σ 0 [(0, .ref (z_ad (z_g C) 48))] [] := by
  unfold f_X0_pauseFrames at h
  refine z_iconst hx (n := 0) dX0_pauseFrames_0 ?_
  refine z_istore_n hx hn (lv' := [(1, .int (zi 0)), (0, .ref (z_ad (z_g C) 48))]) dX0_pauseFrames_1 (by decide) rfl ?_
  refine z_iconst hx (n := 0) dX0_pauseFrames_2 ?_
  refine z_istore_n hx hn (lv' := [(2, .int (zi 0)), (1, .int (zi 0)), (0, .ref (z_ad (z_g C) 48))]) dX0_pauseFrames_3 (by decide) rfl ?_
  refine z_sub [2, 1, 0] rfl ?_
  exact w_X0_pauseFrames_l4 hx hn hR hq z_fuel σ 0 0 h

theorem met_X0_pauseFrames (l : Launch) (g : zG) (hg : g.1 = 0) {σ : zS} {rr : Int × zS} (h : f_X0_pauseFrames σ = some rr) : z_Met l yX0_pauseFrames cX0_pauseFrames 3 (some .int) rm_X0_pauseFrames g [.ref (z_ad (g) 48)] σ (z_QI g rr.1 rr.2) := by
  refine z_enter (own := RX0) (sd := 0) (lv0 := [(0, .ref (z_ad (g) 48))]) (by decide) rfl (Nat.le_of_ble_eq_true rfl) hg rfl (fun C hx hl hgC hR hn hq => ?_)
  subst hgC
  refine z_sub [0] rfl ?_
  exact w_X0_pauseFrames hx hn hR hq σ h
theorem dX0_roughCuts_0 : decode cX0_roughCuts 0 = .ok (.iconst 0, 1) := by decide +kernel
theorem dX0_roughCuts_1 : decode cX0_roughCuts 1 = .ok (.istore_n 1, 1) := by decide +kernel
theorem dX0_roughCuts_2 : decode cX0_roughCuts 2 = .ok (.iconst 0, 1) := by decide +kernel
theorem dX0_roughCuts_3 : decode cX0_roughCuts 3 = .ok (.istore_n 2, 1) := by decide +kernel
theorem dX0_roughCuts_4 : decode cX0_roughCuts 4 = .ok (.iload_n 2, 1) := by decide +kernel
theorem dX0_roughCuts_5 : decode cX0_roughCuts 5 = .ok (.aload_n 0, 1) := by decide +kernel
theorem dX0_roughCuts_6 : decode cX0_roughCuts 6 = .ok (.getfield 28, 3) := by decide +kernel
theorem dX0_roughCuts_9 : decode cX0_roughCuts 9 = .ok (.if_icmp .ge 26, 3) := by decide +kernel
theorem dX0_roughCuts_12 : decode cX0_roughCuts 12 = .ok (.iload_n 1, 1) := by decide +kernel
theorem dX0_roughCuts_13 : decode cX0_roughCuts 13 = .ok (.aload_n 0, 1) := by decide +kernel
theorem dX0_roughCuts_14 : decode cX0_roughCuts 14 = .ok (.getfield 21, 3) := by decide +kernel
theorem dX0_roughCuts_17 : decode cX0_roughCuts 17 = .ok (.iload_n 2, 1) := by decide +kernel
theorem dX0_roughCuts_18 : decode cX0_roughCuts 18 = .ok (.baload, 1) := by decide +kernel
theorem dX0_roughCuts_19 : decode cX0_roughCuts 19 = .ok (.ifCond .eq 7, 3) := by decide +kernel
theorem dX0_roughCuts_22 : decode cX0_roughCuts 22 = .ok (.iconst 1, 1) := by decide +kernel
theorem dX0_roughCuts_23 : decode cX0_roughCuts 23 = .ok (.goto 4, 3) := by decide +kernel
theorem dX0_roughCuts_26 : decode cX0_roughCuts 26 = .ok (.iconst 0, 1) := by decide +kernel
theorem dX0_roughCuts_27 : decode cX0_roughCuts 27 = .ok (.iadd, 1) := by decide +kernel
theorem dX0_roughCuts_28 : decode cX0_roughCuts 28 = .ok (.istore_n 1, 1) := by decide +kernel
theorem dX0_roughCuts_29 : decode cX0_roughCuts 29 = .ok (.iinc 2 1, 3) := by decide +kernel
theorem dX0_roughCuts_32 : decode cX0_roughCuts 32 = .ok (.goto (-28), 3) := by decide +kernel
theorem dX0_roughCuts_35 : decode cX0_roughCuts 35 = .ok (.iload_n 1, 1) := by decide +kernel
theorem dX0_roughCuts_36 : decode cX0_roughCuts 36 = .ok (.ireturn, 1) := by decide +kernel
abbrev rm_X0_roughCuts : Room := { frames := 0, cells := 0, slots := 0, locals := 0 }
theorem w_X0_roughCuts_b27 {C : zC} (hx : z_ok C cX0_roughCuts RX0 0) (hn : z_nL C = 3) (hR : z_R C = rm_X0_roughCuts) {rr : Int × zS} (hq : z_fin C (some .int) (z_QI (z_g C) rr.1 rr.2)) {K4 : zS → Int → Int → Option (Int × zS)} (hK4 : ∀ (σ : zS) (x1 : Int) (x2 : Int) , K4 σ x1 x2 = some rr → z_W C σ 4 [(0, .ref (z_ad (z_g C) 48)), (1, .int (zi x1)), (2, .int (zi x2))] []) (σ : zS) (x2 : Int) (s0 : Int) (s1 : Int) (h : f_X0_roughCuts_b27 K4 σ x2 s0 s1 = some rr) : z_W C σ 27 [(0, .ref (z_ad (z_g C) 48)), (2, .int (zi x2))] [.int (zi s1), .int (zi s0)] := by
  unfold f_X0_roughCuts_b27 at h
  refine z_iadd hx dX0_roughCuts_27 ?_
  refine z_istore_n hx hn (lv' := [(1, .int (zi (s0 + s1))), (0, .ref (z_ad (z_g C) 48)), (2, .int (zi x2))]) dX0_roughCuts_28 (by decide) rfl ?_
  refine z_iinc hx hn 2 (lv' := [(2, .int (zi (x2 + 1))), (1, .int (zi (s0 + s1))), (0, .ref (z_ad (z_g C) 48))]) dX0_roughCuts_29 rfl (by decide) rfl ?_
  refine z_goto hx (tgt := 4) dX0_roughCuts_32 (by decide) ?_
  refine z_sub [2, 1, 0] rfl ?_
  exact hK4 σ (s0 + s1) (x2 + 1) h

theorem w_X0_roughCuts_b4 {C : zC} (hx : z_ok C cX0_roughCuts RX0 0) (hn : z_nL C = 3) (hR : z_R C = rm_X0_roughCuts) {rr : Int × zS} (hq : z_fin C (some .int) (z_QI (z_g C) rr.1 rr.2)) {K4 : zS → Int → Int → Option (Int × zS)} (hK4 : ∀ (σ : zS) (x1 : Int) (x2 : Int) , K4 σ x1 x2 = some rr → z_W C σ 4 [(0, .ref (z_ad (z_g C) 48)), (1, .int (zi x1)), (2, .int (zi x2))] []) (σ : zS) (x1 : Int) (x2 : Int) (h : f_X0_roughCuts_b4 K4 σ x1 x2 = some rr) : z_W C σ 4 [(0, .ref (z_ad (z_g C) 48)), (1, .int (zi x1)), (2, .int (zi x2))] [] := by
  unfold f_X0_roughCuts_b4 at h
  refine z_iload_n hx 2 dX0_roughCuts_4 rfl ?_
  refine z_aload_n hx 0 dX0_roughCuts_5 rfl ?_
  refine gf_X0_count hx wf_X0_28 dX0_roughCuts_6 ?_
  refine z_icmp_ge hx (tgt := 35) dX0_roughCuts_9 (by decide) h (fun h => h) (fun hc h => ?_) (fun hc h => ?_)
  · refine z_iload_n hx 1 dX0_roughCuts_35 rfl ?_
    cases h
    exact z_iret hx hq dX0_roughCuts_36
  · refine z_iload_n hx 1 dX0_roughCuts_12 rfl ?_
    refine z_aload_n hx 0 dX0_roughCuts_13 rfl ?_
    refine gf_X0_rough hx wf_X0_21 dX0_roughCuts_14 ?_
    refine z_iload_n hx 2 dX0_roughCuts_17 rfl ?_
    refine z_zald hx (n := 20) (z_lt0 (z_ok_sd hx) (by decide)) (z_kb52 (z_ok_sd hx) _) rfl (by decide) dX0_roughCuts_18 h (fun h => ?_)
    refine z_if_eq hx (tgt := 26) dX0_roughCuts_19 (by decide) h (fun h => h) (fun hc h => ?_) (fun hc h => ?_)
    · refine z_iconst hx (n := 0) dX0_roughCuts_26 ?_
      refine z_sub [0, 2] rfl ?_
      exact w_X0_roughCuts_b27 hx hn hR hq hK4 σ x2 x1 0 h
    · refine z_iconst hx (n := 1) dX0_roughCuts_22 ?_
      refine z_goto hx (tgt := 27) dX0_roughCuts_23 (by decide) ?_
      refine z_sub [0, 2] rfl ?_
      exact w_X0_roughCuts_b27 hx hn hR hq hK4 σ x2 x1 1 h

theorem w_X0_roughCuts_l4 {C : zC} (hx : z_ok C cX0_roughCuts RX0 0) (hn : z_nL C = 3) (hR : z_R C = rm_X0_roughCuts) {rr : Int × zS} (hq : z_fin C (some .int) (z_QI (z_g C) rr.1 rr.2)) : ∀ (n : Nat) (σ : zS) (x1 : Int) (x2 : Int) (_ : f_X0_roughCuts_l4 n σ x1 x2 = some rr), z_W C σ 4 [(0, .ref (z_ad (z_g C) 48)), (1, .int (zi x1)), (2, .int (zi x2))] [] := by
  intro n
  induction n with
  | zero => intro σ x1 x2 h; cases h
  | succ n ih =>
    intro σ x1 x2 h
    exact w_X0_roughCuts_b4 hx hn hR hq ih σ x1 x2 h
theorem w_X0_roughCuts {C : zC} (hx : z_ok C cX0_roughCuts RX0 0) (hn : z_nL C = 3) (hR : z_R C = rm_X0_roughCuts) {rr : Int × zS} (hq : z_fin C (some .int) (z_QI (z_g C) rr.1 rr.2)) (σ : zS) (h : f_X0_roughCuts σ = some rr) : z_W C σ 0 [(0, .ref (z_ad (z_g C) 48))] [] := by
  unfold f_X0_roughCuts at h
  refine z_iconst hx (n := 0) dX0_roughCuts_0 ?_
  refine z_istore_n hx hn (lv' := [(1, .int (zi 0)), (0, .ref (z_ad (z_g C) 48))]) dX0_roughCuts_1 (by decide) rfl ?_
  refine z_iconst hx (n := 0) dX0_roughCuts_2 ?_
  refine z_istore_n hx hn (lv' := [(2, .int (zi 0)), (1, .int (zi 0)), (0, .ref (z_ad (z_g C) 48))]) dX0_roughCuts_3 (by decide) rfl ?_
  refine z_sub [2, 1, 0] rfl ?_
  exact w_X0_roughCuts_l4 hx hn hR hq z_fuel σ 0 0 h

theorem met_X0_roughCuts (l : Launch) (g : zG) (hg : g.1 = 0) {σ : zS} {rr : Int × zS} (h : f_X0_roughCuts σ = some rr) : z_Met l yX0_roughCuts cX0_roughCuts 3 (some .int) rm_X0_roughCuts g [.ref (z_ad (g) 48)] σ (z_QI g rr.1 rr.2) := by
  refine z_enter (own := RX0) (sd := 0) (lv0 := [(0, .ref (z_ad (g) 48))]) (by decide) rfl (Nat.le_of_ble_eq_true rfl) hg rfl (fun C hx hl hgC hR hn hq => ?_)
  subst hgC
  refine z_sub [0] rfl ?_
  exact w_X0_roughCuts hx hn hR hq σ h
theorem dX1_dropOldest_0 : decode cX1_dropOldest 0 = .ok (.aload_n 0, 1) := by decide +kernel
theorem dX1_dropOldest_1 : decode cX1_dropOldest 1 = .ok (.getfield 11, 3) := by decide +kernel
theorem dX1_dropOldest_4 : decode cX1_dropOldest 4 = .ok (.iconst 0, 1) := by decide +kernel
theorem dX1_dropOldest_5 : decode cX1_dropOldest 5 = .ok (.aaload, 1) := by decide +kernel
theorem dX1_dropOldest_6 : decode cX1_dropOldest 6 = .ok (.astore_n 1, 1) := by decide +kernel
theorem dX1_dropOldest_7 : decode cX1_dropOldest 7 = .ok (.iconst 1, 1) := by decide +kernel
theorem dX1_dropOldest_8 : decode cX1_dropOldest 8 = .ok (.istore_n 2, 1) := by decide +kernel
theorem dX1_dropOldest_9 : decode cX1_dropOldest 9 = .ok (.iload_n 2, 1) := by decide +kernel
theorem dX1_dropOldest_10 : decode cX1_dropOldest 10 = .ok (.iconst 4, 1) := by decide +kernel
theorem dX1_dropOldest_11 : decode cX1_dropOldest 11 = .ok (.if_icmp .ge 23, 3) := by decide +kernel
theorem dX1_dropOldest_14 : decode cX1_dropOldest 14 = .ok (.aload_n 0, 1) := by decide +kernel
theorem dX1_dropOldest_15 : decode cX1_dropOldest 15 = .ok (.getfield 11, 3) := by decide +kernel
theorem dX1_dropOldest_18 : decode cX1_dropOldest 18 = .ok (.iload_n 2, 1) := by decide +kernel
theorem dX1_dropOldest_19 : decode cX1_dropOldest 19 = .ok (.iconst 1, 1) := by decide +kernel
theorem dX1_dropOldest_20 : decode cX1_dropOldest 20 = .ok (.isub, 1) := by decide +kernel
theorem dX1_dropOldest_21 : decode cX1_dropOldest 21 = .ok (.aload_n 0, 1) := by decide +kernel
theorem dX1_dropOldest_22 : decode cX1_dropOldest 22 = .ok (.getfield 11, 3) := by decide +kernel
theorem dX1_dropOldest_25 : decode cX1_dropOldest 25 = .ok (.iload_n 2, 1) := by decide +kernel
theorem dX1_dropOldest_26 : decode cX1_dropOldest 26 = .ok (.aaload, 1) := by decide +kernel
theorem dX1_dropOldest_27 : decode cX1_dropOldest 27 = .ok (.aastore, 1) := by decide +kernel
theorem dX1_dropOldest_28 : decode cX1_dropOldest 28 = .ok (.iinc 2 1, 3) := by decide +kernel
theorem dX1_dropOldest_31 : decode cX1_dropOldest 31 = .ok (.goto (-22), 3) := by decide +kernel
theorem dX1_dropOldest_34 : decode cX1_dropOldest 34 = .ok (.aload_n 0, 1) := by decide +kernel
theorem dX1_dropOldest_35 : decode cX1_dropOldest 35 = .ok (.getfield 11, 3) := by decide +kernel
theorem dX1_dropOldest_38 : decode cX1_dropOldest 38 = .ok (.iconst 3, 1) := by decide +kernel
theorem dX1_dropOldest_39 : decode cX1_dropOldest 39 = .ok (.aload_n 1, 1) := by decide +kernel
theorem dX1_dropOldest_40 : decode cX1_dropOldest 40 = .ok (.aastore, 1) := by decide +kernel
theorem dX1_dropOldest_41 : decode cX1_dropOldest 41 = .ok (.aload_n 0, 1) := by decide +kernel
theorem dX1_dropOldest_42 : decode cX1_dropOldest 42 = .ok (.iconst 3, 1) := by decide +kernel
theorem dX1_dropOldest_43 : decode cX1_dropOldest 43 = .ok (.putfield 17, 3) := by decide +kernel
theorem dX1_dropOldest_46 : decode cX1_dropOldest 46 = .ok (.return_, 1) := by decide +kernel
abbrev rm_X1_dropOldest : Room := { frames := 0, cells := 0, slots := 0, locals := 0 }
theorem w_X1_dropOldest_b9 {C : zC} (hx : z_ok C cX1_dropOldest RX1 0) (hn : z_nL C = 3) (hR : z_R C = rm_X1_dropOldest) {rr : Unit × zS} (hq : z_fin C none (z_QV (z_g C) rr.2)) {K9 : zS → Nat → Int → Option (Unit × zS)} (hK9 : ∀ (σ : zS) (n1 : Nat) (hn1 : n1 < 6) (x2 : Int) , K9 σ n1 x2 = some rr → z_W C σ 9 [(0, .ref (z_ad (z_g C) 60)), (1, .ref (z_ad (z_g C) (8 * n1))), (2, .int (zi x2))] []) (σ : zS) (n1 : Nat) (hn1 : n1 < 6) (x2 : Int) (h : f_X1_dropOldest_b9 K9 σ n1 x2 = some rr) : z_W C σ 9 [(0, .ref (z_ad (z_g C) 60)), (1, .ref (z_ad (z_g C) (8 * n1))), (2, .int (zi x2))] [] := by
  unfold f_X1_dropOldest_b9 at h
  refine z_iload_n hx 2 dX1_dropOldest_9 rfl ?_
  refine z_iconst hx (n := 4) dX1_dropOldest_10 ?_
  refine z_icmp_ge hx (tgt := 34) dX1_dropOldest_11 (by decide) h (fun h => ⟨h, by decide⟩) (fun hc h => ?_) (fun hc h => ?_)
  · refine z_aload_n hx 0 dX1_dropOldest_34 rfl ?_
    refine gf_X1_states hx wf_X1_11 dX1_dropOldest_35 ?_
    refine z_iconst hx (n := 3) dX1_dropOldest_38 ?_
    refine z_aload_n hx 1 dX1_dropOldest_39 rfl ?_
    refine z_aast hx hn1 dX1_dropOldest_40 h (fun σ1 h => ?_)
    refine z_aload_n hx 0 dX1_dropOldest_41 rfl ?_
    refine z_iconst hx (n := 3) dX1_dropOldest_42 ?_
    refine pf_X1_count hx wf_X1_17 dX1_dropOldest_43 h (fun σ2 h => ?_)
    cases h
    exact z_vret hx hq dX1_dropOldest_46
  · refine z_aload_n hx 0 dX1_dropOldest_14 rfl ?_
    refine gf_X1_states hx wf_X1_11 dX1_dropOldest_15 ?_
    refine z_iload_n hx 2 dX1_dropOldest_18 rfl ?_
    refine z_iconst hx (n := 1) dX1_dropOldest_19 ?_
    refine z_isub hx dX1_dropOldest_20 ?_
    refine z_aload_n hx 0 dX1_dropOldest_21 rfl ?_
    refine gf_X1_states hx wf_X1_11 dX1_dropOldest_22 ?_
    refine z_iload_n hx 2 dX1_dropOldest_25 rfl ?_
    refine z_aald hx dX1_dropOldest_26 h (fun h hr26 => ?_)
    refine z_aast hx hr26 dX1_dropOldest_27 h (fun σ3 h => ?_)
    refine z_iinc hx hn 2 (lv' := [(2, .int (zi (x2 + 1))), (0, .ref (z_ad (z_g C) 60)), (1, .ref (z_ad (z_g C) (8 * n1)))]) dX1_dropOldest_28 rfl (by decide) rfl ?_
    refine z_goto hx (tgt := 9) dX1_dropOldest_31 (by decide) ?_
    refine z_sub [1, 2, 0] rfl ?_
    exact hK9 σ3 n1 hn1 (x2 + 1) h

theorem w_X1_dropOldest_l9 {C : zC} (hx : z_ok C cX1_dropOldest RX1 0) (hn : z_nL C = 3) (hR : z_R C = rm_X1_dropOldest) {rr : Unit × zS} (hq : z_fin C none (z_QV (z_g C) rr.2)) : ∀ (n : Nat) (σ : zS) (n1 : Nat) (hn1 : n1 < 6) (x2 : Int) (_ : f_X1_dropOldest_l9 n σ n1 x2 = some rr), z_W C σ 9 [(0, .ref (z_ad (z_g C) 60)), (1, .ref (z_ad (z_g C) (8 * n1))), (2, .int (zi x2))] [] := by
  intro n
  induction n with
  | zero => intro σ n1 hn1 x2 h; cases h
  | succ n ih =>
    intro σ n1 hn1 x2 h
    exact w_X1_dropOldest_b9 hx hn hR hq ih σ n1 hn1 x2 h
theorem w_X1_dropOldest {C : zC} (hx : z_ok C cX1_dropOldest RX1 0) (hn : z_nL C = 3) (hR : z_R C = rm_X1_dropOldest) {rr : Unit × zS} (hq : z_fin C none (z_QV (z_g C) rr.2)) (σ : zS) (h : f_X1_dropOldest σ = some rr) : z_W C σ 0 [(0, .ref (z_ad (z_g C) 60))] [] := by
  unfold f_X1_dropOldest at h
  refine z_aload_n hx 0 dX1_dropOldest_0 rfl ?_
  refine gf_X1_states hx wf_X1_11 dX1_dropOldest_1 ?_
  refine z_iconst hx (n := 0) dX1_dropOldest_4 ?_
  refine z_aald hx dX1_dropOldest_5 h (fun h hr5 => ?_)
  refine z_astore_n hx hn (lv' := [(1, .ref (z_ad (z_g C) (8 * (σ 61 0).toNat))), (0, .ref (z_ad (z_g C) 60))]) dX1_dropOldest_6 (by decide) rfl ?_
  refine z_iconst hx (n := 1) dX1_dropOldest_7 ?_
  refine z_istore_n hx hn (lv' := [(2, .int (zi 1)), (1, .ref (z_ad (z_g C) (8 * (σ 61 0).toNat))), (0, .ref (z_ad (z_g C) 60))]) dX1_dropOldest_8 (by decide) rfl ?_
  refine z_sub [2, 1, 0] rfl ?_
  exact w_X1_dropOldest_l9 hx hn hR hq z_fuel σ ((σ 61 0).toNat) hr5 1 h

theorem met_X1_dropOldest (l : Launch) (g : zG) (hg : g.1 = 0) {σ : zS} {rr : Unit × zS} (h : f_X1_dropOldest σ = some rr) : z_Met l yX1_dropOldest cX1_dropOldest 3 none rm_X1_dropOldest g [.ref (z_ad (g) 60)] σ (z_QV g rr.2) := by
  refine z_enter (own := RX1) (sd := 0) (lv0 := [(0, .ref (z_ad (g) 60))]) (by decide) rfl (Nat.le_of_ble_eq_true rfl) hg rfl (fun C hx hl hgC hR hn hq => ?_)
  subst hgC
  refine z_sub [0] rfl ?_
  exact w_X1_dropOldest hx hn hR hq σ h
theorem dX1_keep_0 : decode cX1_keep 0 = .ok (.aload_n 0, 1) := by decide +kernel
theorem dX1_keep_1 : decode cX1_keep 1 = .ok (.getfield 17, 3) := by decide +kernel
theorem dX1_keep_4 : decode cX1_keep 4 = .ok (.iconst 4, 1) := by decide +kernel
theorem dX1_keep_5 : decode cX1_keep 5 = .ok (.if_icmp .lt 7, 3) := by decide +kernel
theorem dX1_keep_8 : decode cX1_keep 8 = .ok (.aload_n 0, 1) := by decide +kernel
theorem dX1_keep_9 : decode cX1_keep 9 = .ok (.invokevirtual 22, 3) := by decide +kernel
theorem dX1_keep_12 : decode cX1_keep 12 = .ok (.aload_n 0, 1) := by decide +kernel
theorem dX1_keep_13 : decode cX1_keep 13 = .ok (.getfield 11, 3) := by decide +kernel
theorem dX1_keep_16 : decode cX1_keep 16 = .ok (.aload_n 0, 1) := by decide +kernel
theorem dX1_keep_17 : decode cX1_keep 17 = .ok (.getfield 17, 3) := by decide +kernel
theorem dX1_keep_20 : decode cX1_keep 20 = .ok (.aaload, 1) := by decide +kernel
theorem dX1_keep_21 : decode cX1_keep 21 = .ok (.aload_n 1, 1) := by decide +kernel
theorem dX1_keep_22 : decode cX1_keep 22 = .ok (.invokevirtual 25, 3) := by decide +kernel
theorem dX1_keep_25 : decode cX1_keep 25 = .ok (.aload_n 0, 1) := by decide +kernel
theorem dX1_keep_26 : decode cX1_keep 26 = .ok (.dup, 1) := by decide +kernel
theorem dX1_keep_27 : decode cX1_keep 27 = .ok (.getfield 17, 3) := by decide +kernel
theorem dX1_keep_30 : decode cX1_keep 30 = .ok (.iconst 1, 1) := by decide +kernel
theorem dX1_keep_31 : decode cX1_keep 31 = .ok (.iadd, 1) := by decide +kernel
theorem dX1_keep_32 : decode cX1_keep 32 = .ok (.putfield 17, 3) := by decide +kernel
theorem dX1_keep_35 : decode cX1_keep 35 = .ok (.return_, 1) := by decide +kernel
abbrev rm_X1_keep : Room := { frames := 3, cells := 0, slots := 0, locals := 103 }
theorem w_X1_keep_b12 {C : zC} (hx : z_ok C cX1_keep RX1 0) (hn : z_nL C = 2) (hR : z_R C = rm_X1_keep) {rr : Unit × zS} (hq : z_fin C none (z_QV (z_g C) rr.2)) {k : Nat} (hk : k < 6) (σ : zS) (h : f_X1_keep_b12 k σ = some rr) : z_W C σ 12 [(0, .ref (z_ad (z_g C) 60)), (1, .ref (z_ad (z_g C) (8 * k)))] [] := by
  unfold f_X1_keep_b12 at h
  refine z_aload_n hx 0 dX1_keep_12 rfl ?_
  refine gf_X1_states hx wf_X1_11 dX1_keep_13 ?_
  refine z_aload_n hx 0 dX1_keep_16 rfl ?_
  refine gf_X1_count hx wf_X1_17 dX1_keep_17 ?_
  refine z_aald hx dX1_keep_20 h (fun h hr20 => ?_)
  refine z_aload_n hx 1 dX1_keep_21 rfl ?_
  obtain ⟨⟨⟩, σ1, h22, h⟩ := z_bind_some h
  refine z_callv hx (As := [.ref (z_ad (z_g C) (8 * k))]) (k := 8 * (σ 61 (σ 60 1)).toNat) (met_X2_copyAll (z_l C) (z_g C) (z_ok_sd hx) hr20 hk h22) (z_lt0 (z_ok_sd hx) (by have := hr20; omega)) (z_ka0 (z_ok_sd hx) hr20 _) rfl rfl cv_X1_25 (z_room hR ⟨Nat.le_of_ble_eq_true rfl, Nat.le_of_ble_eq_true rfl⟩) ⟨rfl, rfl⟩ rfl rfl (Nat.le_of_ble_eq_true rfl) dX1_keep_22 ?_
  refine z_aload_n hx 0 dX1_keep_25 rfl ?_
  refine z_dup hx dX1_keep_26 rfl ?_
  refine gf_X1_count hx wf_X1_17 dX1_keep_27 ?_
  refine z_iconst hx (n := 1) dX1_keep_30 ?_
  refine z_iadd hx dX1_keep_31 ?_
  refine pf_X1_count hx wf_X1_17 dX1_keep_32 h (fun σ2 h => ?_)
  cases h
  exact z_vret hx hq dX1_keep_35

theorem w_X1_keep {C : zC} (hx : z_ok C cX1_keep RX1 0) (hn : z_nL C = 2) (hR : z_R C = rm_X1_keep) {rr : Unit × zS} (hq : z_fin C none (z_QV (z_g C) rr.2)) {k : Nat} (hk : k < 6) (σ : zS) (h : f_X1_keep k σ = some rr) : z_W C σ 0 [(0, .ref (z_ad (z_g C) 60)), (1, .ref (z_ad (z_g C) (8 * k)))] [] := by
  unfold f_X1_keep at h
  refine z_aload_n hx 0 dX1_keep_0 rfl ?_
  refine gf_X1_count hx wf_X1_17 dX1_keep_1 ?_
  refine z_iconst hx (n := 4) dX1_keep_4 ?_
  refine z_icmp_lt hx (tgt := 12) dX1_keep_5 (by decide) h (fun h => ⟨h, by decide⟩) (fun hc h => ?_) (fun hc h => ?_)
  · refine z_sub [0, 1] rfl ?_
    exact w_X1_keep_b12 hx hn hR hq hk σ h
  · refine z_aload_n hx 0 dX1_keep_8 rfl ?_
    obtain ⟨⟨⟩, σ1, h9, h⟩ := z_bind_some h
    refine z_callv hx (As := []) (k := 60) (met_X1_dropOldest (z_l C) (z_g C) (z_ok_sd hx) h9) (z_lt0 (z_ok_sd hx) (by decide)) (z_kb60 (z_ok_sd hx) _) rfl rfl cv_X1_22 (z_room hR ⟨Nat.le_of_ble_eq_true rfl, Nat.le_of_ble_eq_true rfl⟩) ⟨rfl, rfl⟩ rfl rfl (Nat.le_of_ble_eq_true rfl) dX1_keep_9 ?_
    refine z_sub [0, 1] rfl ?_
    exact w_X1_keep_b12 hx hn hR hq hk σ1 h

theorem met_X1_keep (l : Launch) (g : zG) (hg : g.1 = 0) {k : Nat} (hk : k < 6) {σ : zS} {rr : Unit × zS} (h : f_X1_keep k σ = some rr) : z_Met l yX1_keep cX1_keep 2 none rm_X1_keep g [.ref (z_ad (g) 60), .ref (z_ad (g) (8 * k))] σ (z_QV g rr.2) := by
  refine z_enter (own := RX1) (sd := 0) (lv0 := [(0, .ref (z_ad (g) 60)), (1, .ref (z_ad (g) (8 * k)))]) (by decide) rfl (Nat.le_of_ble_eq_true rfl) hg rfl (fun C hx hl hgC hR hn hq => ?_)
  subst hgC
  refine z_sub [0, 1] rfl ?_
  exact w_X1_keep hx hn hR hq hk σ h
theorem dX1_restoreLatest_0 : decode cX1_restoreLatest 0 = .ok (.aload_n 0, 1) := by decide +kernel
theorem dX1_restoreLatest_1 : decode cX1_restoreLatest 1 = .ok (.getfield 17, 3) := by decide +kernel
theorem dX1_restoreLatest_4 : decode cX1_restoreLatest 4 = .ok (.ifCond .le 26, 3) := by decide +kernel
theorem dX1_restoreLatest_7 : decode cX1_restoreLatest 7 = .ok (.aload_n 0, 1) := by decide +kernel
theorem dX1_restoreLatest_8 : decode cX1_restoreLatest 8 = .ok (.dup, 1) := by decide +kernel
theorem dX1_restoreLatest_9 : decode cX1_restoreLatest 9 = .ok (.getfield 17, 3) := by decide +kernel
theorem dX1_restoreLatest_12 : decode cX1_restoreLatest 12 = .ok (.iconst 1, 1) := by decide +kernel
theorem dX1_restoreLatest_13 : decode cX1_restoreLatest 13 = .ok (.isub, 1) := by decide +kernel
theorem dX1_restoreLatest_14 : decode cX1_restoreLatest 14 = .ok (.putfield 17, 3) := by decide +kernel
theorem dX1_restoreLatest_17 : decode cX1_restoreLatest 17 = .ok (.aload_n 1, 1) := by decide +kernel
theorem dX1_restoreLatest_18 : decode cX1_restoreLatest 18 = .ok (.aload_n 0, 1) := by decide +kernel
theorem dX1_restoreLatest_19 : decode cX1_restoreLatest 19 = .ok (.getfield 11, 3) := by decide +kernel
theorem dX1_restoreLatest_22 : decode cX1_restoreLatest 22 = .ok (.aload_n 0, 1) := by decide +kernel
theorem dX1_restoreLatest_23 : decode cX1_restoreLatest 23 = .ok (.getfield 17, 3) := by decide +kernel
theorem dX1_restoreLatest_26 : decode cX1_restoreLatest 26 = .ok (.aaload, 1) := by decide +kernel
theorem dX1_restoreLatest_27 : decode cX1_restoreLatest 27 = .ok (.invokevirtual 25, 3) := by decide +kernel
theorem dX1_restoreLatest_30 : decode cX1_restoreLatest 30 = .ok (.return_, 1) := by decide +kernel
abbrev rm_X1_restoreLatest : Room := { frames := 3, cells := 0, slots := 0, locals := 103 }
theorem w_X1_restoreLatest_b30 {C : zC} (hx : z_ok C cX1_restoreLatest RX1 0) (hn : z_nL C = 2) (hR : z_R C = rm_X1_restoreLatest) {rr : Unit × zS} (hq : z_fin C none (z_QV (z_g C) rr.2)) {k : Nat} (hk : k < 6) (σ : zS) (h : f_X1_restoreLatest_b30 k σ = some rr) : z_W C σ 30 [] [] := by
  unfold f_X1_restoreLatest_b30 at h
  cases h
  exact z_vret hx hq dX1_restoreLatest_30

theorem w_X1_restoreLatest {C : zC} (hx : z_ok C cX1_restoreLatest RX1 0) (hn : z_nL C = 2) (hR : z_R C = rm_X1_restoreLatest) {rr : Unit × zS} (hq : z_fin C none (z_QV (z_g C) rr.2)) {k : Nat} (hk : k < 6) (σ : zS) (h : f_X1_restoreLatest k σ = some rr) : z_W C σ 0 [(0, .ref (z_ad (z_g C) 60)), (1, .ref (z_ad (z_g C) (8 * k)))] [] := by
  unfold f_X1_restoreLatest at h
  refine z_aload_n hx 0 dX1_restoreLatest_0 rfl ?_
  refine gf_X1_count hx wf_X1_17 dX1_restoreLatest_1 ?_
  refine z_if_le hx (tgt := 30) dX1_restoreLatest_4 (by decide) h (fun h => h) (fun hc h => ?_) (fun hc h => ?_)
  · refine z_sub [] rfl ?_
    exact w_X1_restoreLatest_b30 hx hn hR hq hk σ h
  · refine z_aload_n hx 0 dX1_restoreLatest_7 rfl ?_
    refine z_dup hx dX1_restoreLatest_8 rfl ?_
    refine gf_X1_count hx wf_X1_17 dX1_restoreLatest_9 ?_
    refine z_iconst hx (n := 1) dX1_restoreLatest_12 ?_
    refine z_isub hx dX1_restoreLatest_13 ?_
    refine pf_X1_count hx wf_X1_17 dX1_restoreLatest_14 h (fun σ1 h => ?_)
    refine z_aload_n hx 1 dX1_restoreLatest_17 rfl ?_
    refine z_aload_n hx 0 dX1_restoreLatest_18 rfl ?_
    refine gf_X1_states hx wf_X1_11 dX1_restoreLatest_19 ?_
    refine z_aload_n hx 0 dX1_restoreLatest_22 rfl ?_
    refine gf_X1_count hx wf_X1_17 dX1_restoreLatest_23 ?_
    refine z_aald hx dX1_restoreLatest_26 h (fun h hr26 => ?_)
    obtain ⟨⟨⟩, σ2, h27, h⟩ := z_bind_some h
    refine z_callv hx (As := [.ref (z_ad (z_g C) (8 * (σ1 61 (σ1 60 1)).toNat))]) (k := 8 * k) (met_X2_copyAll (z_l C) (z_g C) (z_ok_sd hx) hk hr26 h27) (z_lt0 (z_ok_sd hx) (by have := hk; omega)) (z_ka0 (z_ok_sd hx) hk _) rfl rfl cv_X1_25 (z_room hR ⟨Nat.le_of_ble_eq_true rfl, Nat.le_of_ble_eq_true rfl⟩) ⟨rfl, rfl⟩ rfl rfl (Nat.le_of_ble_eq_true rfl) dX1_restoreLatest_27 ?_
    refine z_sub [] rfl ?_
    exact w_X1_restoreLatest_b30 hx hn hR hq hk σ2 h

theorem met_X1_restoreLatest (l : Launch) (g : zG) (hg : g.1 = 0) {k : Nat} (hk : k < 6) {σ : zS} {rr : Unit × zS} (h : f_X1_restoreLatest k σ = some rr) : z_Met l yX1_restoreLatest cX1_restoreLatest 2 none rm_X1_restoreLatest g [.ref (z_ad (g) 60), .ref (z_ad (g) (8 * k))] σ (z_QV g rr.2) := by
  refine z_enter (own := RX1) (sd := 0) (lv0 := [(0, .ref (z_ad (g) 60)), (1, .ref (z_ad (g) (8 * k)))]) (by decide) rfl (Nat.le_of_ble_eq_true rfl) hg rfl (fun C hx hl hgC hR hn hq => ?_)
  subst hgC
  refine z_sub [0, 1] rfl ?_
  exact w_X1_restoreLatest hx hn hR hq hk σ h
end
section
/-! walks, by program: ['X3'] -/
theorem dX3_gatherFrame_0 : decode cX3_gatherFrame 0 = .ok (.iload_n 2, 1) := by decide +kernel
theorem dX3_gatherFrame_1 : decode cX3_gatherFrame 1 = .ok (.iconst 2, 1) := by decide +kernel
theorem dX3_gatherFrame_2 : decode cX3_gatherFrame 2 = .ok (.if_icmp .ne 33, 3) := by decide +kernel
theorem dX3_gatherFrame_5 : decode cX3_gatherFrame 5 = .ok (.aload_n 0, 1) := by decide +kernel
theorem dX3_gatherFrame_6 : decode cX3_gatherFrame 6 = .ok (.getfield 25, 3) := by decide +kernel
theorem dX3_gatherFrame_9 : decode cX3_gatherFrame 9 = .ok (.sipush 200, 3) := by decide +kernel
theorem dX3_gatherFrame_12 : decode cX3_gatherFrame 12 = .ok (.if_icmp .ge 23, 3) := by decide +kernel
theorem dX3_gatherFrame_15 : decode cX3_gatherFrame 15 = .ok (.aload_n 0, 1) := by decide +kernel
theorem dX3_gatherFrame_16 : decode cX3_gatherFrame 16 = .ok (.getfield 22, 3) := by decide +kernel
theorem dX3_gatherFrame_19 : decode cX3_gatherFrame 19 = .ok (.aload_n 0, 1) := by decide +kernel
theorem dX3_gatherFrame_20 : decode cX3_gatherFrame 20 = .ok (.getfield 25, 3) := by decide +kernel
theorem dX3_gatherFrame_23 : decode cX3_gatherFrame 23 = .ok (.iload_n 1, 1) := by decide +kernel
theorem dX3_gatherFrame_24 : decode cX3_gatherFrame 24 = .ok (.iastore, 1) := by decide +kernel
theorem dX3_gatherFrame_25 : decode cX3_gatherFrame 25 = .ok (.aload_n 0, 1) := by decide +kernel
theorem dX3_gatherFrame_26 : decode cX3_gatherFrame 26 = .ok (.dup, 1) := by decide +kernel
theorem dX3_gatherFrame_27 : decode cX3_gatherFrame 27 = .ok (.getfield 25, 3) := by decide +kernel
theorem dX3_gatherFrame_30 : decode cX3_gatherFrame 30 = .ok (.iconst 1, 1) := by decide +kernel
theorem dX3_gatherFrame_31 : decode cX3_gatherFrame 31 = .ok (.iadd, 1) := by decide +kernel
theorem dX3_gatherFrame_32 : decode cX3_gatherFrame 32 = .ok (.putfield 25, 3) := by decide +kernel
theorem dX3_gatherFrame_35 : decode cX3_gatherFrame 35 = .ok (.iload_n 2, 1) := by decide +kernel
theorem dX3_gatherFrame_36 : decode cX3_gatherFrame 36 = .ok (.iconst 3, 1) := by decide +kernel
theorem dX3_gatherFrame_37 : decode cX3_gatherFrame 37 = .ok (.if_icmp .ne 21, 3) := by decide +kernel
theorem dX3_gatherFrame_40 : decode cX3_gatherFrame 40 = .ok (.iload_n 1, 1) := by decide +kernel
theorem dX3_gatherFrame_41 : decode cX3_gatherFrame 41 = .ok (.ifCond .lt 17, 3) := by decide +kernel
theorem dX3_gatherFrame_44 : decode cX3_gatherFrame 44 = .ok (.iload_n 1, 1) := by decide +kernel
theorem dX3_gatherFrame_45 : decode cX3_gatherFrame 45 = .ok (.sipush 200, 3) := by decide +kernel
theorem dX3_gatherFrame_48 : decode cX3_gatherFrame 48 = .ok (.if_icmp .ge 10, 3) := by decide +kernel
theorem dX3_gatherFrame_51 : decode cX3_gatherFrame 51 = .ok (.aload_n 0, 1) := by decide +kernel
theorem dX3_gatherFrame_52 : decode cX3_gatherFrame 52 = .ok (.getfield 31, 3) := by decide +kernel
theorem dX3_gatherFrame_55 : decode cX3_gatherFrame 55 = .ok (.iload_n 1, 1) := by decide +kernel
theorem dX3_gatherFrame_56 : decode cX3_gatherFrame 56 = .ok (.iconst 1, 1) := by decide +kernel
theorem dX3_gatherFrame_57 : decode cX3_gatherFrame 57 = .ok (.bastore, 1) := by decide +kernel
theorem dX3_gatherFrame_58 : decode cX3_gatherFrame 58 = .ok (.return_, 1) := by decide +kernel
abbrev rm_X3_gatherFrame : Room := { frames := 0, cells := 0, slots := 0, locals := 0 }
theorem w_X3_gatherFrame_b58 {C : zC} (hx : z_ok C cX3_gatherFrame RX3 0) (hn : z_nL C = 3) (hR : z_R C = rm_X3_gatherFrame) {rr : Unit × zS} (hq : z_fin C none (z_QV (z_g C) rr.2)) (σ : zS) (h : f_X3_gatherFrame_b58 σ = some rr) : z_W C σ 58 [] [] := by
  unfold f_X3_gatherFrame_b58 at h
  cases h
  exact z_vret hx hq dX3_gatherFrame_58

theorem w_X3_gatherFrame_b35 {C : zC} (hx : z_ok C cX3_gatherFrame RX3 0) (hn : z_nL C = 3) (hR : z_R C = rm_X3_gatherFrame) {rr : Unit × zS} (hq : z_fin C none (z_QV (z_g C) rr.2)) (σ : zS) (x1 : Int) (x2 : Int) (h : f_X3_gatherFrame_b35 σ x1 x2 = some rr) : z_W C σ 35 [(0, .ref (z_ad (z_g C) 54)), (1, .int (zi x1)), (2, .int (zi x2))] [] := by
  unfold f_X3_gatherFrame_b35 at h
  refine z_iload_n hx 2 dX3_gatherFrame_35 rfl ?_
  refine z_iconst hx (n := 3) dX3_gatherFrame_36 ?_
  refine z_icmp_ne hx (tgt := 58) dX3_gatherFrame_37 (by decide) h (fun h => ⟨h, by decide⟩) (fun hc h => ?_) (fun hc h => ?_)
  · refine z_sub [] rfl ?_
    exact w_X3_gatherFrame_b58 hx hn hR hq σ h
  · refine z_iload_n hx 1 dX3_gatherFrame_40 rfl ?_
    refine z_if_lt hx (tgt := 58) dX3_gatherFrame_41 (by decide) h (fun h => h) (fun hc h => ?_) (fun hc h => ?_)
    · refine z_sub [] rfl ?_
      exact w_X3_gatherFrame_b58 hx hn hR hq σ h
    · refine z_iload_n hx 1 dX3_gatherFrame_44 rfl ?_
      refine z_sipush hx (n := 200) dX3_gatherFrame_45 rfl ?_
      refine z_icmp_ge hx (tgt := 58) dX3_gatherFrame_48 (by decide) h (fun h => ⟨h, by decide⟩) (fun hc h => ?_) (fun hc h => ?_)
      · refine z_sub [] rfl ?_
        exact w_X3_gatherFrame_b58 hx hn hR hq σ h
      · refine z_aload_n hx 0 dX3_gatherFrame_51 rfl ?_
        refine gf_X3_noisy hx wf_X3_31 dX3_gatherFrame_52 ?_
        refine z_iload_n hx 1 dX3_gatherFrame_55 rfl ?_
        refine z_iconst hx (n := 1) dX3_gatherFrame_56 ?_
        refine z_zast hx (n := 200) (z_lt0 (z_ok_sd hx) (by decide)) (z_kb58 (z_ok_sd hx)) rfl (by decide) dX3_gatherFrame_57 h (fun σ1 h => ?_)
        refine z_sub [] rfl ?_
        exact w_X3_gatherFrame_b58 hx hn hR hq σ1 h

theorem w_X3_gatherFrame {C : zC} (hx : z_ok C cX3_gatherFrame RX3 0) (hn : z_nL C = 3) (hR : z_R C = rm_X3_gatherFrame) {rr : Unit × zS} (hq : z_fin C none (z_QV (z_g C) rr.2)) (σ : zS) (x1 : Int) (x2 : Int) (h : f_X3_gatherFrame σ x1 x2 = some rr) : z_W C σ 0 [(0, .ref (z_ad (z_g C) 54)), (1, .int (zi x1)), (2, .int (zi x2))] [] := by
  unfold f_X3_gatherFrame at h
  refine z_iload_n hx 2 dX3_gatherFrame_0 rfl ?_
  refine z_iconst hx (n := 2) dX3_gatherFrame_1 ?_
  refine z_icmp_ne hx (tgt := 35) dX3_gatherFrame_2 (by decide) h (fun h => ⟨h, by decide⟩) (fun hc h => ?_) (fun hc h => ?_)
  · refine z_sub [0, 1, 2] rfl ?_
    exact w_X3_gatherFrame_b35 hx hn hR hq σ x1 x2 h
  · refine z_aload_n hx 0 dX3_gatherFrame_5 rfl ?_
    refine gf_X3_roomFrames hx wf_X3_25 dX3_gatherFrame_6 ?_
    refine z_sipush hx (n := 200) dX3_gatherFrame_9 rfl ?_
    refine z_icmp_ge hx (tgt := 35) dX3_gatherFrame_12 (by decide) h (fun h => ⟨h, by decide⟩) (fun hc h => ?_) (fun hc h => ?_)
    · refine z_sub [0, 1, 2] rfl ?_
      exact w_X3_gatherFrame_b35 hx hn hR hq σ x1 x2 h
    · refine z_aload_n hx 0 dX3_gatherFrame_15 rfl ?_
      refine gf_X3_room hx wf_X3_22 dX3_gatherFrame_16 ?_
      refine z_aload_n hx 0 dX3_gatherFrame_19 rfl ?_
      refine gf_X3_roomFrames hx wf_X3_25 dX3_gatherFrame_20 ?_
      refine z_iload_n hx 1 dX3_gatherFrame_23 rfl ?_
      refine z_iast hx (n := 200) (z_lt0 (z_ok_sd hx) (by decide)) (z_kb57 (z_ok_sd hx)) rfl (by decide) dX3_gatherFrame_24 h (fun σ1 h => ?_)
      refine z_aload_n hx 0 dX3_gatherFrame_25 rfl ?_
      refine z_dup hx dX3_gatherFrame_26 rfl ?_
      refine gf_X3_roomFrames hx wf_X3_25 dX3_gatherFrame_27 ?_
      refine z_iconst hx (n := 1) dX3_gatherFrame_30 ?_
      refine z_iadd hx dX3_gatherFrame_31 ?_
      refine pf_X3_roomFrames hx wf_X3_25 dX3_gatherFrame_32 h (fun σ2 h => ?_)
      refine z_sub [0, 1, 2] rfl ?_
      exact w_X3_gatherFrame_b35 hx hn hR hq σ2 x1 x2 h

theorem met_X3_gatherFrame (l : Launch) (g : zG) (hg : g.1 = 0) {σ : zS} {x1 : Int} {x2 : Int} {rr : Unit × zS} (h : f_X3_gatherFrame σ x1 x2 = some rr) : z_Met l yX3_gatherFrame cX3_gatherFrame 3 none rm_X3_gatherFrame g [.ref (z_ad (g) 54), .int (zi x1), .int (zi x2)] σ (z_QV g rr.2) := by
  refine z_enter (own := RX3) (sd := 0) (lv0 := [(0, .ref (z_ad (g) 54)), (1, .int (zi x1)), (2, .int (zi x2))]) (by decide) rfl (Nat.le_of_ble_eq_true rfl) hg rfl (fun C hx hl hgC hR hn hq => ?_)
  subst hgC
  refine z_sub [0, 1, 2] rfl ?_
  exact w_X3_gatherFrame hx hn hR hq σ x1 x2 h
theorem dX3_gatherRoomAndNoise_0 : decode cX3_gatherRoomAndNoise 0 = .ok (.aload_n 0, 1) := by decide +kernel
theorem dX3_gatherRoomAndNoise_1 : decode cX3_gatherRoomAndNoise 1 = .ok (.iconst 0, 1) := by decide +kernel
theorem dX3_gatherRoomAndNoise_2 : decode cX3_gatherRoomAndNoise 2 = .ok (.putfield 25, 3) := by decide +kernel
theorem dX3_gatherRoomAndNoise_5 : decode cX3_gatherRoomAndNoise 5 = .ok (.aload_n 0, 1) := by decide +kernel
theorem dX3_gatherRoomAndNoise_6 : decode cX3_gatherRoomAndNoise 6 = .ok (.iconst 0, 1) := by decide +kernel
theorem dX3_gatherRoomAndNoise_7 : decode cX3_gatherRoomAndNoise 7 = .ok (.putfield 28, 3) := by decide +kernel
theorem dX3_gatherRoomAndNoise_10 : decode cX3_gatherRoomAndNoise 10 = .ok (.iconst 0, 1) := by decide +kernel
theorem dX3_gatherRoomAndNoise_11 : decode cX3_gatherRoomAndNoise 11 = .ok (.istore_n 2, 1) := by decide +kernel
theorem dX3_gatherRoomAndNoise_12 : decode cX3_gatherRoomAndNoise 12 = .ok (.iload_n 2, 1) := by decide +kernel
theorem dX3_gatherRoomAndNoise_13 : decode cX3_gatherRoomAndNoise 13 = .ok (.sipush 200, 3) := by decide +kernel
theorem dX3_gatherRoomAndNoise_16 : decode cX3_gatherRoomAndNoise 16 = .ok (.if_icmp .ge 16, 3) := by decide +kernel
theorem dX3_gatherRoomAndNoise_19 : decode cX3_gatherRoomAndNoise 19 = .ok (.aload_n 0, 1) := by decide +kernel
theorem dX3_gatherRoomAndNoise_20 : decode cX3_gatherRoomAndNoise 20 = .ok (.getfield 31, 3) := by decide +kernel
theorem dX3_gatherRoomAndNoise_23 : decode cX3_gatherRoomAndNoise 23 = .ok (.iload_n 2, 1) := by decide +kernel
theorem dX3_gatherRoomAndNoise_24 : decode cX3_gatherRoomAndNoise 24 = .ok (.iconst 0, 1) := by decide +kernel
theorem dX3_gatherRoomAndNoise_25 : decode cX3_gatherRoomAndNoise 25 = .ok (.bastore, 1) := by decide +kernel
theorem dX3_gatherRoomAndNoise_26 : decode cX3_gatherRoomAndNoise 26 = .ok (.iinc 2 1, 3) := by decide +kernel
theorem dX3_gatherRoomAndNoise_29 : decode cX3_gatherRoomAndNoise 29 = .ok (.goto (-17), 3) := by decide +kernel
theorem dX3_gatherRoomAndNoise_32 : decode cX3_gatherRoomAndNoise 32 = .ok (.iconst 0, 1) := by decide +kernel
theorem dX3_gatherRoomAndNoise_33 : decode cX3_gatherRoomAndNoise 33 = .ok (.istore_n 2, 1) := by decide +kernel
theorem dX3_gatherRoomAndNoise_34 : decode cX3_gatherRoomAndNoise 34 = .ok (.iload_n 2, 1) := by decide +kernel
theorem dX3_gatherRoomAndNoise_35 : decode cX3_gatherRoomAndNoise 35 = .ok (.aload_n 1, 1) := by decide +kernel
theorem dX3_gatherRoomAndNoise_36 : decode cX3_gatherRoomAndNoise 36 = .ok (.getfield 64, 3) := by decide +kernel
theorem dX3_gatherRoomAndNoise_39 : decode cX3_gatherRoomAndNoise 39 = .ok (.if_icmp .ge 43, 3) := by decide +kernel
theorem dX3_gatherRoomAndNoise_42 : decode cX3_gatherRoomAndNoise 42 = .ok (.aload_n 1, 1) := by decide +kernel
theorem dX3_gatherRoomAndNoise_43 : decode cX3_gatherRoomAndNoise 43 = .ok (.getfield 67, 3) := by decide +kernel
theorem dX3_gatherRoomAndNoise_46 : decode cX3_gatherRoomAndNoise 46 = .ok (.iload_n 2, 1) := by decide +kernel
theorem dX3_gatherRoomAndNoise_47 : decode cX3_gatherRoomAndNoise 47 = .ok (.iaload, 1) := by decide +kernel
theorem dX3_gatherRoomAndNoise_48 : decode cX3_gatherRoomAndNoise 48 = .ok (.istore_n 3, 1) := by decide +kernel
theorem dX3_gatherRoomAndNoise_49 : decode cX3_gatherRoomAndNoise 49 = .ok (.iload_n 3, 1) := by decide +kernel
theorem dX3_gatherRoomAndNoise_50 : decode cX3_gatherRoomAndNoise 50 = .ok (.aload_n 1, 1) := by decide +kernel
theorem dX3_gatherRoomAndNoise_51 : decode cX3_gatherRoomAndNoise 51 = .ok (.getfield 70, 3) := by decide +kernel
theorem dX3_gatherRoomAndNoise_54 : decode cX3_gatherRoomAndNoise 54 = .ok (.iload_n 2, 1) := by decide +kernel
theorem dX3_gatherRoomAndNoise_55 : decode cX3_gatherRoomAndNoise 55 = .ok (.iaload, 1) := by decide +kernel
theorem dX3_gatherRoomAndNoise_56 : decode cX3_gatherRoomAndNoise 56 = .ok (.if_icmp .ge 20, 3) := by decide +kernel
theorem dX3_gatherRoomAndNoise_59 : decode cX3_gatherRoomAndNoise 59 = .ok (.aload_n 0, 1) := by decide +kernel
theorem dX3_gatherRoomAndNoise_60 : decode cX3_gatherRoomAndNoise 60 = .ok (.iload_n 3, 1) := by decide +kernel
theorem dX3_gatherRoomAndNoise_61 : decode cX3_gatherRoomAndNoise 61 = .ok (.aload_n 1, 1) := by decide +kernel
theorem dX3_gatherRoomAndNoise_62 : decode cX3_gatherRoomAndNoise 62 = .ok (.getfield 71, 3) := by decide +kernel
theorem dX3_gatherRoomAndNoise_65 : decode cX3_gatherRoomAndNoise 65 = .ok (.iload_n 2, 1) := by decide +kernel
theorem dX3_gatherRoomAndNoise_66 : decode cX3_gatherRoomAndNoise 66 = .ok (.iaload, 1) := by decide +kernel
theorem dX3_gatherRoomAndNoise_67 : decode cX3_gatherRoomAndNoise 67 = .ok (.invokevirtual 74, 3) := by decide +kernel
theorem dX3_gatherRoomAndNoise_70 : decode cX3_gatherRoomAndNoise 70 = .ok (.iinc 3 1, 3) := by decide +kernel
theorem dX3_gatherRoomAndNoise_73 : decode cX3_gatherRoomAndNoise 73 = .ok (.goto (-24), 3) := by decide +kernel
theorem dX3_gatherRoomAndNoise_76 : decode cX3_gatherRoomAndNoise 76 = .ok (.iinc 2 1, 3) := by decide +kernel
theorem dX3_gatherRoomAndNoise_79 : decode cX3_gatherRoomAndNoise 79 = .ok (.goto (-45), 3) := by decide +kernel
theorem dX3_gatherRoomAndNoise_82 : decode cX3_gatherRoomAndNoise 82 = .ok (.return_, 1) := by decide +kernel
abbrev rm_X3_gatherRoomAndNoise : Room := { frames := 1, cells := 0, slots := 0, locals := 22 }
theorem w_X3_gatherRoomAndNoise_b49 {C : zC} (hx : z_ok C cX3_gatherRoomAndNoise RX3 0) (hn : z_nL C = 4) (hR : z_R C = rm_X3_gatherRoomAndNoise) {rr : Unit × zS} (hq : z_fin C none (z_QV (z_g C) rr.2)) {K34 : zS → Int → Option (Unit × zS)} (hK34 : ∀ (σ : zS) (x2 : Int) , K34 σ x2 = some rr → z_W C σ 34 [(0, .ref (z_ad (z_g C) 54)), (1, .ref (z_ad (z_g C) 0)), (2, .int (zi x2))] []) {K49 : zS → Int → Int → Option (Unit × zS)} (hK49 : ∀ (σ : zS) (x2 : Int) (x3 : Int) , K49 σ x2 x3 = some rr → z_W C σ 49 [(0, .ref (z_ad (z_g C) 54)), (1, .ref (z_ad (z_g C) 0)), (2, .int (zi x2)), (3, .int (zi x3))] []) (σ : zS) (x2 : Int) (x3 : Int) (h : f_X3_gatherRoomAndNoise_b49 K34 K49 σ x2 x3 = some rr) : z_W C σ 49 [(0, .ref (z_ad (z_g C) 54)), (1, .ref (z_ad (z_g C) 0)), (2, .int (zi x2)), (3, .int (zi x3))] [] := by
  unfold f_X3_gatherRoomAndNoise_b49 at h
  refine z_iload_n hx 3 dX3_gatherRoomAndNoise_49 rfl ?_
  refine z_aload_n hx 1 dX3_gatherRoomAndNoise_50 rfl ?_
  refine gf_X2_ends hx wf_X3_70 (show 0 < 6 by decide) dX3_gatherRoomAndNoise_51 ?_
  refine z_iload_n hx 2 dX3_gatherRoomAndNoise_54 rfl ?_
  refine z_iald hx (n := 20) (z_lt0 (z_ok_sd hx) (by decide)) (z_ka4 (z_ok_sd hx) (show 0 < 6 by decide) _) rfl (by decide) dX3_gatherRoomAndNoise_55 h (fun h => ?_)
  refine z_icmp_ge hx (tgt := 76) dX3_gatherRoomAndNoise_56 (by decide) h (fun h => h) (fun hc h => ?_) (fun hc h => ?_)
  · refine z_iinc hx hn 2 (lv' := [(2, .int (zi (x2 + 1))), (0, .ref (z_ad (z_g C) 54)), (1, .ref (z_ad (z_g C) 0)), (3, .int (zi x3))]) dX3_gatherRoomAndNoise_76 rfl (by decide) rfl ?_
    refine z_goto hx (tgt := 34) dX3_gatherRoomAndNoise_79 (by decide) ?_
    refine z_sub [1, 2, 0] rfl ?_
    exact hK34 σ (x2 + 1) h
  · refine z_aload_n hx 0 dX3_gatherRoomAndNoise_59 rfl ?_
    refine z_iload_n hx 3 dX3_gatherRoomAndNoise_60 rfl ?_
    refine z_aload_n hx 1 dX3_gatherRoomAndNoise_61 rfl ?_
    refine gf_X2_kinds hx wf_X3_71 (show 0 < 6 by decide) dX3_gatherRoomAndNoise_62 ?_
    refine z_iload_n hx 2 dX3_gatherRoomAndNoise_65 rfl ?_
    refine z_iald hx (n := 20) (z_lt0 (z_ok_sd hx) (by decide)) (z_ka2 (z_ok_sd hx) (show 0 < 6 by decide) _) rfl (by decide) dX3_gatherRoomAndNoise_66 h (fun h => ?_)
    obtain ⟨⟨⟩, σ1, h67, h⟩ := z_bind_some h
    refine z_callv hx (As := [.int (zi x3), .int (zi (σ 2 x2))]) (k := 54) (met_X3_gatherFrame (z_l C) (z_g C) (z_ok_sd hx) h67) (z_lt0 (z_ok_sd hx) (by decide)) (z_kb54 (z_ok_sd hx) _) rfl rfl cv_X3_74 (z_room hR ⟨Nat.le_of_ble_eq_true rfl, Nat.le_of_ble_eq_true rfl⟩) ⟨rfl, rfl⟩ rfl rfl (Nat.le_of_ble_eq_true rfl) dX3_gatherRoomAndNoise_67 ?_
    refine z_iinc hx hn 3 (lv' := [(3, .int (zi (x3 + 1))), (0, .ref (z_ad (z_g C) 54)), (1, .ref (z_ad (z_g C) 0)), (2, .int (zi x2))]) dX3_gatherRoomAndNoise_70 rfl (by decide) rfl ?_
    refine z_goto hx (tgt := 49) dX3_gatherRoomAndNoise_73 (by decide) ?_
    refine z_sub [1, 2, 3, 0] rfl ?_
    exact hK49 σ1 x2 (x3 + 1) h

theorem w_X3_gatherRoomAndNoise_l49 {C : zC} (hx : z_ok C cX3_gatherRoomAndNoise RX3 0) (hn : z_nL C = 4) (hR : z_R C = rm_X3_gatherRoomAndNoise) {rr : Unit × zS} (hq : z_fin C none (z_QV (z_g C) rr.2)) {K34 : zS → Int → Option (Unit × zS)} (hK34 : ∀ (σ : zS) (x2 : Int) , K34 σ x2 = some rr → z_W C σ 34 [(0, .ref (z_ad (z_g C) 54)), (1, .ref (z_ad (z_g C) 0)), (2, .int (zi x2))] []) : ∀ (n : Nat) (σ : zS) (x2 : Int) (x3 : Int) (_ : f_X3_gatherRoomAndNoise_l49 K34 n σ x2 x3 = some rr), z_W C σ 49 [(0, .ref (z_ad (z_g C) 54)), (1, .ref (z_ad (z_g C) 0)), (2, .int (zi x2)), (3, .int (zi x3))] [] := by
  intro n
  induction n with
  | zero => intro σ x2 x3 h; cases h
  | succ n ih =>
    intro σ x2 x3 h
    exact w_X3_gatherRoomAndNoise_b49 hx hn hR hq hK34 ih σ x2 x3 h
theorem w_X3_gatherRoomAndNoise_b34 {C : zC} (hx : z_ok C cX3_gatherRoomAndNoise RX3 0) (hn : z_nL C = 4) (hR : z_R C = rm_X3_gatherRoomAndNoise) {rr : Unit × zS} (hq : z_fin C none (z_QV (z_g C) rr.2)) {K34 : zS → Int → Option (Unit × zS)} (hK34 : ∀ (σ : zS) (x2 : Int) , K34 σ x2 = some rr → z_W C σ 34 [(0, .ref (z_ad (z_g C) 54)), (1, .ref (z_ad (z_g C) 0)), (2, .int (zi x2))] []) (σ : zS) (x2 : Int) (h : f_X3_gatherRoomAndNoise_b34 K34 σ x2 = some rr) : z_W C σ 34 [(0, .ref (z_ad (z_g C) 54)), (1, .ref (z_ad (z_g C) 0)), (2, .int (zi x2))] [] := by
  unfold f_X3_gatherRoomAndNoise_b34 at h
  refine z_iload_n hx 2 dX3_gatherRoomAndNoise_34 rfl ?_
  refine z_aload_n hx 1 dX3_gatherRoomAndNoise_35 rfl ?_
  refine gf_X2_marks hx wf_X3_64 (show 0 < 6 by decide) dX3_gatherRoomAndNoise_36 ?_
  refine z_icmp_ge hx (tgt := 82) dX3_gatherRoomAndNoise_39 (by decide) h (fun h => h) (fun hc h => ?_) (fun hc h => ?_)
  · cases h
    exact z_vret hx hq dX3_gatherRoomAndNoise_82
  · refine z_aload_n hx 1 dX3_gatherRoomAndNoise_42 rfl ?_
    refine gf_X2_firsts hx wf_X3_67 (show 0 < 6 by decide) dX3_gatherRoomAndNoise_43 ?_
    refine z_iload_n hx 2 dX3_gatherRoomAndNoise_46 rfl ?_
    refine z_iald hx (n := 20) (z_lt0 (z_ok_sd hx) (by decide)) (z_ka3 (z_ok_sd hx) (show 0 < 6 by decide) _) rfl (by decide) dX3_gatherRoomAndNoise_47 h (fun h => ?_)
    refine z_istore_n hx hn (lv' := [(3, .int (zi (σ 3 x2))), (0, .ref (z_ad (z_g C) 54)), (1, .ref (z_ad (z_g C) 0)), (2, .int (zi x2))]) dX3_gatherRoomAndNoise_48 (by decide) rfl ?_
    refine z_sub [1, 2, 3, 0] rfl ?_
    exact w_X3_gatherRoomAndNoise_l49 hx hn hR hq hK34 z_fuel σ x2 (σ 3 x2) h

theorem w_X3_gatherRoomAndNoise_l34 {C : zC} (hx : z_ok C cX3_gatherRoomAndNoise RX3 0) (hn : z_nL C = 4) (hR : z_R C = rm_X3_gatherRoomAndNoise) {rr : Unit × zS} (hq : z_fin C none (z_QV (z_g C) rr.2)) : ∀ (n : Nat) (σ : zS) (x2 : Int) (_ : f_X3_gatherRoomAndNoise_l34 n σ x2 = some rr), z_W C σ 34 [(0, .ref (z_ad (z_g C) 54)), (1, .ref (z_ad (z_g C) 0)), (2, .int (zi x2))] [] := by
  intro n
  induction n with
  | zero => intro σ x2 h; cases h
  | succ n ih =>
    intro σ x2 h
    exact w_X3_gatherRoomAndNoise_b34 hx hn hR hq ih σ x2 h
theorem w_X3_gatherRoomAndNoise_b12 {C : zC} (hx : z_ok C cX3_gatherRoomAndNoise RX3 0) (hn : z_nL C = 4) (hR : z_R C = rm_X3_gatherRoomAndNoise) {rr : Unit × zS} (hq : z_fin C none (z_QV (z_g C) rr.2)) {K12 : zS → Int → Option (Unit × zS)} (hK12 : ∀ (σ : zS) (x2 : Int) , K12 σ x2 = some rr → z_W C σ 12 [(0, .ref (z_ad (z_g C) 54)), (1, .ref (z_ad (z_g C) 0)), (2, .int (zi x2))] []) (σ : zS) (x2 : Int) (h : f_X3_gatherRoomAndNoise_b12 K12 σ x2 = some rr) : z_W C σ 12 [(0, .ref (z_ad (z_g C) 54)), (1, .ref (z_ad (z_g C) 0)), (2, .int (zi x2))] [] := by
  unfold f_X3_gatherRoomAndNoise_b12 at h
  refine z_iload_n hx 2 dX3_gatherRoomAndNoise_12 rfl ?_
  refine z_sipush hx (n := 200) dX3_gatherRoomAndNoise_13 rfl ?_
  refine z_icmp_ge hx (tgt := 32) dX3_gatherRoomAndNoise_16 (by decide) h (fun h => ⟨h, by decide⟩) (fun hc h => ?_) (fun hc h => ?_)
  · refine z_iconst hx (n := 0) dX3_gatherRoomAndNoise_32 ?_
    refine z_istore_n hx hn (lv' := [(2, .int (zi 0)), (0, .ref (z_ad (z_g C) 54)), (1, .ref (z_ad (z_g C) 0))]) dX3_gatherRoomAndNoise_33 (by decide) rfl ?_
    refine z_sub [1, 2, 0] rfl ?_
    exact w_X3_gatherRoomAndNoise_l34 hx hn hR hq z_fuel σ 0 h
  · refine z_aload_n hx 0 dX3_gatherRoomAndNoise_19 rfl ?_
    refine gf_X3_noisy hx wf_X3_31 dX3_gatherRoomAndNoise_20 ?_
    refine z_iload_n hx 2 dX3_gatherRoomAndNoise_23 rfl ?_
    refine z_iconst hx (n := 0) dX3_gatherRoomAndNoise_24 ?_
    refine z_zast hx (n := 200) (z_lt0 (z_ok_sd hx) (by decide)) (z_kb58 (z_ok_sd hx)) rfl (by decide) dX3_gatherRoomAndNoise_25 h (fun σ1 h => ?_)
    refine z_iinc hx hn 2 (lv' := [(2, .int (zi (x2 + 1))), (0, .ref (z_ad (z_g C) 54)), (1, .ref (z_ad (z_g C) 0))]) dX3_gatherRoomAndNoise_26 rfl (by decide) rfl ?_
    refine z_goto hx (tgt := 12) dX3_gatherRoomAndNoise_29 (by decide) ?_
    refine z_sub [1, 2, 0] rfl ?_
    exact hK12 σ1 (x2 + 1) h

theorem w_X3_gatherRoomAndNoise_l12 {C : zC} (hx : z_ok C cX3_gatherRoomAndNoise RX3 0) (hn : z_nL C = 4) (hR : z_R C = rm_X3_gatherRoomAndNoise) {rr : Unit × zS} (hq : z_fin C none (z_QV (z_g C) rr.2)) : ∀ (n : Nat) (σ : zS) (x2 : Int) (_ : f_X3_gatherRoomAndNoise_l12 n σ x2 = some rr), z_W C σ 12 [(0, .ref (z_ad (z_g C) 54)), (1, .ref (z_ad (z_g C) 0)), (2, .int (zi x2))] [] := by
  intro n
  induction n with
  | zero => intro σ x2 h; cases h
  | succ n ih =>
    intro σ x2 h
    exact w_X3_gatherRoomAndNoise_b12 hx hn hR hq ih σ x2 h
theorem w_X3_gatherRoomAndNoise {C : zC} (hx : z_ok C cX3_gatherRoomAndNoise RX3 0) (hn : z_nL C = 4) (hR : z_R C = rm_X3_gatherRoomAndNoise) {rr : Unit × zS} (hq : z_fin C none (z_QV (z_g C) rr.2)) (σ : zS) (h : f_X3_gatherRoomAndNoise σ = some rr) : z_W C σ 0 [(0, .ref (z_ad (z_g C) 54)), (1, .ref (z_ad (z_g C) 0))] [] := by
  unfold f_X3_gatherRoomAndNoise at h
  refine z_aload_n hx 0 dX3_gatherRoomAndNoise_0 rfl ?_
  refine z_iconst hx (n := 0) dX3_gatherRoomAndNoise_1 ?_
  refine pf_X3_roomFrames hx wf_X3_25 dX3_gatherRoomAndNoise_2 h (fun σ1 h => ?_)
  refine z_aload_n hx 0 dX3_gatherRoomAndNoise_5 rfl ?_
  refine z_iconst hx (n := 0) dX3_gatherRoomAndNoise_6 ?_
  refine pf_X3_roomPlace hx wf_X3_28 dX3_gatherRoomAndNoise_7 h (fun σ2 h => ?_)
  refine z_iconst hx (n := 0) dX3_gatherRoomAndNoise_10 ?_
  refine z_istore_n hx hn (lv' := [(2, .int (zi 0)), (0, .ref (z_ad (z_g C) 54)), (1, .ref (z_ad (z_g C) 0))]) dX3_gatherRoomAndNoise_11 (by decide) rfl ?_
  refine z_sub [1, 2, 0] rfl ?_
  exact w_X3_gatherRoomAndNoise_l12 hx hn hR hq z_fuel σ2 0 h

theorem met_X3_gatherRoomAndNoise (l : Launch) (g : zG) (hg : g.1 = 0) {σ : zS} {rr : Unit × zS} (h : f_X3_gatherRoomAndNoise σ = some rr) : z_Met l yX3_gatherRoomAndNoise cX3_gatherRoomAndNoise 4 none rm_X3_gatherRoomAndNoise g [.ref (z_ad (g) 54), .ref (z_ad (g) 0)] σ (z_QV g rr.2) := by
  refine z_enter (own := RX3) (sd := 0) (lv0 := [(0, .ref (z_ad (g) 54)), (1, .ref (z_ad (g) 0))]) (by decide) rfl (Nat.le_of_ble_eq_true rfl) hg rfl (fun C hx hl hgC hR hn hq => ?_)
  subst hgC
  refine z_sub [0, 1] rfl ?_
  exact w_X3_gatherRoomAndNoise hx hn hR hq σ h
theorem dX3_add_0 : decode cX3_add 0 = .ok (.aload_n 0, 1) := by decide +kernel
theorem dX3_add_1 : decode cX3_add 1 = .ok (.getfield 18, 3) := by decide +kernel
theorem dX3_add_4 : decode cX3_add 4 = .ok (.sipush 200, 3) := by decide +kernel
theorem dX3_add_7 : decode cX3_add 7 = .ok (.if_icmp .ge 33, 3) := by decide +kernel
theorem dX3_add_10 : decode cX3_add 10 = .ok (.aload_n 0, 1) := by decide +kernel
theorem dX3_add_11 : decode cX3_add 11 = .ok (.getfield 9, 3) := by decide +kernel
theorem dX3_add_14 : decode cX3_add 14 = .ok (.aload_n 0, 1) := by decide +kernel
theorem dX3_add_15 : decode cX3_add 15 = .ok (.getfield 18, 3) := by decide +kernel
theorem dX3_add_18 : decode cX3_add 18 = .ok (.iload_n 1, 1) := by decide +kernel
theorem dX3_add_19 : decode cX3_add 19 = .ok (.iastore, 1) := by decide +kernel
theorem dX3_add_20 : decode cX3_add 20 = .ok (.aload_n 0, 1) := by decide +kernel
theorem dX3_add_21 : decode cX3_add 21 = .ok (.getfield 15, 3) := by decide +kernel
theorem dX3_add_24 : decode cX3_add 24 = .ok (.aload_n 0, 1) := by decide +kernel
theorem dX3_add_25 : decode cX3_add 25 = .ok (.getfield 18, 3) := by decide +kernel
theorem dX3_add_28 : decode cX3_add 28 = .ok (.iload_n 2, 1) := by decide +kernel
theorem dX3_add_29 : decode cX3_add 29 = .ok (.iastore, 1) := by decide +kernel
theorem dX3_add_30 : decode cX3_add 30 = .ok (.aload_n 0, 1) := by decide +kernel
theorem dX3_add_31 : decode cX3_add 31 = .ok (.dup, 1) := by decide +kernel
theorem dX3_add_32 : decode cX3_add 32 = .ok (.getfield 18, 3) := by decide +kernel
theorem dX3_add_35 : decode cX3_add 35 = .ok (.iconst 1, 1) := by decide +kernel
theorem dX3_add_36 : decode cX3_add 36 = .ok (.iadd, 1) := by decide +kernel
theorem dX3_add_37 : decode cX3_add 37 = .ok (.putfield 18, 3) := by decide +kernel
theorem dX3_add_40 : decode cX3_add 40 = .ok (.return_, 1) := by decide +kernel
abbrev rm_X3_add : Room := { frames := 0, cells := 0, slots := 0, locals := 0 }
theorem w_X3_add_b40 {C : zC} (hx : z_ok C cX3_add RX3 0) (hn : z_nL C = 3) (hR : z_R C = rm_X3_add) {rr : Unit × zS} (hq : z_fin C none (z_QV (z_g C) rr.2)) (σ : zS) (h : f_X3_add_b40 σ = some rr) : z_W C σ 40 [] [] := by
  unfold f_X3_add_b40 at h
  cases h
  exact z_vret hx hq dX3_add_40

theorem w_X3_add {C : zC} (hx : z_ok C cX3_add RX3 0) (hn : z_nL C = 3) (hR : z_R C = rm_X3_add) {rr : Unit × zS} (hq : z_fin C none (z_QV (z_g C) rr.2)) (σ : zS) (x1 : Int) (x2 : Int) (h : f_X3_add σ x1 x2 = some rr) : z_W C σ 0 [(0, .ref (z_ad (z_g C) 54)), (1, .int (zi x1)), (2, .int (zi x2))] [] := by
  unfold f_X3_add at h
  refine z_aload_n hx 0 dX3_add_0 rfl ?_
  refine gf_X3_count hx wf_X3_18 dX3_add_1 ?_
  refine z_sipush hx (n := 200) dX3_add_4 rfl ?_
  refine z_icmp_ge hx (tgt := 40) dX3_add_7 (by decide) h (fun h => ⟨h, by decide⟩) (fun hc h => ?_) (fun hc h => ?_)
  · refine z_sub [] rfl ?_
    exact w_X3_add_b40 hx hn hR hq σ h
  · refine z_aload_n hx 0 dX3_add_10 rfl ?_
    refine gf_X3_sources hx wf_X3_9 dX3_add_11 ?_
    refine z_aload_n hx 0 dX3_add_14 rfl ?_
    refine gf_X3_count hx wf_X3_18 dX3_add_15 ?_
    refine z_iload_n hx 1 dX3_add_18 rfl ?_
    refine z_iast hx (n := 200) (z_lt0 (z_ok_sd hx) (by decide)) (z_kb55 (z_ok_sd hx)) rfl (by decide) dX3_add_19 h (fun σ1 h => ?_)
    refine z_aload_n hx 0 dX3_add_20 rfl ?_
    refine gf_X3_levels hx wf_X3_15 dX3_add_21 ?_
    refine z_aload_n hx 0 dX3_add_24 rfl ?_
    refine gf_X3_count hx wf_X3_18 dX3_add_25 ?_
    refine z_iload_n hx 2 dX3_add_28 rfl ?_
    refine z_iast hx (n := 200) (z_lt0 (z_ok_sd hx) (by decide)) (z_kb56 (z_ok_sd hx)) rfl (by decide) dX3_add_29 h (fun σ2 h => ?_)
    refine z_aload_n hx 0 dX3_add_30 rfl ?_
    refine z_dup hx dX3_add_31 rfl ?_
    refine gf_X3_count hx wf_X3_18 dX3_add_32 ?_
    refine z_iconst hx (n := 1) dX3_add_35 ?_
    refine z_iadd hx dX3_add_36 ?_
    refine pf_X3_count hx wf_X3_18 dX3_add_37 h (fun σ3 h => ?_)
    refine z_sub [] rfl ?_
    exact w_X3_add_b40 hx hn hR hq σ3 h

theorem met_X3_add (l : Launch) (g : zG) (hg : g.1 = 0) {σ : zS} {x1 : Int} {x2 : Int} {rr : Unit × zS} (h : f_X3_add σ x1 x2 = some rr) : z_Met l yX3_add cX3_add 3 none rm_X3_add g [.ref (z_ad (g) 54), .int (zi x1), .int (zi x2)] σ (z_QV g rr.2) := by
  refine z_enter (own := RX3) (sd := 0) (lv0 := [(0, .ref (z_ad (g) 54)), (1, .int (zi x1)), (2, .int (zi x2))]) (by decide) rfl (Nat.le_of_ble_eq_true rfl) hg rfl (fun C hx hl hgC hR hn hq => ?_)
  subst hgC
  refine z_sub [0, 1, 2] rfl ?_
  exact w_X3_add hx hn hR hq σ x1 x2 h
theorem dX3_addRecorded_0 : decode cX3_addRecorded 0 = .ok (.iload_n 2, 1) := by decide +kernel
theorem dX3_addRecorded_1 : decode cX3_addRecorded 1 = .ok (.istore 4, 2) := by decide +kernel
theorem dX3_addRecorded_3 : decode cX3_addRecorded 3 = .ok (.iload 4, 2) := by decide +kernel
theorem dX3_addRecorded_5 : decode cX3_addRecorded 5 = .ok (.iload_n 3, 1) := by decide +kernel
theorem dX3_addRecorded_6 : decode cX3_addRecorded 6 = .ok (.if_icmp .ge 51, 3) := by decide +kernel
theorem dX3_addRecorded_9 : decode cX3_addRecorded 9 = .ok (.aload_n 1, 1) := by decide +kernel
theorem dX3_addRecorded_10 : decode cX3_addRecorded 10 = .ok (.iload 4, 2) := by decide +kernel
theorem dX3_addRecorded_12 : decode cX3_addRecorded 12 = .ok (.invokevirtual 78, 3) := by decide +kernel
theorem dX3_addRecorded_15 : decode cX3_addRecorded 15 = .ok (.ifCond .eq 36, 3) := by decide +kernel
theorem dX3_addRecorded_18 : decode cX3_addRecorded 18 = .ok (.aload_n 1, 1) := by decide +kernel
theorem dX3_addRecorded_19 : decode cX3_addRecorded 19 = .ok (.iload 4, 2) := by decide +kernel
theorem dX3_addRecorded_21 : decode cX3_addRecorded 21 = .ok (.invokevirtual 82, 3) := by decide +kernel
theorem dX3_addRecorded_24 : decode cX3_addRecorded 24 = .ok (.istore 5, 2) := by decide +kernel
theorem dX3_addRecorded_26 : decode cX3_addRecorded 26 = .ok (.aload_n 0, 1) := by decide +kernel
theorem dX3_addRecorded_27 : decode cX3_addRecorded 27 = .ok (.iload 4, 2) := by decide +kernel
theorem dX3_addRecorded_29 : decode cX3_addRecorded 29 = .ok (.aload_n 0, 1) := by decide +kernel
theorem dX3_addRecorded_30 : decode cX3_addRecorded 30 = .ok (.getfield 31, 3) := by decide +kernel
theorem dX3_addRecorded_33 : decode cX3_addRecorded 33 = .ok (.iload 4, 2) := by decide +kernel
theorem dX3_addRecorded_35 : decode cX3_addRecorded 35 = .ok (.baload, 1) := by decide +kernel
theorem dX3_addRecorded_36 : decode cX3_addRecorded 36 = .ok (.ifCond .eq 10, 3) := by decide +kernel
theorem dX3_addRecorded_39 : decode cX3_addRecorded 39 = .ok (.iload 5, 2) := by decide +kernel
theorem dX3_addRecorded_41 : decode cX3_addRecorded 41 = .ok (.iconst 2, 1) := by decide +kernel
theorem dX3_addRecorded_42 : decode cX3_addRecorded 42 = .ok (.idiv, 1) := by decide +kernel
theorem dX3_addRecorded_43 : decode cX3_addRecorded 43 = .ok (.goto 5, 3) := by decide +kernel
theorem dX3_addRecorded_46 : decode cX3_addRecorded 46 = .ok (.iload 5, 2) := by decide +kernel
theorem dX3_addRecorded_48 : decode cX3_addRecorded 48 = .ok (.invokevirtual 86, 3) := by decide +kernel
theorem dX3_addRecorded_51 : decode cX3_addRecorded 51 = .ok (.iinc 4 1, 3) := by decide +kernel
theorem dX3_addRecorded_54 : decode cX3_addRecorded 54 = .ok (.goto (-51), 3) := by decide +kernel
theorem dX3_addRecorded_57 : decode cX3_addRecorded 57 = .ok (.return_, 1) := by decide +kernel
abbrev rm_X3_addRecorded : Room := { frames := 1, cells := 0, slots := 0, locals := 22 }
theorem w_X3_addRecorded_b51 {C : zC} (hx : z_ok C cX3_addRecorded RX3 0) (hn : z_nL C = 6) (hR : z_R C = rm_X3_addRecorded) {rr : Unit × zS} (hq : z_fin C none (z_QV (z_g C) rr.2)) {K3 : zS → Int → Int → Option (Unit × zS)} (hK3 : ∀ (σ : zS) (x3 : Int) (x4 : Int) , K3 σ x3 x4 = some rr → z_W C σ 3 [(0, .ref (z_ad (z_g C) 54)), (1, .ref (z_ad (z_g C) 0)), (3, .int (zi x3)), (4, .int (zi x4))] []) (σ : zS) (x3 : Int) (x4 : Int) (h : f_X3_addRecorded_b51 K3 σ x3 x4 = some rr) : z_W C σ 51 [(0, .ref (z_ad (z_g C) 54)), (1, .ref (z_ad (z_g C) 0)), (3, .int (zi x3)), (4, .int (zi x4))] [] := by
  unfold f_X3_addRecorded_b51 at h
  refine z_iinc hx hn 3 (lv' := [(4, .int (zi (x4 + 1))), (0, .ref (z_ad (z_g C) 54)), (1, .ref (z_ad (z_g C) 0)), (3, .int (zi x3))]) dX3_addRecorded_51 rfl (by decide) rfl ?_
  refine z_goto hx (tgt := 3) dX3_addRecorded_54 (by decide) ?_
  refine z_sub [1, 2, 3, 0] rfl ?_
  exact hK3 σ x3 (x4 + 1) h

theorem w_X3_addRecorded_b48 {C : zC} (hx : z_ok C cX3_addRecorded RX3 0) (hn : z_nL C = 6) (hR : z_R C = rm_X3_addRecorded) {rr : Unit × zS} (hq : z_fin C none (z_QV (z_g C) rr.2)) {K3 : zS → Int → Int → Option (Unit × zS)} (hK3 : ∀ (σ : zS) (x3 : Int) (x4 : Int) , K3 σ x3 x4 = some rr → z_W C σ 3 [(0, .ref (z_ad (z_g C) 54)), (1, .ref (z_ad (z_g C) 0)), (3, .int (zi x3)), (4, .int (zi x4))] []) (σ : zS) (x3 : Int) (x4 : Int) (s1 : Int) (s2 : Int) (h : f_X3_addRecorded_b48 K3 σ x3 x4 s1 s2 = some rr) : z_W C σ 48 [(0, .ref (z_ad (z_g C) 54)), (1, .ref (z_ad (z_g C) 0)), (3, .int (zi x3)), (4, .int (zi x4))] [.int (zi s2), .int (zi s1), .ref (z_ad (z_g C) 54)] := by
  unfold f_X3_addRecorded_b48 at h
  obtain ⟨⟨⟩, σ1, h48, h⟩ := z_bind_some h
  refine z_callv hx (As := [.int (zi s1), .int (zi s2)]) (k := 54) (met_X3_add (z_l C) (z_g C) (z_ok_sd hx) h48) (z_lt0 (z_ok_sd hx) (by decide)) (z_kb54 (z_ok_sd hx) _) rfl rfl cv_X3_86 (z_room hR ⟨Nat.le_of_ble_eq_true rfl, Nat.le_of_ble_eq_true rfl⟩) ⟨rfl, rfl⟩ rfl rfl (Nat.le_of_ble_eq_true rfl) dX3_addRecorded_48 ?_
  refine z_sub [0, 1, 2, 3] rfl ?_
  exact w_X3_addRecorded_b51 hx hn hR hq hK3 σ1 x3 x4 h

theorem w_X3_addRecorded_b3 {C : zC} (hx : z_ok C cX3_addRecorded RX3 0) (hn : z_nL C = 6) (hR : z_R C = rm_X3_addRecorded) {rr : Unit × zS} (hq : z_fin C none (z_QV (z_g C) rr.2)) {K3 : zS → Int → Int → Option (Unit × zS)} (hK3 : ∀ (σ : zS) (x3 : Int) (x4 : Int) , K3 σ x3 x4 = some rr → z_W C σ 3 [(0, .ref (z_ad (z_g C) 54)), (1, .ref (z_ad (z_g C) 0)), (3, .int (zi x3)), (4, .int (zi x4))] []) (σ : zS) (x3 : Int) (x4 : Int) (h : f_X3_addRecorded_b3 K3 σ x3 x4 = some rr) : z_W C σ 3 [(0, .ref (z_ad (z_g C) 54)), (1, .ref (z_ad (z_g C) 0)), (3, .int (zi x3)), (4, .int (zi x4))] [] := by
  unfold f_X3_addRecorded_b3 at h
  refine z_iload hx 3 dX3_addRecorded_3 rfl ?_
  refine z_iload_n hx 2 dX3_addRecorded_5 rfl ?_
  refine z_icmp_ge hx (tgt := 57) dX3_addRecorded_6 (by decide) h (fun h => h) (fun hc h => ?_) (fun hc h => ?_)
  · cases h
    exact z_vret hx hq dX3_addRecorded_57
  · refine z_aload_n hx 1 dX3_addRecorded_9 rfl ?_
    refine z_iload hx 3 dX3_addRecorded_10 rfl ?_
    obtain ⟨r2, σ1, h12, h⟩ := z_bind_some h
    refine z_calli hx (As := [.int (zi x4)]) (k := 0) (met_X2_hasFrame (z_l C) (z_g C) (z_ok_sd hx) (show 0 < 6 by decide) h12) (z_lt0 (z_ok_sd hx) (by decide)) (z_ka0 (z_ok_sd hx) (show 0 < 6 by decide) _) rfl rfl cv_X3_78 (z_room hR ⟨Nat.le_of_ble_eq_true rfl, Nat.le_of_ble_eq_true rfl⟩) ⟨rfl, rfl⟩ rfl rfl (Nat.le_of_ble_eq_true rfl) dX3_addRecorded_12 ?_
    refine z_if_eq hx (tgt := 51) dX3_addRecorded_15 (by decide) h (fun h => h) (fun hc h => ?_) (fun hc h => ?_)
    · refine z_sub [0, 1, 2, 3] rfl ?_
      exact w_X3_addRecorded_b51 hx hn hR hq hK3 σ1 x3 x4 h
    · refine z_aload_n hx 1 dX3_addRecorded_18 rfl ?_
      refine z_iload hx 3 dX3_addRecorded_19 rfl ?_
      obtain ⟨r4, σ3, h21, h⟩ := z_bind_some h
      refine z_calli hx (As := [.int (zi x4)]) (k := 0) (met_X2_levelAt (z_l C) (z_g C) (z_ok_sd hx) (show 0 < 6 by decide) h21) (z_lt0 (z_ok_sd hx) (by decide)) (z_ka0 (z_ok_sd hx) (show 0 < 6 by decide) _) rfl rfl cv_X3_82 (z_room hR ⟨Nat.le_of_ble_eq_true rfl, Nat.le_of_ble_eq_true rfl⟩) ⟨rfl, rfl⟩ rfl rfl (Nat.le_of_ble_eq_true rfl) dX3_addRecorded_21 ?_
      refine z_istore hx hn (lv' := [(5, .int (zi r4)), (0, .ref (z_ad (z_g C) 54)), (1, .ref (z_ad (z_g C) 0)), (3, .int (zi x3)), (4, .int (zi x4))]) dX3_addRecorded_24 (by decide) rfl ?_
      refine z_aload_n hx 1 dX3_addRecorded_26 rfl ?_
      refine z_iload hx 4 dX3_addRecorded_27 rfl ?_
      refine z_aload_n hx 1 dX3_addRecorded_29 rfl ?_
      refine gf_X3_noisy hx wf_X3_31 dX3_addRecorded_30 ?_
      refine z_iload hx 4 dX3_addRecorded_33 rfl ?_
      refine z_zald hx (n := 200) (z_lt0 (z_ok_sd hx) (by decide)) (z_kb58 (z_ok_sd hx) _) rfl (by decide) dX3_addRecorded_35 h (fun h => ?_)
      refine z_if_eq hx (tgt := 46) dX3_addRecorded_36 (by decide) h (fun h => h) (fun hc h => ?_) (fun hc h => ?_)
      · refine z_iload hx 0 dX3_addRecorded_46 rfl ?_
        refine z_sub [1, 2, 3, 4] rfl ?_
        exact w_X3_addRecorded_b48 hx hn hR hq hK3 σ3 x3 x4 x4 r4 h
      · refine z_iload hx 0 dX3_addRecorded_39 rfl ?_
        refine z_iconst hx (n := 2) dX3_addRecorded_41 ?_
        refine z_idiv hx dX3_addRecorded_42 h (fun h => ?_)
        refine z_goto hx (tgt := 48) dX3_addRecorded_43 (by decide) ?_
        refine z_sub [1, 2, 3, 4] rfl ?_
        exact w_X3_addRecorded_b48 hx hn hR hq hK3 σ3 x3 x4 x4 (r4.tdiv 2) h

theorem w_X3_addRecorded_l3 {C : zC} (hx : z_ok C cX3_addRecorded RX3 0) (hn : z_nL C = 6) (hR : z_R C = rm_X3_addRecorded) {rr : Unit × zS} (hq : z_fin C none (z_QV (z_g C) rr.2)) : ∀ (n : Nat) (σ : zS) (x3 : Int) (x4 : Int) (_ : f_X3_addRecorded_l3 n σ x3 x4 = some rr), z_W C σ 3 [(0, .ref (z_ad (z_g C) 54)), (1, .ref (z_ad (z_g C) 0)), (3, .int (zi x3)), (4, .int (zi x4))] [] := by
  intro n
  induction n with
  | zero => intro σ x3 x4 h; cases h
  | succ n ih =>
    intro σ x3 x4 h
    exact w_X3_addRecorded_b3 hx hn hR hq ih σ x3 x4 h
theorem w_X3_addRecorded {C : zC} (hx : z_ok C cX3_addRecorded RX3 0) (hn : z_nL C = 6) (hR : z_R C = rm_X3_addRecorded) {rr : Unit × zS} (hq : z_fin C none (z_QV (z_g C) rr.2)) (σ : zS) (x2 : Int) (x3 : Int) (h : f_X3_addRecorded σ x2 x3 = some rr) : z_W C σ 0 [(0, .ref (z_ad (z_g C) 54)), (1, .ref (z_ad (z_g C) 0)), (2, .int (zi x2)), (3, .int (zi x3))] [] := by
  unfold f_X3_addRecorded at h
  refine z_iload_n hx 2 dX3_addRecorded_0 rfl ?_
  refine z_istore hx hn (lv' := [(4, .int (zi x2)), (0, .ref (z_ad (z_g C) 54)), (1, .ref (z_ad (z_g C) 0)), (2, .int (zi x2)), (3, .int (zi x3))]) dX3_addRecorded_1 (by decide) rfl ?_
  refine z_sub [1, 2, 4, 0] rfl ?_
  exact w_X3_addRecorded_l3 hx hn hR hq z_fuel σ x3 x2 h

theorem met_X3_addRecorded (l : Launch) (g : zG) (hg : g.1 = 0) {σ : zS} {x2 : Int} {x3 : Int} {rr : Unit × zS} (h : f_X3_addRecorded σ x2 x3 = some rr) : z_Met l yX3_addRecorded cX3_addRecorded 6 none rm_X3_addRecorded g [.ref (z_ad (g) 54), .ref (z_ad (g) 0), .int (zi x2), .int (zi x3)] σ (z_QV g rr.2) := by
  refine z_enter (own := RX3) (sd := 0) (lv0 := [(0, .ref (z_ad (g) 54)), (1, .ref (z_ad (g) 0)), (2, .int (zi x2)), (3, .int (zi x3))]) (by decide) rfl (Nat.le_of_ble_eq_true rfl) hg rfl (fun C hx hl hgC hR hn hq => ?_)
  subst hgC
  refine z_sub [0, 1, 2, 3] rfl ?_
  exact w_X3_addRecorded hx hn hR hq σ x2 x3 h
theorem dX3_nextRoomFrame_0 : decode cX3_nextRoomFrame 0 = .ok (.aload_n 0, 1) := by decide +kernel
theorem dX3_nextRoomFrame_1 : decode cX3_nextRoomFrame 1 = .ok (.getfield 28, 3) := by decide +kernel
theorem dX3_nextRoomFrame_4 : decode cX3_nextRoomFrame 4 = .ok (.aload_n 0, 1) := by decide +kernel
theorem dX3_nextRoomFrame_5 : decode cX3_nextRoomFrame 5 = .ok (.getfield 25, 3) := by decide +kernel
theorem dX3_nextRoomFrame_8 : decode cX3_nextRoomFrame 8 = .ok (.if_icmp .lt 8, 3) := by decide +kernel
theorem dX3_nextRoomFrame_11 : decode cX3_nextRoomFrame 11 = .ok (.aload_n 0, 1) := by decide +kernel
theorem dX3_nextRoomFrame_12 : decode cX3_nextRoomFrame 12 = .ok (.iconst 0, 1) := by decide +kernel
theorem dX3_nextRoomFrame_13 : decode cX3_nextRoomFrame 13 = .ok (.putfield 28, 3) := by decide +kernel
theorem dX3_nextRoomFrame_16 : decode cX3_nextRoomFrame 16 = .ok (.aload_n 0, 1) := by decide +kernel
theorem dX3_nextRoomFrame_17 : decode cX3_nextRoomFrame 17 = .ok (.getfield 22, 3) := by decide +kernel
theorem dX3_nextRoomFrame_20 : decode cX3_nextRoomFrame 20 = .ok (.aload_n 0, 1) := by decide +kernel
theorem dX3_nextRoomFrame_21 : decode cX3_nextRoomFrame 21 = .ok (.getfield 28, 3) := by decide +kernel
theorem dX3_nextRoomFrame_24 : decode cX3_nextRoomFrame 24 = .ok (.iaload, 1) := by decide +kernel
theorem dX3_nextRoomFrame_25 : decode cX3_nextRoomFrame 25 = .ok (.istore_n 1, 1) := by decide +kernel
theorem dX3_nextRoomFrame_26 : decode cX3_nextRoomFrame 26 = .ok (.aload_n 0, 1) := by decide +kernel
theorem dX3_nextRoomFrame_27 : decode cX3_nextRoomFrame 27 = .ok (.dup, 1) := by decide +kernel
theorem dX3_nextRoomFrame_28 : decode cX3_nextRoomFrame 28 = .ok (.getfield 28, 3) := by decide +kernel
theorem dX3_nextRoomFrame_31 : decode cX3_nextRoomFrame 31 = .ok (.iconst 1, 1) := by decide +kernel
theorem dX3_nextRoomFrame_32 : decode cX3_nextRoomFrame 32 = .ok (.iadd, 1) := by decide +kernel
theorem dX3_nextRoomFrame_33 : decode cX3_nextRoomFrame 33 = .ok (.putfield 28, 3) := by decide +kernel
theorem dX3_nextRoomFrame_36 : decode cX3_nextRoomFrame 36 = .ok (.iload_n 1, 1) := by decide +kernel
theorem dX3_nextRoomFrame_37 : decode cX3_nextRoomFrame 37 = .ok (.ireturn, 1) := by decide +kernel
abbrev rm_X3_nextRoomFrame : Room := { frames := 0, cells := 0, slots := 0, locals := 0 }
theorem w_X3_nextRoomFrame_b16 {C : zC} (hx : z_ok C cX3_nextRoomFrame RX3 0) (hn : z_nL C = 2) (hR : z_R C = rm_X3_nextRoomFrame) {rr : Int × zS} (hq : z_fin C (some .int) (z_QI (z_g C) rr.1 rr.2)) (σ : zS) (h : f_X3_nextRoomFrame_b16 σ = some rr) : z_W C σ 16 [(0, .ref (z_ad (z_g C) 54))] [] := by
  unfold f_X3_nextRoomFrame_b16 at h
  refine z_aload_n hx 0 dX3_nextRoomFrame_16 rfl ?_
  refine gf_X3_room hx wf_X3_22 dX3_nextRoomFrame_17 ?_
  refine z_aload_n hx 0 dX3_nextRoomFrame_20 rfl ?_
  refine gf_X3_roomPlace hx wf_X3_28 dX3_nextRoomFrame_21 ?_
  refine z_iald hx (n := 200) (z_lt0 (z_ok_sd hx) (by decide)) (z_kb57 (z_ok_sd hx) _) rfl (by decide) dX3_nextRoomFrame_24 h (fun h => ?_)
  refine z_istore_n hx hn (lv' := [(1, .int (zi (σ 57 (σ 54 5)))), (0, .ref (z_ad (z_g C) 54))]) dX3_nextRoomFrame_25 (by decide) rfl ?_
  refine z_aload_n hx 1 dX3_nextRoomFrame_26 rfl ?_
  refine z_dup hx dX3_nextRoomFrame_27 rfl ?_
  refine gf_X3_roomPlace hx wf_X3_28 dX3_nextRoomFrame_28 ?_
  refine z_iconst hx (n := 1) dX3_nextRoomFrame_31 ?_
  refine z_iadd hx dX3_nextRoomFrame_32 ?_
  refine pf_X3_roomPlace hx wf_X3_28 dX3_nextRoomFrame_33 h (fun σ1 h => ?_)
  refine z_iload_n hx 0 dX3_nextRoomFrame_36 rfl ?_
  cases h
  exact z_iret hx hq dX3_nextRoomFrame_37

theorem w_X3_nextRoomFrame {C : zC} (hx : z_ok C cX3_nextRoomFrame RX3 0) (hn : z_nL C = 2) (hR : z_R C = rm_X3_nextRoomFrame) {rr : Int × zS} (hq : z_fin C (some .int) (z_QI (z_g C) rr.1 rr.2)) (σ : zS) (h : f_X3_nextRoomFrame σ = some rr) : z_W C σ 0 [(0, .ref (z_ad (z_g C) 54))] [] := by
  unfold f_X3_nextRoomFrame at h
  refine z_aload_n hx 0 dX3_nextRoomFrame_0 rfl ?_
  refine gf_X3_roomPlace hx wf_X3_28 dX3_nextRoomFrame_1 ?_
  refine z_aload_n hx 0 dX3_nextRoomFrame_4 rfl ?_
  refine gf_X3_roomFrames hx wf_X3_25 dX3_nextRoomFrame_5 ?_
  refine z_icmp_lt hx (tgt := 16) dX3_nextRoomFrame_8 (by decide) h (fun h => h) (fun hc h => ?_) (fun hc h => ?_)
  · refine z_sub [0] rfl ?_
    exact w_X3_nextRoomFrame_b16 hx hn hR hq σ h
  · refine z_aload_n hx 0 dX3_nextRoomFrame_11 rfl ?_
    refine z_iconst hx (n := 0) dX3_nextRoomFrame_12 ?_
    refine pf_X3_roomPlace hx wf_X3_28 dX3_nextRoomFrame_13 h (fun σ1 h => ?_)
    refine z_sub [0] rfl ?_
    exact w_X3_nextRoomFrame_b16 hx hn hR hq σ1 h

theorem met_X3_nextRoomFrame (l : Launch) (g : zG) (hg : g.1 = 0) {σ : zS} {rr : Int × zS} (h : f_X3_nextRoomFrame σ = some rr) : z_Met l yX3_nextRoomFrame cX3_nextRoomFrame 2 (some .int) rm_X3_nextRoomFrame g [.ref (z_ad (g) 54)] σ (z_QI g rr.1 rr.2) := by
  refine z_enter (own := RX3) (sd := 0) (lv0 := [(0, .ref (z_ad (g) 54))]) (by decide) rfl (Nat.le_of_ble_eq_true rfl) hg rfl (fun C hx hl hgC hR hn hq => ?_)
  subst hgC
  refine z_sub [0] rfl ?_
  exact w_X3_nextRoomFrame hx hn hR hq σ h
theorem dX3_addPause_0 : decode cX3_addPause 0 = .ok (.iconst 0, 1) := by decide +kernel
theorem dX3_addPause_1 : decode cX3_addPause 1 = .ok (.istore_n 3, 1) := by decide +kernel
theorem dX3_addPause_2 : decode cX3_addPause 2 = .ok (.iload_n 3, 1) := by decide +kernel
theorem dX3_addPause_3 : decode cX3_addPause 3 = .ok (.iload_n 2, 1) := by decide +kernel
theorem dX3_addPause_4 : decode cX3_addPause 4 = .ok (.if_icmp .ge 49, 3) := by decide +kernel
theorem dX3_addPause_7 : decode cX3_addPause 7 = .ok (.aload_n 0, 1) := by decide +kernel
theorem dX3_addPause_8 : decode cX3_addPause 8 = .ok (.getfield 25, 3) := by decide +kernel
theorem dX3_addPause_11 : decode cX3_addPause 11 = .ok (.ifCond .ne 14, 3) := by decide +kernel
theorem dX3_addPause_14 : decode cX3_addPause 14 = .ok (.aload_n 0, 1) := by decide +kernel
theorem dX3_addPause_15 : decode cX3_addPause 15 = .ok (.sipush 2000, 3) := by decide +kernel
theorem dX3_addPause_18 : decode cX3_addPause 18 = .ok (.iconst 0, 1) := by decide +kernel
theorem dX3_addPause_19 : decode cX3_addPause 19 = .ok (.invokevirtual 86, 3) := by decide +kernel
theorem dX3_addPause_22 : decode cX3_addPause 22 = .ok (.goto 25, 3) := by decide +kernel
theorem dX3_addPause_25 : decode cX3_addPause 25 = .ok (.aload_n 0, 1) := by decide +kernel
theorem dX3_addPause_26 : decode cX3_addPause 26 = .ok (.invokevirtual 89, 3) := by decide +kernel
theorem dX3_addPause_29 : decode cX3_addPause 29 = .ok (.istore 4, 2) := by decide +kernel
theorem dX3_addPause_31 : decode cX3_addPause 31 = .ok (.aload_n 0, 1) := by decide +kernel
theorem dX3_addPause_32 : decode cX3_addPause 32 = .ok (.sipush 1000, 3) := by decide +kernel
theorem dX3_addPause_35 : decode cX3_addPause 35 = .ok (.iload 4, 2) := by decide +kernel
theorem dX3_addPause_37 : decode cX3_addPause 37 = .ok (.iadd, 1) := by decide +kernel
theorem dX3_addPause_38 : decode cX3_addPause 38 = .ok (.aload_n 1, 1) := by decide +kernel
theorem dX3_addPause_39 : decode cX3_addPause 39 = .ok (.iload 4, 2) := by decide +kernel
theorem dX3_addPause_41 : decode cX3_addPause 41 = .ok (.invokevirtual 82, 3) := by decide +kernel
theorem dX3_addPause_44 : decode cX3_addPause 44 = .ok (.invokevirtual 86, 3) := by decide +kernel
theorem dX3_addPause_47 : decode cX3_addPause 47 = .ok (.iinc 3 1, 3) := by decide +kernel
theorem dX3_addPause_50 : decode cX3_addPause 50 = .ok (.goto (-48), 3) := by decide +kernel
theorem dX3_addPause_53 : decode cX3_addPause 53 = .ok (.return_, 1) := by decide +kernel
abbrev rm_X3_addPause : Room := { frames := 1, cells := 0, slots := 0, locals := 22 }
theorem w_X3_addPause_b47 {C : zC} (hx : z_ok C cX3_addPause RX3 0) (hn : z_nL C = 5) (hR : z_R C = rm_X3_addPause) {rr : Unit × zS} (hq : z_fin C none (z_QV (z_g C) rr.2)) {K2 : zS → Int → Int → Option (Unit × zS)} (hK2 : ∀ (σ : zS) (x2 : Int) (x3 : Int) , K2 σ x2 x3 = some rr → z_W C σ 2 [(0, .ref (z_ad (z_g C) 54)), (1, .ref (z_ad (z_g C) 0)), (2, .int (zi x2)), (3, .int (zi x3))] []) (σ : zS) (x2 : Int) (x3 : Int) (h : f_X3_addPause_b47 K2 σ x2 x3 = some rr) : z_W C σ 47 [(0, .ref (z_ad (z_g C) 54)), (1, .ref (z_ad (z_g C) 0)), (2, .int (zi x2)), (3, .int (zi x3))] [] := by
  unfold f_X3_addPause_b47 at h
  refine z_iinc hx hn 3 (lv' := [(3, .int (zi (x3 + 1))), (0, .ref (z_ad (z_g C) 54)), (1, .ref (z_ad (z_g C) 0)), (2, .int (zi x2))]) dX3_addPause_47 rfl (by decide) rfl ?_
  refine z_goto hx (tgt := 2) dX3_addPause_50 (by decide) ?_
  refine z_sub [1, 2, 3, 0] rfl ?_
  exact hK2 σ x2 (x3 + 1) h

theorem w_X3_addPause_b2 {C : zC} (hx : z_ok C cX3_addPause RX3 0) (hn : z_nL C = 5) (hR : z_R C = rm_X3_addPause) {rr : Unit × zS} (hq : z_fin C none (z_QV (z_g C) rr.2)) {K2 : zS → Int → Int → Option (Unit × zS)} (hK2 : ∀ (σ : zS) (x2 : Int) (x3 : Int) , K2 σ x2 x3 = some rr → z_W C σ 2 [(0, .ref (z_ad (z_g C) 54)), (1, .ref (z_ad (z_g C) 0)), (2, .int (zi x2)), (3, .int (zi x3))] []) (σ : zS) (x2 : Int) (x3 : Int) (h : f_X3_addPause_b2 K2 σ x2 x3 = some rr) : z_W C σ 2 [(0, .ref (z_ad (z_g C) 54)), (1, .ref (z_ad (z_g C) 0)), (2, .int (zi x2)), (3, .int (zi x3))] [] := by
  unfold f_X3_addPause_b2 at h
  refine z_iload_n hx 3 dX3_addPause_2 rfl ?_
  refine z_iload_n hx 2 dX3_addPause_3 rfl ?_
  refine z_icmp_ge hx (tgt := 53) dX3_addPause_4 (by decide) h (fun h => h) (fun hc h => ?_) (fun hc h => ?_)
  · cases h
    exact z_vret hx hq dX3_addPause_53
  · refine z_aload_n hx 0 dX3_addPause_7 rfl ?_
    refine gf_X3_roomFrames hx wf_X3_25 dX3_addPause_8 ?_
    refine z_if_ne hx (tgt := 25) dX3_addPause_11 (by decide) h (fun h => h) (fun hc h => ?_) (fun hc h => ?_)
    · refine z_aload_n hx 0 dX3_addPause_25 rfl ?_
      obtain ⟨r2, σ1, h26, h⟩ := z_bind_some h
      refine z_calli hx (As := []) (k := 54) (met_X3_nextRoomFrame (z_l C) (z_g C) (z_ok_sd hx) h26) (z_lt0 (z_ok_sd hx) (by decide)) (z_kb54 (z_ok_sd hx) _) rfl rfl cv_X3_89 (z_room hR ⟨Nat.le_of_ble_eq_true rfl, Nat.le_of_ble_eq_true rfl⟩) ⟨rfl, rfl⟩ rfl rfl (Nat.le_of_ble_eq_true rfl) dX3_addPause_26 ?_
      refine z_istore hx hn (lv' := [(4, .int (zi r2)), (0, .ref (z_ad (z_g C) 54)), (1, .ref (z_ad (z_g C) 0)), (2, .int (zi x2)), (3, .int (zi x3))]) dX3_addPause_29 (by decide) rfl ?_
      refine z_aload_n hx 1 dX3_addPause_31 rfl ?_
      refine z_sipush hx (n := 1000) dX3_addPause_32 rfl ?_
      refine z_iload hx 0 dX3_addPause_35 rfl ?_
      refine z_iadd hx dX3_addPause_37 ?_
      refine z_aload_n hx 2 dX3_addPause_38 rfl ?_
      refine z_iload hx 0 dX3_addPause_39 rfl ?_
      obtain ⟨r4, σ3, h41, h⟩ := z_bind_some h
      refine z_calli hx (As := [.int (zi r2)]) (k := 0) (met_X2_levelAt (z_l C) (z_g C) (z_ok_sd hx) (show 0 < 6 by decide) h41) (z_lt0 (z_ok_sd hx) (by decide)) (z_ka0 (z_ok_sd hx) (show 0 < 6 by decide) _) rfl rfl cv_X3_82 (z_room hR ⟨Nat.le_of_ble_eq_true rfl, Nat.le_of_ble_eq_true rfl⟩) ⟨rfl, rfl⟩ rfl rfl (Nat.le_of_ble_eq_true rfl) dX3_addPause_41 ?_
      obtain ⟨⟨⟩, σ5, h44, h⟩ := z_bind_some h
      refine z_callv hx (As := [.int (zi (1000 + r2)), .int (zi r4)]) (k := 54) (met_X3_add (z_l C) (z_g C) (z_ok_sd hx) h44) (z_lt0 (z_ok_sd hx) (by decide)) (z_kb54 (z_ok_sd hx) _) rfl rfl cv_X3_86 (z_room hR ⟨Nat.le_of_ble_eq_true rfl, Nat.le_of_ble_eq_true rfl⟩) ⟨rfl, rfl⟩ rfl rfl (Nat.le_of_ble_eq_true rfl) dX3_addPause_44 ?_
      refine z_sub [1, 2, 3, 4] rfl ?_
      exact w_X3_addPause_b47 hx hn hR hq hK2 σ5 x2 x3 h
    · refine z_aload_n hx 0 dX3_addPause_14 rfl ?_
      refine z_sipush hx (n := 2000) dX3_addPause_15 rfl ?_
      refine z_iconst hx (n := 0) dX3_addPause_18 ?_
      obtain ⟨⟨⟩, σ6, h19, h⟩ := z_bind_some h
      refine z_callv hx (As := [.int (zi 2000), .int (zi 0)]) (k := 54) (met_X3_add (z_l C) (z_g C) (z_ok_sd hx) h19) (z_lt0 (z_ok_sd hx) (by decide)) (z_kb54 (z_ok_sd hx) _) rfl rfl cv_X3_86 (z_room hR ⟨Nat.le_of_ble_eq_true rfl, Nat.le_of_ble_eq_true rfl⟩) ⟨rfl, rfl⟩ rfl rfl (Nat.le_of_ble_eq_true rfl) dX3_addPause_19 ?_
      refine z_goto hx (tgt := 47) dX3_addPause_22 (by decide) ?_
      refine z_sub [0, 1, 2, 3] rfl ?_
      exact w_X3_addPause_b47 hx hn hR hq hK2 σ6 x2 x3 h

theorem w_X3_addPause_l2 {C : zC} (hx : z_ok C cX3_addPause RX3 0) (hn : z_nL C = 5) (hR : z_R C = rm_X3_addPause) {rr : Unit × zS} (hq : z_fin C none (z_QV (z_g C) rr.2)) : ∀ (n : Nat) (σ : zS) (x2 : Int) (x3 : Int) (_ : f_X3_addPause_l2 n σ x2 x3 = some rr), z_W C σ 2 [(0, .ref (z_ad (z_g C) 54)), (1, .ref (z_ad (z_g C) 0)), (2, .int (zi x2)), (3, .int (zi x3))] [] := by
  intro n
  induction n with
  | zero => intro σ x2 x3 h; cases h
  | succ n ih =>
    intro σ x2 x3 h
    exact w_X3_addPause_b2 hx hn hR hq ih σ x2 x3 h
theorem w_X3_addPause {C : zC} (hx : z_ok C cX3_addPause RX3 0) (hn : z_nL C = 5) (hR : z_R C = rm_X3_addPause) {rr : Unit × zS} (hq : z_fin C none (z_QV (z_g C) rr.2)) (σ : zS) (x2 : Int) (h : f_X3_addPause σ x2 = some rr) : z_W C σ 0 [(0, .ref (z_ad (z_g C) 54)), (1, .ref (z_ad (z_g C) 0)), (2, .int (zi x2))] [] := by
  unfold f_X3_addPause at h
  refine z_iconst hx (n := 0) dX3_addPause_0 ?_
  refine z_istore_n hx hn (lv' := [(3, .int (zi 0)), (0, .ref (z_ad (z_g C) 54)), (1, .ref (z_ad (z_g C) 0)), (2, .int (zi x2))]) dX3_addPause_1 (by decide) rfl ?_
  refine z_sub [1, 2, 3, 0] rfl ?_
  exact w_X3_addPause_l2 hx hn hR hq z_fuel σ x2 0 h

theorem met_X3_addPause (l : Launch) (g : zG) (hg : g.1 = 0) {σ : zS} {x2 : Int} {rr : Unit × zS} (h : f_X3_addPause σ x2 = some rr) : z_Met l yX3_addPause cX3_addPause 5 none rm_X3_addPause g [.ref (z_ad (g) 54), .ref (z_ad (g) 0), .int (zi x2)] σ (z_QV g rr.2) := by
  refine z_enter (own := RX3) (sd := 0) (lv0 := [(0, .ref (z_ad (g) 54)), (1, .ref (z_ad (g) 0)), (2, .int (zi x2))]) (by decide) rfl (Nat.le_of_ble_eq_true rfl) hg rfl (fun C hx hl hgC hR hn hq => ?_)
  subst hgC
  refine z_sub [0, 1, 2] rfl ?_
  exact w_X3_addPause hx hn hR hq σ x2 h
theorem dX3_build_0 : decode cX3_build 0 = .ok (.aload_n 0, 1) := by decide +kernel
theorem dX3_build_1 : decode cX3_build 1 = .ok (.iconst 0, 1) := by decide +kernel
theorem dX3_build_2 : decode cX3_build 2 = .ok (.putfield 18, 3) := by decide +kernel
theorem dX3_build_5 : decode cX3_build 5 = .ok (.aload_n 0, 1) := by decide +kernel
theorem dX3_build_6 : decode cX3_build 6 = .ok (.aload_n 1, 1) := by decide +kernel
theorem dX3_build_7 : decode cX3_build 7 = .ok (.invokevirtual 35, 3) := by decide +kernel
theorem dX3_build_10 : decode cX3_build 10 = .ok (.iconst 0, 1) := by decide +kernel
theorem dX3_build_11 : decode cX3_build 11 = .ok (.istore_n 3, 1) := by decide +kernel
theorem dX3_build_12 : decode cX3_build 12 = .ok (.iconst 0, 1) := by decide +kernel
theorem dX3_build_13 : decode cX3_build 13 = .ok (.istore 4, 2) := by decide +kernel
theorem dX3_build_15 : decode cX3_build 15 = .ok (.iload 4, 2) := by decide +kernel
theorem dX3_build_17 : decode cX3_build 17 = .ok (.aload_n 2, 1) := by decide +kernel
theorem dX3_build_18 : decode cX3_build 18 = .ok (.getfield 39, 3) := by decide +kernel
theorem dX3_build_21 : decode cX3_build 21 = .ok (.if_icmp .ge 42, 3) := by decide +kernel
theorem dX3_build_24 : decode cX3_build 24 = .ok (.aload_n 0, 1) := by decide +kernel
theorem dX3_build_25 : decode cX3_build 25 = .ok (.aload_n 1, 1) := by decide +kernel
theorem dX3_build_26 : decode cX3_build 26 = .ok (.iload_n 3, 1) := by decide +kernel
theorem dX3_build_27 : decode cX3_build 27 = .ok (.aload_n 2, 1) := by decide +kernel
theorem dX3_build_28 : decode cX3_build 28 = .ok (.getfield 42, 3) := by decide +kernel
theorem dX3_build_31 : decode cX3_build 31 = .ok (.iload 4, 2) := by decide +kernel
theorem dX3_build_33 : decode cX3_build 33 = .ok (.iaload, 1) := by decide +kernel
theorem dX3_build_34 : decode cX3_build 34 = .ok (.invokevirtual 45, 3) := by decide +kernel
theorem dX3_build_37 : decode cX3_build 37 = .ok (.aload_n 0, 1) := by decide +kernel
theorem dX3_build_38 : decode cX3_build 38 = .ok (.aload_n 1, 1) := by decide +kernel
theorem dX3_build_39 : decode cX3_build 39 = .ok (.aload_n 2, 1) := by decide +kernel
theorem dX3_build_40 : decode cX3_build 40 = .ok (.getfield 49, 3) := by decide +kernel
theorem dX3_build_43 : decode cX3_build 43 = .ok (.iload 4, 2) := by decide +kernel
theorem dX3_build_45 : decode cX3_build 45 = .ok (.iaload, 1) := by decide +kernel
theorem dX3_build_46 : decode cX3_build 46 = .ok (.invokevirtual 52, 3) := by decide +kernel
theorem dX3_build_49 : decode cX3_build 49 = .ok (.aload_n 2, 1) := by decide +kernel
theorem dX3_build_50 : decode cX3_build 50 = .ok (.getfield 56, 3) := by decide +kernel
theorem dX3_build_53 : decode cX3_build 53 = .ok (.iload 4, 2) := by decide +kernel
theorem dX3_build_55 : decode cX3_build 55 = .ok (.iaload, 1) := by decide +kernel
theorem dX3_build_56 : decode cX3_build 56 = .ok (.istore_n 3, 1) := by decide +kernel
theorem dX3_build_57 : decode cX3_build 57 = .ok (.iinc 4 1, 3) := by decide +kernel
theorem dX3_build_60 : decode cX3_build 60 = .ok (.goto (-45), 3) := by decide +kernel
theorem dX3_build_63 : decode cX3_build 63 = .ok (.aload_n 0, 1) := by decide +kernel
theorem dX3_build_64 : decode cX3_build 64 = .ok (.aload_n 1, 1) := by decide +kernel
theorem dX3_build_65 : decode cX3_build 65 = .ok (.iload_n 3, 1) := by decide +kernel
theorem dX3_build_66 : decode cX3_build 66 = .ok (.aload_n 1, 1) := by decide +kernel
theorem dX3_build_67 : decode cX3_build 67 = .ok (.getfield 59, 3) := by decide +kernel
theorem dX3_build_70 : decode cX3_build 70 = .ok (.invokevirtual 45, 3) := by decide +kernel
theorem dX3_build_73 : decode cX3_build 73 = .ok (.return_, 1) := by decide +kernel
abbrev rm_X3_build : Room := { frames := 2, cells := 0, slots := 0, locals := 47 }
theorem w_X3_build_b15 {C : zC} (hx : z_ok C cX3_build RX3 0) (hn : z_nL C = 5) (hR : z_R C = rm_X3_build) {rr : Unit × zS} (hq : z_fin C none (z_QV (z_g C) rr.2)) {K15 : zS → Int → Int → Option (Unit × zS)} (hK15 : ∀ (σ : zS) (x3 : Int) (x4 : Int) , K15 σ x3 x4 = some rr → z_W C σ 15 [(0, .ref (z_ad (z_g C) 54)), (1, .ref (z_ad (z_g C) 0)), (2, .ref (z_ad (z_g C) 48)), (3, .int (zi x3)), (4, .int (zi x4))] []) (σ : zS) (x3 : Int) (x4 : Int) (h : f_X3_build_b15 K15 σ x3 x4 = some rr) : z_W C σ 15 [(0, .ref (z_ad (z_g C) 54)), (1, .ref (z_ad (z_g C) 0)), (2, .ref (z_ad (z_g C) 48)), (3, .int (zi x3)), (4, .int (zi x4))] [] := by
  unfold f_X3_build_b15 at h
  refine z_iload hx 4 dX3_build_15 rfl ?_
  refine z_aload_n hx 2 dX3_build_17 rfl ?_
  refine gf_X0_count hx wf_X3_39 dX3_build_18 ?_
  refine z_icmp_ge hx (tgt := 63) dX3_build_21 (by decide) h (fun h => h) (fun hc h => ?_) (fun hc h => ?_)
  · refine z_aload_n hx 0 dX3_build_63 rfl ?_
    refine z_aload_n hx 1 dX3_build_64 rfl ?_
    refine z_iload_n hx 3 dX3_build_65 rfl ?_
    refine z_aload_n hx 1 dX3_build_66 rfl ?_
    refine gf_X2_frames hx wf_X3_59 (show 0 < 6 by decide) dX3_build_67 ?_
    obtain ⟨⟨⟩, σ1, h70, h⟩ := z_bind_some h
    refine z_callv hx (As := [.ref (z_ad (z_g C) 0), .int (zi x3), .int (zi (σ 0 1))]) (k := 54) (met_X3_addRecorded (z_l C) (z_g C) (z_ok_sd hx) h70) (z_lt0 (z_ok_sd hx) (by decide)) (z_kb54 (z_ok_sd hx) _) rfl rfl cv_X3_45 (z_room hR ⟨Nat.le_of_ble_eq_true rfl, Nat.le_of_ble_eq_true rfl⟩) ⟨rfl, rfl⟩ rfl rfl (Nat.le_of_ble_eq_true rfl) dX3_build_70 ?_
    cases h
    exact z_vret hx hq dX3_build_73
  · refine z_aload_n hx 0 dX3_build_24 rfl ?_
    refine z_aload_n hx 1 dX3_build_25 rfl ?_
    refine z_iload_n hx 3 dX3_build_26 rfl ?_
    refine z_aload_n hx 2 dX3_build_27 rfl ?_
    refine gf_X0_begins hx wf_X3_42 dX3_build_28 ?_
    refine z_iload hx 4 dX3_build_31 rfl ?_
    refine z_iald hx (n := 20) (z_lt0 (z_ok_sd hx) (by decide)) (z_kb49 (z_ok_sd hx) _) rfl (by decide) dX3_build_33 h (fun h => ?_)
    obtain ⟨⟨⟩, σ2, h34, h⟩ := z_bind_some h
    refine z_callv hx (As := [.ref (z_ad (z_g C) 0), .int (zi x3), .int (zi (σ 49 x4))]) (k := 54) (met_X3_addRecorded (z_l C) (z_g C) (z_ok_sd hx) h34) (z_lt0 (z_ok_sd hx) (by decide)) (z_kb54 (z_ok_sd hx) _) rfl rfl cv_X3_45 (z_room hR ⟨Nat.le_of_ble_eq_true rfl, Nat.le_of_ble_eq_true rfl⟩) ⟨rfl, rfl⟩ rfl rfl (Nat.le_of_ble_eq_true rfl) dX3_build_34 ?_
    refine z_aload_n hx 0 dX3_build_37 rfl ?_
    refine z_aload_n hx 1 dX3_build_38 rfl ?_
    refine z_aload_n hx 2 dX3_build_39 rfl ?_
    refine gf_X0_pauses hx wf_X3_49 dX3_build_40 ?_
    refine z_iload hx 4 dX3_build_43 rfl ?_
    refine z_iald hx (n := 20) (z_lt0 (z_ok_sd hx) (by decide)) (z_kb51 (z_ok_sd hx) _) rfl (by decide) dX3_build_45 h (fun h => ?_)
    obtain ⟨⟨⟩, σ3, h46, h⟩ := z_bind_some h
    refine z_callv hx (As := [.ref (z_ad (z_g C) 0), .int (zi (σ2 51 x4))]) (k := 54) (met_X3_addPause (z_l C) (z_g C) (z_ok_sd hx) h46) (z_lt0 (z_ok_sd hx) (by decide)) (z_kb54 (z_ok_sd hx) _) rfl rfl cv_X3_52 (z_room hR ⟨Nat.le_of_ble_eq_true rfl, Nat.le_of_ble_eq_true rfl⟩) ⟨rfl, rfl⟩ rfl rfl (Nat.le_of_ble_eq_true rfl) dX3_build_46 ?_
    refine z_aload_n hx 2 dX3_build_49 rfl ?_
    refine gf_X0_ends hx wf_X3_56 dX3_build_50 ?_
    refine z_iload hx 4 dX3_build_53 rfl ?_
    refine z_iald hx (n := 20) (z_lt0 (z_ok_sd hx) (by decide)) (z_kb50 (z_ok_sd hx) _) rfl (by decide) dX3_build_55 h (fun h => ?_)
    refine z_istore_n hx hn (lv' := [(3, .int (zi (σ3 50 x4))), (0, .ref (z_ad (z_g C) 54)), (1, .ref (z_ad (z_g C) 0)), (2, .ref (z_ad (z_g C) 48)), (4, .int (zi x4))]) dX3_build_56 (by decide) rfl ?_
    refine z_iinc hx hn 4 (lv' := [(4, .int (zi (x4 + 1))), (3, .int (zi (σ3 50 x4))), (0, .ref (z_ad (z_g C) 54)), (1, .ref (z_ad (z_g C) 0)), (2, .ref (z_ad (z_g C) 48))]) dX3_build_57 rfl (by decide) rfl ?_
    refine z_goto hx (tgt := 15) dX3_build_60 (by decide) ?_
    refine z_sub [2, 3, 4, 1, 0] rfl ?_
    exact hK15 σ3 (σ3 50 x4) (x4 + 1) h

theorem w_X3_build_l15 {C : zC} (hx : z_ok C cX3_build RX3 0) (hn : z_nL C = 5) (hR : z_R C = rm_X3_build) {rr : Unit × zS} (hq : z_fin C none (z_QV (z_g C) rr.2)) : ∀ (n : Nat) (σ : zS) (x3 : Int) (x4 : Int) (_ : f_X3_build_l15 n σ x3 x4 = some rr), z_W C σ 15 [(0, .ref (z_ad (z_g C) 54)), (1, .ref (z_ad (z_g C) 0)), (2, .ref (z_ad (z_g C) 48)), (3, .int (zi x3)), (4, .int (zi x4))] [] := by
  intro n
  induction n with
  | zero => intro σ x3 x4 h; cases h
  | succ n ih =>
    intro σ x3 x4 h
    exact w_X3_build_b15 hx hn hR hq ih σ x3 x4 h
theorem w_X3_build {C : zC} (hx : z_ok C cX3_build RX3 0) (hn : z_nL C = 5) (hR : z_R C = rm_X3_build) {rr : Unit × zS} (hq : z_fin C none (z_QV (z_g C) rr.2)) (σ : zS) (h : f_X3_build σ = some rr) : z_W C σ 0 [(0, .ref (z_ad (z_g C) 54)), (1, .ref (z_ad (z_g C) 0)), (2, .ref (z_ad (z_g C) 48))] [] := by
  unfold f_X3_build at h
  refine z_aload_n hx 0 dX3_build_0 rfl ?_
  refine z_iconst hx (n := 0) dX3_build_1 ?_
  refine pf_X3_count hx wf_X3_18 dX3_build_2 h (fun σ1 h => ?_)
  refine z_aload_n hx 0 dX3_build_5 rfl ?_
  refine z_aload_n hx 1 dX3_build_6 rfl ?_
  obtain ⟨⟨⟩, σ2, h7, h⟩ := z_bind_some h
  refine z_callv hx (As := [.ref (z_ad (z_g C) 0)]) (k := 54) (met_X3_gatherRoomAndNoise (z_l C) (z_g C) (z_ok_sd hx) h7) (z_lt0 (z_ok_sd hx) (by decide)) (z_kb54 (z_ok_sd hx) _) rfl rfl cv_X3_35 (z_room hR ⟨Nat.le_of_ble_eq_true rfl, Nat.le_of_ble_eq_true rfl⟩) ⟨rfl, rfl⟩ rfl rfl (Nat.le_of_ble_eq_true rfl) dX3_build_7 ?_
  refine z_iconst hx (n := 0) dX3_build_10 ?_
  refine z_istore_n hx hn (lv' := [(3, .int (zi 0)), (0, .ref (z_ad (z_g C) 54)), (1, .ref (z_ad (z_g C) 0)), (2, .ref (z_ad (z_g C) 48))]) dX3_build_11 (by decide) rfl ?_
  refine z_iconst hx (n := 0) dX3_build_12 ?_
  refine z_istore hx hn (lv' := [(4, .int (zi 0)), (3, .int (zi 0)), (0, .ref (z_ad (z_g C) 54)), (1, .ref (z_ad (z_g C) 0)), (2, .ref (z_ad (z_g C) 48))]) dX3_build_13 (by decide) rfl ?_
  refine z_sub [2, 3, 4, 1, 0] rfl ?_
  exact w_X3_build_l15 hx hn hR hq z_fuel σ2 0 0 h

theorem met_X3_build (l : Launch) (g : zG) (hg : g.1 = 0) {σ : zS} {rr : Unit × zS} (h : f_X3_build σ = some rr) : z_Met l yX3_build cX3_build 5 none rm_X3_build g [.ref (z_ad (g) 54), .ref (z_ad (g) 0), .ref (z_ad (g) 48)] σ (z_QV g rr.2) := by
  refine z_enter (own := RX3) (sd := 0) (lv0 := [(0, .ref (z_ad (g) 54)), (1, .ref (z_ad (g) 0)), (2, .ref (z_ad (g) 48))]) (by decide) rfl (Nat.le_of_ble_eq_true rfl) hg rfl (fun C hx hl hgC hR hn hq => ?_)
  subst hgC
  refine z_sub [0, 1, 2] rfl ?_
  exact w_X3_build hx hn hR hq σ h
theorem dX3_placeOfSource_0 : decode cX3_placeOfSource 0 = .ok (.iconst 0, 1) := by decide +kernel
theorem dX3_placeOfSource_1 : decode cX3_placeOfSource 1 = .ok (.istore_n 2, 1) := by decide +kernel
theorem dX3_placeOfSource_2 : decode cX3_placeOfSource 2 = .ok (.iload_n 2, 1) := by decide +kernel
theorem dX3_placeOfSource_3 : decode cX3_placeOfSource 3 = .ok (.aload_n 0, 1) := by decide +kernel
theorem dX3_placeOfSource_4 : decode cX3_placeOfSource 4 = .ok (.getfield 18, 3) := by decide +kernel
theorem dX3_placeOfSource_7 : decode cX3_placeOfSource 7 = .ok (.if_icmp .ge 21, 3) := by decide +kernel
theorem dX3_placeOfSource_10 : decode cX3_placeOfSource 10 = .ok (.aload_n 0, 1) := by decide +kernel
theorem dX3_placeOfSource_11 : decode cX3_placeOfSource 11 = .ok (.getfield 9, 3) := by decide +kernel
theorem dX3_placeOfSource_14 : decode cX3_placeOfSource 14 = .ok (.iload_n 2, 1) := by decide +kernel
theorem dX3_placeOfSource_15 : decode cX3_placeOfSource 15 = .ok (.iaload, 1) := by decide +kernel
theorem dX3_placeOfSource_16 : decode cX3_placeOfSource 16 = .ok (.iload_n 1, 1) := by decide +kernel
theorem dX3_placeOfSource_17 : decode cX3_placeOfSource 17 = .ok (.if_icmp .ne 5, 3) := by decide +kernel
theorem dX3_placeOfSource_20 : decode cX3_placeOfSource 20 = .ok (.iload_n 2, 1) := by decide +kernel
theorem dX3_placeOfSource_21 : decode cX3_placeOfSource 21 = .ok (.ireturn, 1) := by decide +kernel
theorem dX3_placeOfSource_22 : decode cX3_placeOfSource 22 = .ok (.iinc 2 1, 3) := by decide +kernel
theorem dX3_placeOfSource_25 : decode cX3_placeOfSource 25 = .ok (.goto (-23), 3) := by decide +kernel
theorem dX3_placeOfSource_28 : decode cX3_placeOfSource 28 = .ok (.bipush (-9), 2) := by decide +kernel
theorem dX3_placeOfSource_30 : decode cX3_placeOfSource 30 = .ok (.ireturn, 1) := by decide +kernel
abbrev rm_X3_placeOfSource : Room := { frames := 0, cells := 0, slots := 0, locals := 0 }
theorem w_X3_placeOfSource_b2 {C : zC} (hx : z_ok C cX3_placeOfSource RX3 0) (hn : z_nL C = 3) (hR : z_R C = rm_X3_placeOfSource) {rr : Int × zS} (hq : z_fin C (some .int) (z_QI (z_g C) rr.1 rr.2)) {K2 : zS → Int → Int → Option (Int × zS)} (hK2 : ∀ (σ : zS) (x1 : Int) (x2 : Int) , K2 σ x1 x2 = some rr → z_W C σ 2 [(0, .ref (z_ad (z_g C) 54)), (1, .int (zi x1)), (2, .int (zi x2))] []) (σ : zS) (x1 : Int) (x2 : Int) (h : f_X3_placeOfSource_b2 K2 σ x1 x2 = some rr) : z_W C σ 2 [(0, .ref (z_ad (z_g C) 54)), (1, .int (zi x1)), (2, .int (zi x2))] [] := by
  unfold f_X3_placeOfSource_b2 at h
  refine z_iload_n hx 2 dX3_placeOfSource_2 rfl ?_
  refine z_aload_n hx 0 dX3_placeOfSource_3 rfl ?_
  refine gf_X3_count hx wf_X3_18 dX3_placeOfSource_4 ?_
  refine z_icmp_ge hx (tgt := 28) dX3_placeOfSource_7 (by decide) h (fun h => h) (fun hc h => ?_) (fun hc h => ?_)
  · refine z_bipush hx (n := (-9)) dX3_placeOfSource_28 rfl ?_
    cases h
    exact z_iret hx hq dX3_placeOfSource_30
  · refine z_aload_n hx 0 dX3_placeOfSource_10 rfl ?_
    refine gf_X3_sources hx wf_X3_9 dX3_placeOfSource_11 ?_
    refine z_iload_n hx 2 dX3_placeOfSource_14 rfl ?_
    refine z_iald hx (n := 200) (z_lt0 (z_ok_sd hx) (by decide)) (z_kb55 (z_ok_sd hx) _) rfl (by decide) dX3_placeOfSource_15 h (fun h => ?_)
    refine z_iload_n hx 1 dX3_placeOfSource_16 rfl ?_
    refine z_icmp_ne hx (tgt := 22) dX3_placeOfSource_17 (by decide) h (fun h => h) (fun hc h => ?_) (fun hc h => ?_)
    · refine z_iinc hx hn 2 (lv' := [(2, .int (zi (x2 + 1))), (0, .ref (z_ad (z_g C) 54)), (1, .int (zi x1))]) dX3_placeOfSource_22 rfl (by decide) rfl ?_
      refine z_goto hx (tgt := 2) dX3_placeOfSource_25 (by decide) ?_
      refine z_sub [1, 2, 0] rfl ?_
      exact hK2 σ x1 (x2 + 1) h
    · refine z_iload_n hx 2 dX3_placeOfSource_20 rfl ?_
      cases h
      exact z_iret hx hq dX3_placeOfSource_21

theorem w_X3_placeOfSource_l2 {C : zC} (hx : z_ok C cX3_placeOfSource RX3 0) (hn : z_nL C = 3) (hR : z_R C = rm_X3_placeOfSource) {rr : Int × zS} (hq : z_fin C (some .int) (z_QI (z_g C) rr.1 rr.2)) : ∀ (n : Nat) (σ : zS) (x1 : Int) (x2 : Int) (_ : f_X3_placeOfSource_l2 n σ x1 x2 = some rr), z_W C σ 2 [(0, .ref (z_ad (z_g C) 54)), (1, .int (zi x1)), (2, .int (zi x2))] [] := by
  intro n
  induction n with
  | zero => intro σ x1 x2 h; cases h
  | succ n ih =>
    intro σ x1 x2 h
    exact w_X3_placeOfSource_b2 hx hn hR hq ih σ x1 x2 h
theorem w_X3_placeOfSource {C : zC} (hx : z_ok C cX3_placeOfSource RX3 0) (hn : z_nL C = 3) (hR : z_R C = rm_X3_placeOfSource) {rr : Int × zS} (hq : z_fin C (some .int) (z_QI (z_g C) rr.1 rr.2)) (σ : zS) (x1 : Int) (h : f_X3_placeOfSource σ x1 = some rr) : z_W C σ 0 [(0, .ref (z_ad (z_g C) 54)), (1, .int (zi x1))] [] := by
  unfold f_X3_placeOfSource at h
  refine z_iconst hx (n := 0) dX3_placeOfSource_0 ?_
  refine z_istore_n hx hn (lv' := [(2, .int (zi 0)), (0, .ref (z_ad (z_g C) 54)), (1, .int (zi x1))]) dX3_placeOfSource_1 (by decide) rfl ?_
  refine z_sub [1, 2, 0] rfl ?_
  exact w_X3_placeOfSource_l2 hx hn hR hq z_fuel σ x1 0 h

theorem met_X3_placeOfSource (l : Launch) (g : zG) (hg : g.1 = 0) {σ : zS} {x1 : Int} {rr : Int × zS} (h : f_X3_placeOfSource σ x1 = some rr) : z_Met l yX3_placeOfSource cX3_placeOfSource 3 (some .int) rm_X3_placeOfSource g [.ref (z_ad (g) 54), .int (zi x1)] σ (z_QI g rr.1 rr.2) := by
  refine z_enter (own := RX3) (sd := 0) (lv0 := [(0, .ref (z_ad (g) 54)), (1, .int (zi x1))]) (by decide) rfl (Nat.le_of_ble_eq_true rfl) hg rfl (fun C hx hl hgC hR hn hq => ?_)
  subst hgC
  refine z_sub [0, 1] rfl ?_
  exact w_X3_placeOfSource hx hn hR hq σ x1 h
theorem dX3_stepsGreaterThan_0 : decode cX3_stepsGreaterThan 0 = .ok (.iconst 0, 1) := by decide +kernel
theorem dX3_stepsGreaterThan_1 : decode cX3_stepsGreaterThan 1 = .ok (.istore_n 2, 1) := by decide +kernel
theorem dX3_stepsGreaterThan_2 : decode cX3_stepsGreaterThan 2 = .ok (.iconst 1, 1) := by decide +kernel
theorem dX3_stepsGreaterThan_3 : decode cX3_stepsGreaterThan 3 = .ok (.istore_n 3, 1) := by decide +kernel
theorem dX3_stepsGreaterThan_4 : decode cX3_stepsGreaterThan 4 = .ok (.iload_n 3, 1) := by decide +kernel
theorem dX3_stepsGreaterThan_5 : decode cX3_stepsGreaterThan 5 = .ok (.aload_n 0, 1) := by decide +kernel
theorem dX3_stepsGreaterThan_6 : decode cX3_stepsGreaterThan 6 = .ok (.getfield 18, 3) := by decide +kernel
theorem dX3_stepsGreaterThan_9 : decode cX3_stepsGreaterThan 9 = .ok (.if_icmp .ge 34, 3) := by decide +kernel
theorem dX3_stepsGreaterThan_12 : decode cX3_stepsGreaterThan 12 = .ok (.aload_n 0, 1) := by decide +kernel
theorem dX3_stepsGreaterThan_13 : decode cX3_stepsGreaterThan 13 = .ok (.getfield 15, 3) := by decide +kernel
theorem dX3_stepsGreaterThan_16 : decode cX3_stepsGreaterThan 16 = .ok (.iload_n 3, 1) := by decide +kernel
theorem dX3_stepsGreaterThan_17 : decode cX3_stepsGreaterThan 17 = .ok (.iaload, 1) := by decide +kernel
theorem dX3_stepsGreaterThan_18 : decode cX3_stepsGreaterThan 18 = .ok (.aload_n 0, 1) := by decide +kernel
theorem dX3_stepsGreaterThan_19 : decode cX3_stepsGreaterThan 19 = .ok (.getfield 15, 3) := by decide +kernel
theorem dX3_stepsGreaterThan_22 : decode cX3_stepsGreaterThan 22 = .ok (.iload_n 3, 1) := by decide +kernel
theorem dX3_stepsGreaterThan_23 : decode cX3_stepsGreaterThan 23 = .ok (.iconst 1, 1) := by decide +kernel
theorem dX3_stepsGreaterThan_24 : decode cX3_stepsGreaterThan 24 = .ok (.isub, 1) := by decide +kernel
theorem dX3_stepsGreaterThan_25 : decode cX3_stepsGreaterThan 25 = .ok (.iaload, 1) := by decide +kernel
theorem dX3_stepsGreaterThan_26 : decode cX3_stepsGreaterThan 26 = .ok (.isub, 1) := by decide +kernel
theorem dX3_stepsGreaterThan_27 : decode cX3_stepsGreaterThan 27 = .ok (.invokestatic 93, 3) := by decide +kernel
theorem dX3_stepsGreaterThan_30 : decode cX3_stepsGreaterThan 30 = .ok (.iload_n 1, 1) := by decide +kernel
theorem dX3_stepsGreaterThan_31 : decode cX3_stepsGreaterThan 31 = .ok (.if_icmp .le 6, 3) := by decide +kernel
theorem dX3_stepsGreaterThan_34 : decode cX3_stepsGreaterThan 34 = .ok (.iinc 2 1, 3) := by decide +kernel
theorem dX3_stepsGreaterThan_37 : decode cX3_stepsGreaterThan 37 = .ok (.iinc 3 1, 3) := by decide +kernel
theorem dX3_stepsGreaterThan_40 : decode cX3_stepsGreaterThan 40 = .ok (.goto (-36), 3) := by decide +kernel
theorem dX3_stepsGreaterThan_43 : decode cX3_stepsGreaterThan 43 = .ok (.iload_n 2, 1) := by decide +kernel
theorem dX3_stepsGreaterThan_44 : decode cX3_stepsGreaterThan 44 = .ok (.ireturn, 1) := by decide +kernel
abbrev rm_X3_stepsGreaterThan : Room := { frames := 1, cells := 0, slots := 0, locals := 21 }
theorem w_X3_stepsGreaterThan_b37 {C : zC} (hx : z_ok C cX3_stepsGreaterThan RX3 0) (hn : z_nL C = 4) (hR : z_R C = rm_X3_stepsGreaterThan) {rr : Int × zS} (hq : z_fin C (some .int) (z_QI (z_g C) rr.1 rr.2)) {K4 : zS → Int → Int → Int → Option (Int × zS)} (hK4 : ∀ (σ : zS) (x1 : Int) (x2 : Int) (x3 : Int) , K4 σ x1 x2 x3 = some rr → z_W C σ 4 [(0, .ref (z_ad (z_g C) 54)), (1, .int (zi x1)), (2, .int (zi x2)), (3, .int (zi x3))] []) (σ : zS) (x1 : Int) (x2 : Int) (x3 : Int) (h : f_X3_stepsGreaterThan_b37 K4 σ x1 x2 x3 = some rr) : z_W C σ 37 [(0, .ref (z_ad (z_g C) 54)), (1, .int (zi x1)), (2, .int (zi x2)), (3, .int (zi x3))] [] := by
  unfold f_X3_stepsGreaterThan_b37 at h
  refine z_iinc hx hn 3 (lv' := [(3, .int (zi (x3 + 1))), (0, .ref (z_ad (z_g C) 54)), (1, .int (zi x1)), (2, .int (zi x2))]) dX3_stepsGreaterThan_37 rfl (by decide) rfl ?_
  refine z_goto hx (tgt := 4) dX3_stepsGreaterThan_40 (by decide) ?_
  refine z_sub [1, 2, 3, 0] rfl ?_
  exact hK4 σ x1 x2 (x3 + 1) h

theorem w_X3_stepsGreaterThan_b4 {C : zC} (hx : z_ok C cX3_stepsGreaterThan RX3 0) (hn : z_nL C = 4) (hR : z_R C = rm_X3_stepsGreaterThan) {rr : Int × zS} (hq : z_fin C (some .int) (z_QI (z_g C) rr.1 rr.2)) {K4 : zS → Int → Int → Int → Option (Int × zS)} (hK4 : ∀ (σ : zS) (x1 : Int) (x2 : Int) (x3 : Int) , K4 σ x1 x2 x3 = some rr → z_W C σ 4 [(0, .ref (z_ad (z_g C) 54)), (1, .int (zi x1)), (2, .int (zi x2)), (3, .int (zi x3))] []) (σ : zS) (x1 : Int) (x2 : Int) (x3 : Int) (h : f_X3_stepsGreaterThan_b4 K4 σ x1 x2 x3 = some rr) : z_W C σ 4 [(0, .ref (z_ad (z_g C) 54)), (1, .int (zi x1)), (2, .int (zi x2)), (3, .int (zi x3))] [] := by
  unfold f_X3_stepsGreaterThan_b4 at h
  refine z_iload_n hx 3 dX3_stepsGreaterThan_4 rfl ?_
  refine z_aload_n hx 0 dX3_stepsGreaterThan_5 rfl ?_
  refine gf_X3_count hx wf_X3_18 dX3_stepsGreaterThan_6 ?_
  refine z_icmp_ge hx (tgt := 43) dX3_stepsGreaterThan_9 (by decide) h (fun h => h) (fun hc h => ?_) (fun hc h => ?_)
  · refine z_iload_n hx 2 dX3_stepsGreaterThan_43 rfl ?_
    cases h
    exact z_iret hx hq dX3_stepsGreaterThan_44
  · refine z_aload_n hx 0 dX3_stepsGreaterThan_12 rfl ?_
    refine gf_X3_levels hx wf_X3_15 dX3_stepsGreaterThan_13 ?_
    refine z_iload_n hx 3 dX3_stepsGreaterThan_16 rfl ?_
    refine z_iald hx (n := 200) (z_lt0 (z_ok_sd hx) (by decide)) (z_kb56 (z_ok_sd hx) _) rfl (by decide) dX3_stepsGreaterThan_17 h (fun h => ?_)
    refine z_aload_n hx 0 dX3_stepsGreaterThan_18 rfl ?_
    refine gf_X3_levels hx wf_X3_15 dX3_stepsGreaterThan_19 ?_
    refine z_iload_n hx 3 dX3_stepsGreaterThan_22 rfl ?_
    refine z_iconst hx (n := 1) dX3_stepsGreaterThan_23 ?_
    refine z_isub hx dX3_stepsGreaterThan_24 ?_
    refine z_iald hx (n := 200) (z_lt0 (z_ok_sd hx) (by decide)) (z_kb56 (z_ok_sd hx) _) rfl (by decide) dX3_stepsGreaterThan_25 h (fun h => ?_)
    refine z_isub hx dX3_stepsGreaterThan_26 ?_
    refine z_abs hx wm_X3_93 wst_J9_abs wi_J9 wc_J9_abs (z_room hR ⟨Nat.le_of_ble_eq_true rfl, Nat.le_of_ble_eq_true rfl⟩) (Nat.le_of_ble_eq_true rfl) dX3_stepsGreaterThan_27 h (fun h => ?_)
    refine z_iload_n hx 1 dX3_stepsGreaterThan_30 rfl ?_
    refine z_icmp_le hx (tgt := 37) dX3_stepsGreaterThan_31 (by decide) h (fun h => h) (fun hc h => ?_) (fun hc h => ?_)
    · refine z_sub [0, 1, 2, 3] rfl ?_
      exact w_X3_stepsGreaterThan_b37 hx hn hR hq hK4 σ x1 x2 x3 h
    · refine z_iinc hx hn 2 (lv' := [(2, .int (zi (x2 + 1))), (0, .ref (z_ad (z_g C) 54)), (1, .int (zi x1)), (3, .int (zi x3))]) dX3_stepsGreaterThan_34 rfl (by decide) rfl ?_
      refine z_sub [1, 2, 0, 3] rfl ?_
      exact w_X3_stepsGreaterThan_b37 hx hn hR hq hK4 σ x1 (x2 + 1) x3 h

theorem w_X3_stepsGreaterThan_l4 {C : zC} (hx : z_ok C cX3_stepsGreaterThan RX3 0) (hn : z_nL C = 4) (hR : z_R C = rm_X3_stepsGreaterThan) {rr : Int × zS} (hq : z_fin C (some .int) (z_QI (z_g C) rr.1 rr.2)) : ∀ (n : Nat) (σ : zS) (x1 : Int) (x2 : Int) (x3 : Int) (_ : f_X3_stepsGreaterThan_l4 n σ x1 x2 x3 = some rr), z_W C σ 4 [(0, .ref (z_ad (z_g C) 54)), (1, .int (zi x1)), (2, .int (zi x2)), (3, .int (zi x3))] [] := by
  intro n
  induction n with
  | zero => intro σ x1 x2 x3 h; cases h
  | succ n ih =>
    intro σ x1 x2 x3 h
    exact w_X3_stepsGreaterThan_b4 hx hn hR hq ih σ x1 x2 x3 h
theorem w_X3_stepsGreaterThan {C : zC} (hx : z_ok C cX3_stepsGreaterThan RX3 0) (hn : z_nL C = 4) (hR : z_R C = rm_X3_stepsGreaterThan) {rr : Int × zS} (hq : z_fin C (some .int) (z_QI (z_g C) rr.1 rr.2)) (σ : zS) (x1 : Int) (h : f_X3_stepsGreaterThan σ x1 = some rr) : z_W C σ 0 [(0, .ref (z_ad (z_g C) 54)), (1, .int (zi x1))] [] := by
  unfold f_X3_stepsGreaterThan at h
  refine z_iconst hx (n := 0) dX3_stepsGreaterThan_0 ?_
  refine z_istore_n hx hn (lv' := [(2, .int (zi 0)), (0, .ref (z_ad (z_g C) 54)), (1, .int (zi x1))]) dX3_stepsGreaterThan_1 (by decide) rfl ?_
  refine z_iconst hx (n := 1) dX3_stepsGreaterThan_2 ?_
  refine z_istore_n hx hn (lv' := [(3, .int (zi 1)), (2, .int (zi 0)), (0, .ref (z_ad (z_g C) 54)), (1, .int (zi x1))]) dX3_stepsGreaterThan_3 (by decide) rfl ?_
  refine z_sub [2, 3, 1, 0] rfl ?_
  exact w_X3_stepsGreaterThan_l4 hx hn hR hq z_fuel σ x1 0 1 h

theorem met_X3_stepsGreaterThan (l : Launch) (g : zG) (hg : g.1 = 0) {σ : zS} {x1 : Int} {rr : Int × zS} (h : f_X3_stepsGreaterThan σ x1 = some rr) : z_Met l yX3_stepsGreaterThan cX3_stepsGreaterThan 4 (some .int) rm_X3_stepsGreaterThan g [.ref (z_ad (g) 54), .int (zi x1)] σ (z_QI g rr.1 rr.2) := by
  refine z_enter (own := RX3) (sd := 0) (lv0 := [(0, .ref (z_ad (g) 54)), (1, .int (zi x1))]) (by decide) rfl (Nat.le_of_ble_eq_true rfl) hg rfl (fun C hx hl hgC hR hn hq => ?_)
  subst hgC
  refine z_sub [0, 1] rfl ?_
  exact w_X3_stepsGreaterThan hx hn hR hq σ x1 h
theorem dX3_sumOfLevels_0 : decode cX3_sumOfLevels 0 = .ok (.iconst 0, 1) := by decide +kernel
theorem dX3_sumOfLevels_1 : decode cX3_sumOfLevels 1 = .ok (.istore_n 1, 1) := by decide +kernel
theorem dX3_sumOfLevels_2 : decode cX3_sumOfLevels 2 = .ok (.iconst 0, 1) := by decide +kernel
theorem dX3_sumOfLevels_3 : decode cX3_sumOfLevels 3 = .ok (.istore_n 2, 1) := by decide +kernel
theorem dX3_sumOfLevels_4 : decode cX3_sumOfLevels 4 = .ok (.iload_n 2, 1) := by decide +kernel
theorem dX3_sumOfLevels_5 : decode cX3_sumOfLevels 5 = .ok (.aload_n 0, 1) := by decide +kernel
theorem dX3_sumOfLevels_6 : decode cX3_sumOfLevels 6 = .ok (.getfield 18, 3) := by decide +kernel
theorem dX3_sumOfLevels_9 : decode cX3_sumOfLevels 9 = .ok (.if_icmp .ge 18, 3) := by decide +kernel
theorem dX3_sumOfLevels_12 : decode cX3_sumOfLevels 12 = .ok (.iload_n 1, 1) := by decide +kernel
theorem dX3_sumOfLevels_13 : decode cX3_sumOfLevels 13 = .ok (.aload_n 0, 1) := by decide +kernel
theorem dX3_sumOfLevels_14 : decode cX3_sumOfLevels 14 = .ok (.getfield 15, 3) := by decide +kernel
theorem dX3_sumOfLevels_17 : decode cX3_sumOfLevels 17 = .ok (.iload_n 2, 1) := by decide +kernel
theorem dX3_sumOfLevels_18 : decode cX3_sumOfLevels 18 = .ok (.iaload, 1) := by decide +kernel
theorem dX3_sumOfLevels_19 : decode cX3_sumOfLevels 19 = .ok (.iadd, 1) := by decide +kernel
theorem dX3_sumOfLevels_20 : decode cX3_sumOfLevels 20 = .ok (.istore_n 1, 1) := by decide +kernel
theorem dX3_sumOfLevels_21 : decode cX3_sumOfLevels 21 = .ok (.iinc 2 1, 3) := by decide +kernel
theorem dX3_sumOfLevels_24 : decode cX3_sumOfLevels 24 = .ok (.goto (-20), 3) := by decide +kernel
theorem dX3_sumOfLevels_27 : decode cX3_sumOfLevels 27 = .ok (.iload_n 1, 1) := by decide +kernel
theorem dX3_sumOfLevels_28 : decode cX3_sumOfLevels 28 = .ok (.ireturn, 1) := by decide +kernel
abbrev rm_X3_sumOfLevels : Room := { frames := 0, cells := 0, slots := 0, locals := 0 }
theorem w_X3_sumOfLevels_b4 {C : zC} (hx : z_ok C cX3_sumOfLevels RX3 0) (hn : z_nL C = 3) (hR : z_R C = rm_X3_sumOfLevels) {rr : Int × zS} (hq : z_fin C (some .int) (z_QI (z_g C) rr.1 rr.2)) {K4 : zS → Int → Int → Option (Int × zS)} (hK4 : ∀ (σ : zS) (x1 : Int) (x2 : Int) , K4 σ x1 x2 = some rr → z_W C σ 4 [(0, .ref (z_ad (z_g C) 54)), (1, .int (zi x1)), (2, .int (zi x2))] []) (σ : zS) (x1 : Int) (x2 : Int) (h : f_X3_sumOfLevels_b4 K4 σ x1 x2 = some rr) : z_W C σ 4 [(0, .ref (z_ad (z_g C) 54)), (1, .int (zi x1)), (2, .int (zi x2))] [] := by
  unfold f_X3_sumOfLevels_b4 at h
  refine z_iload_n hx 2 dX3_sumOfLevels_4 rfl ?_
  refine z_aload_n hx 0 dX3_sumOfLevels_5 rfl ?_
  refine gf_X3_count hx wf_X3_18 dX3_sumOfLevels_6 ?_
  refine z_icmp_ge hx (tgt := 27) dX3_sumOfLevels_9 (by decide) h (fun h => h) (fun hc h => ?_) (fun hc h => ?_)
  · refine z_iload_n hx 1 dX3_sumOfLevels_27 rfl ?_
    cases h
    exact z_iret hx hq dX3_sumOfLevels_28
  · refine z_iload_n hx 1 dX3_sumOfLevels_12 rfl ?_
    refine z_aload_n hx 0 dX3_sumOfLevels_13 rfl ?_
    refine gf_X3_levels hx wf_X3_15 dX3_sumOfLevels_14 ?_
    refine z_iload_n hx 2 dX3_sumOfLevels_17 rfl ?_
    refine z_iald hx (n := 200) (z_lt0 (z_ok_sd hx) (by decide)) (z_kb56 (z_ok_sd hx) _) rfl (by decide) dX3_sumOfLevels_18 h (fun h => ?_)
    refine z_iadd hx dX3_sumOfLevels_19 ?_
    refine z_istore_n hx hn (lv' := [(1, .int (zi (x1 + (σ 56 x2)))), (0, .ref (z_ad (z_g C) 54)), (2, .int (zi x2))]) dX3_sumOfLevels_20 (by decide) rfl ?_
    refine z_iinc hx hn 2 (lv' := [(2, .int (zi (x2 + 1))), (1, .int (zi (x1 + (σ 56 x2)))), (0, .ref (z_ad (z_g C) 54))]) dX3_sumOfLevels_21 rfl (by decide) rfl ?_
    refine z_goto hx (tgt := 4) dX3_sumOfLevels_24 (by decide) ?_
    refine z_sub [2, 1, 0] rfl ?_
    exact hK4 σ (x1 + (σ 56 x2)) (x2 + 1) h

theorem w_X3_sumOfLevels_l4 {C : zC} (hx : z_ok C cX3_sumOfLevels RX3 0) (hn : z_nL C = 3) (hR : z_R C = rm_X3_sumOfLevels) {rr : Int × zS} (hq : z_fin C (some .int) (z_QI (z_g C) rr.1 rr.2)) : ∀ (n : Nat) (σ : zS) (x1 : Int) (x2 : Int) (_ : f_X3_sumOfLevels_l4 n σ x1 x2 = some rr), z_W C σ 4 [(0, .ref (z_ad (z_g C) 54)), (1, .int (zi x1)), (2, .int (zi x2))] [] := by
  intro n
  induction n with
  | zero => intro σ x1 x2 h; cases h
  | succ n ih =>
    intro σ x1 x2 h
    exact w_X3_sumOfLevels_b4 hx hn hR hq ih σ x1 x2 h
theorem w_X3_sumOfLevels {C : zC} (hx : z_ok C cX3_sumOfLevels RX3 0) (hn : z_nL C = 3) (hR : z_R C = rm_X3_sumOfLevels) {rr : Int × zS} (hq : z_fin C (some .int) (z_QI (z_g C) rr.1 rr.2)) (σ : zS) (h : f_X3_sumOfLevels σ = some rr) : z_W C σ 0 [(0, .ref (z_ad (z_g C) 54))] [] := by
  unfold f_X3_sumOfLevels at h
  refine z_iconst hx (n := 0) dX3_sumOfLevels_0 ?_
  refine z_istore_n hx hn (lv' := [(1, .int (zi 0)), (0, .ref (z_ad (z_g C) 54))]) dX3_sumOfLevels_1 (by decide) rfl ?_
  refine z_iconst hx (n := 0) dX3_sumOfLevels_2 ?_
  refine z_istore_n hx hn (lv' := [(2, .int (zi 0)), (1, .int (zi 0)), (0, .ref (z_ad (z_g C) 54))]) dX3_sumOfLevels_3 (by decide) rfl ?_
  refine z_sub [2, 1, 0] rfl ?_
  exact w_X3_sumOfLevels_l4 hx hn hR hq z_fuel σ 0 0 h

theorem met_X3_sumOfLevels (l : Launch) (g : zG) (hg : g.1 = 0) {σ : zS} {rr : Int × zS} (h : f_X3_sumOfLevels σ = some rr) : z_Met l yX3_sumOfLevels cX3_sumOfLevels 3 (some .int) rm_X3_sumOfLevels g [.ref (z_ad (g) 54)] σ (z_QI g rr.1 rr.2) := by
  refine z_enter (own := RX3) (sd := 0) (lv0 := [(0, .ref (z_ad (g) 54))]) (by decide) rfl (Nat.le_of_ble_eq_true rfl) hg rfl (fun C hx hl hgC hR hn hq => ?_)
  subst hgC
  refine z_sub [0] rfl ?_
  exact w_X3_sumOfLevels hx hn hR hq σ h
theorem dX3_longestStretchUpTo_0 : decode cX3_longestStretchUpTo 0 = .ok (.iconst 0, 1) := by decide +kernel
theorem dX3_longestStretchUpTo_1 : decode cX3_longestStretchUpTo 1 = .ok (.istore_n 2, 1) := by decide +kernel
theorem dX3_longestStretchUpTo_2 : decode cX3_longestStretchUpTo 2 = .ok (.iconst 0, 1) := by decide +kernel
theorem dX3_longestStretchUpTo_3 : decode cX3_longestStretchUpTo 3 = .ok (.istore_n 3, 1) := by decide +kernel
theorem dX3_longestStretchUpTo_4 : decode cX3_longestStretchUpTo 4 = .ok (.iconst 0, 1) := by decide +kernel
theorem dX3_longestStretchUpTo_5 : decode cX3_longestStretchUpTo 5 = .ok (.istore 4, 2) := by decide +kernel
theorem dX3_longestStretchUpTo_7 : decode cX3_longestStretchUpTo 7 = .ok (.iload 4, 2) := by decide +kernel
theorem dX3_longestStretchUpTo_9 : decode cX3_longestStretchUpTo 9 = .ok (.aload_n 0, 1) := by decide +kernel
theorem dX3_longestStretchUpTo_10 : decode cX3_longestStretchUpTo 10 = .ok (.getfield 18, 3) := by decide +kernel
theorem dX3_longestStretchUpTo_13 : decode cX3_longestStretchUpTo 13 = .ok (.if_icmp .ge 34, 3) := by decide +kernel
theorem dX3_longestStretchUpTo_16 : decode cX3_longestStretchUpTo 16 = .ok (.aload_n 0, 1) := by decide +kernel
theorem dX3_longestStretchUpTo_17 : decode cX3_longestStretchUpTo 17 = .ok (.getfield 15, 3) := by decide +kernel
theorem dX3_longestStretchUpTo_20 : decode cX3_longestStretchUpTo 20 = .ok (.iload 4, 2) := by decide +kernel
theorem dX3_longestStretchUpTo_22 : decode cX3_longestStretchUpTo 22 = .ok (.iaload, 1) := by decide +kernel
theorem dX3_longestStretchUpTo_23 : decode cX3_longestStretchUpTo 23 = .ok (.iload_n 1, 1) := by decide +kernel
theorem dX3_longestStretchUpTo_24 : decode cX3_longestStretchUpTo 24 = .ok (.if_icmp .gt 9, 3) := by decide +kernel
theorem dX3_longestStretchUpTo_27 : decode cX3_longestStretchUpTo 27 = .ok (.iload_n 3, 1) := by decide +kernel
theorem dX3_longestStretchUpTo_28 : decode cX3_longestStretchUpTo 28 = .ok (.iconst 1, 1) := by decide +kernel
theorem dX3_longestStretchUpTo_29 : decode cX3_longestStretchUpTo 29 = .ok (.iadd, 1) := by decide +kernel
theorem dX3_longestStretchUpTo_30 : decode cX3_longestStretchUpTo 30 = .ok (.goto 4, 3) := by decide +kernel
theorem dX3_longestStretchUpTo_33 : decode cX3_longestStretchUpTo 33 = .ok (.iconst 0, 1) := by decide +kernel
theorem dX3_longestStretchUpTo_34 : decode cX3_longestStretchUpTo 34 = .ok (.istore_n 3, 1) := by decide +kernel
theorem dX3_longestStretchUpTo_35 : decode cX3_longestStretchUpTo 35 = .ok (.iload_n 2, 1) := by decide +kernel
theorem dX3_longestStretchUpTo_36 : decode cX3_longestStretchUpTo 36 = .ok (.iload_n 3, 1) := by decide +kernel
theorem dX3_longestStretchUpTo_37 : decode cX3_longestStretchUpTo 37 = .ok (.invokestatic 98, 3) := by decide +kernel
theorem dX3_longestStretchUpTo_40 : decode cX3_longestStretchUpTo 40 = .ok (.istore_n 2, 1) := by decide +kernel
theorem dX3_longestStretchUpTo_41 : decode cX3_longestStretchUpTo 41 = .ok (.iinc 4 1, 3) := by decide +kernel
theorem dX3_longestStretchUpTo_44 : decode cX3_longestStretchUpTo 44 = .ok (.goto (-37), 3) := by decide +kernel
theorem dX3_longestStretchUpTo_47 : decode cX3_longestStretchUpTo 47 = .ok (.iload_n 2, 1) := by decide +kernel
theorem dX3_longestStretchUpTo_48 : decode cX3_longestStretchUpTo 48 = .ok (.ireturn, 1) := by decide +kernel
abbrev rm_X3_longestStretchUpTo : Room := { frames := 1, cells := 0, slots := 0, locals := 21 }
theorem w_X3_longestStretchUpTo_b34 {C : zC} (hx : z_ok C cX3_longestStretchUpTo RX3 0) (hn : z_nL C = 5) (hR : z_R C = rm_X3_longestStretchUpTo) {rr : Int × zS} (hq : z_fin C (some .int) (z_QI (z_g C) rr.1 rr.2)) {K7 : zS → Int → Int → Int → Int → Option (Int × zS)} (hK7 : ∀ (σ : zS) (x1 : Int) (x2 : Int) (x3 : Int) (x4 : Int) , K7 σ x1 x2 x3 x4 = some rr → z_W C σ 7 [(0, .ref (z_ad (z_g C) 54)), (1, .int (zi x1)), (2, .int (zi x2)), (3, .int (zi x3)), (4, .int (zi x4))] []) (σ : zS) (x1 : Int) (x2 : Int) (x4 : Int) (s0 : Int) (h : f_X3_longestStretchUpTo_b34 K7 σ x1 x2 x4 s0 = some rr) : z_W C σ 34 [(0, .ref (z_ad (z_g C) 54)), (1, .int (zi x1)), (2, .int (zi x2)), (4, .int (zi x4))] [.int (zi s0)] := by
  unfold f_X3_longestStretchUpTo_b34 at h
  refine z_istore_n hx hn (lv' := [(3, .int (zi s0)), (0, .ref (z_ad (z_g C) 54)), (1, .int (zi x1)), (2, .int (zi x2)), (4, .int (zi x4))]) dX3_longestStretchUpTo_34 (by decide) rfl ?_
  refine z_iload_n hx 3 dX3_longestStretchUpTo_35 rfl ?_
  refine z_iload_n hx 0 dX3_longestStretchUpTo_36 rfl ?_
  refine z_max hx wm_X3_98 wst_J9_max wi_J9 wc_J9_max (z_room hR ⟨Nat.le_of_ble_eq_true rfl, Nat.le_of_ble_eq_true rfl⟩) (Nat.le_of_ble_eq_true rfl) dX3_longestStretchUpTo_37 h (fun h => ?_)
  refine z_istore_n hx hn (lv' := [(2, .int (zi (if x2 < s0 then s0 else x2))), (3, .int (zi s0)), (0, .ref (z_ad (z_g C) 54)), (1, .int (zi x1)), (4, .int (zi x4))]) dX3_longestStretchUpTo_40 (by decide) rfl ?_
  refine z_iinc hx hn 4 (lv' := [(4, .int (zi (x4 + 1))), (2, .int (zi (if x2 < s0 then s0 else x2))), (3, .int (zi s0)), (0, .ref (z_ad (z_g C) 54)), (1, .int (zi x1))]) dX3_longestStretchUpTo_41 rfl (by decide) rfl ?_
  refine z_goto hx (tgt := 7) dX3_longestStretchUpTo_44 (by decide) ?_
  refine z_sub [3, 4, 1, 2, 0] rfl ?_
  exact hK7 σ x1 (if x2 < s0 then s0 else x2) s0 (x4 + 1) h

theorem w_X3_longestStretchUpTo_b7 {C : zC} (hx : z_ok C cX3_longestStretchUpTo RX3 0) (hn : z_nL C = 5) (hR : z_R C = rm_X3_longestStretchUpTo) {rr : Int × zS} (hq : z_fin C (some .int) (z_QI (z_g C) rr.1 rr.2)) {K7 : zS → Int → Int → Int → Int → Option (Int × zS)} (hK7 : ∀ (σ : zS) (x1 : Int) (x2 : Int) (x3 : Int) (x4 : Int) , K7 σ x1 x2 x3 x4 = some rr → z_W C σ 7 [(0, .ref (z_ad (z_g C) 54)), (1, .int (zi x1)), (2, .int (zi x2)), (3, .int (zi x3)), (4, .int (zi x4))] []) (σ : zS) (x1 : Int) (x2 : Int) (x3 : Int) (x4 : Int) (h : f_X3_longestStretchUpTo_b7 K7 σ x1 x2 x3 x4 = some rr) : z_W C σ 7 [(0, .ref (z_ad (z_g C) 54)), (1, .int (zi x1)), (2, .int (zi x2)), (3, .int (zi x3)), (4, .int (zi x4))] [] := by
  unfold f_X3_longestStretchUpTo_b7 at h
  refine z_iload hx 4 dX3_longestStretchUpTo_7 rfl ?_
  refine z_aload_n hx 0 dX3_longestStretchUpTo_9 rfl ?_
  refine gf_X3_count hx wf_X3_18 dX3_longestStretchUpTo_10 ?_
  refine z_icmp_ge hx (tgt := 47) dX3_longestStretchUpTo_13 (by decide) h (fun h => h) (fun hc h => ?_) (fun hc h => ?_)
  · refine z_iload_n hx 2 dX3_longestStretchUpTo_47 rfl ?_
    cases h
    exact z_iret hx hq dX3_longestStretchUpTo_48
  · refine z_aload_n hx 0 dX3_longestStretchUpTo_16 rfl ?_
    refine gf_X3_levels hx wf_X3_15 dX3_longestStretchUpTo_17 ?_
    refine z_iload hx 4 dX3_longestStretchUpTo_20 rfl ?_
    refine z_iald hx (n := 200) (z_lt0 (z_ok_sd hx) (by decide)) (z_kb56 (z_ok_sd hx) _) rfl (by decide) dX3_longestStretchUpTo_22 h (fun h => ?_)
    refine z_iload_n hx 1 dX3_longestStretchUpTo_23 rfl ?_
    refine z_icmp_gt hx (tgt := 33) dX3_longestStretchUpTo_24 (by decide) h (fun h => h) (fun hc h => ?_) (fun hc h => ?_)
    · refine z_iconst hx (n := 0) dX3_longestStretchUpTo_33 ?_
      refine z_sub [0, 1, 2, 4] rfl ?_
      exact w_X3_longestStretchUpTo_b34 hx hn hR hq hK7 σ x1 x2 x4 0 h
    · refine z_iload_n hx 3 dX3_longestStretchUpTo_27 rfl ?_
      refine z_iconst hx (n := 1) dX3_longestStretchUpTo_28 ?_
      refine z_iadd hx dX3_longestStretchUpTo_29 ?_
      refine z_goto hx (tgt := 34) dX3_longestStretchUpTo_30 (by decide) ?_
      refine z_sub [0, 1, 2, 4] rfl ?_
      exact w_X3_longestStretchUpTo_b34 hx hn hR hq hK7 σ x1 x2 x4 (x3 + 1) h

theorem w_X3_longestStretchUpTo_l7 {C : zC} (hx : z_ok C cX3_longestStretchUpTo RX3 0) (hn : z_nL C = 5) (hR : z_R C = rm_X3_longestStretchUpTo) {rr : Int × zS} (hq : z_fin C (some .int) (z_QI (z_g C) rr.1 rr.2)) : ∀ (n : Nat) (σ : zS) (x1 : Int) (x2 : Int) (x3 : Int) (x4 : Int) (_ : f_X3_longestStretchUpTo_l7 n σ x1 x2 x3 x4 = some rr), z_W C σ 7 [(0, .ref (z_ad (z_g C) 54)), (1, .int (zi x1)), (2, .int (zi x2)), (3, .int (zi x3)), (4, .int (zi x4))] [] := by
  intro n
  induction n with
  | zero => intro σ x1 x2 x3 x4 h; cases h
  | succ n ih =>
    intro σ x1 x2 x3 x4 h
    exact w_X3_longestStretchUpTo_b7 hx hn hR hq ih σ x1 x2 x3 x4 h
theorem w_X3_longestStretchUpTo {C : zC} (hx : z_ok C cX3_longestStretchUpTo RX3 0) (hn : z_nL C = 5) (hR : z_R C = rm_X3_longestStretchUpTo) {rr : Int × zS} (hq : z_fin C (some .int) (z_QI (z_g C) rr.1 rr.2)) (σ : zS) (x1 : Int) (h : f_X3_longestStretchUpTo σ x1 = some rr) : z_W C σ 0 [(0, .ref (z_ad (z_g C) 54)), (1, .int (zi x1))] [] := by
  unfold f_X3_longestStretchUpTo at h
  refine z_iconst hx (n := 0) dX3_longestStretchUpTo_0 ?_
  refine z_istore_n hx hn (lv' := [(2, .int (zi 0)), (0, .ref (z_ad (z_g C) 54)), (1, .int (zi x1))]) dX3_longestStretchUpTo_1 (by decide) rfl ?_
  refine z_iconst hx (n := 0) dX3_longestStretchUpTo_2 ?_
  refine z_istore_n hx hn (lv' := [(3, .int (zi 0)), (2, .int (zi 0)), (0, .ref (z_ad (z_g C) 54)), (1, .int (zi x1))]) dX3_longestStretchUpTo_3 (by decide) rfl ?_
  refine z_iconst hx (n := 0) dX3_longestStretchUpTo_4 ?_
  refine z_istore hx hn (lv' := [(4, .int (zi 0)), (3, .int (zi 0)), (2, .int (zi 0)), (0, .ref (z_ad (z_g C) 54)), (1, .int (zi x1))]) dX3_longestStretchUpTo_5 (by decide) rfl ?_
  refine z_sub [3, 4, 2, 1, 0] rfl ?_
  exact w_X3_longestStretchUpTo_l7 hx hn hR hq z_fuel σ x1 0 0 0 h

theorem met_X3_longestStretchUpTo (l : Launch) (g : zG) (hg : g.1 = 0) {σ : zS} {x1 : Int} {rr : Int × zS} (h : f_X3_longestStretchUpTo σ x1 = some rr) : z_Met l yX3_longestStretchUpTo cX3_longestStretchUpTo 5 (some .int) rm_X3_longestStretchUpTo g [.ref (z_ad (g) 54), .int (zi x1)] σ (z_QI g rr.1 rr.2) := by
  refine z_enter (own := RX3) (sd := 0) (lv0 := [(0, .ref (z_ad (g) 54)), (1, .int (zi x1))]) (by decide) rfl (Nat.le_of_ble_eq_true rfl) hg rfl (fun C hx hl hgC hR hn hq => ?_)
  subst hgC
  refine z_sub [0, 1] rfl ?_
  exact w_X3_longestStretchUpTo hx hn hR hq σ x1 h
end
section
/-! walks, by program: ['X4'] -/
end
section
/-! walks, by program: ['X5'] -/
theorem dX5_type_0 : decode cX5_type 0 = .ok (.iload_n 1, 1) := by decide +kernel
theorem dX5_type_1 : decode cX5_type 1 = .ok (.bipush 32, 2) := by decide +kernel
theorem dX5_type_3 : decode cX5_type 3 = .ok (.if_icmp .lt 9, 3) := by decide +kernel
theorem dX5_type_6 : decode cX5_type 6 = .ok (.iload_n 1, 1) := by decide +kernel
theorem dX5_type_7 : decode cX5_type 7 = .ok (.bipush 126, 2) := by decide +kernel
theorem dX5_type_9 : decode cX5_type 9 = .ok (.if_icmp .le 5, 3) := by decide +kernel
theorem dX5_type_12 : decode cX5_type 12 = .ok (.iconst (-1), 1) := by decide +kernel
theorem dX5_type_13 : decode cX5_type 13 = .ok (.ireturn, 1) := by decide +kernel
theorem dX5_type_14 : decode cX5_type 14 = .ok (.aload_n 0, 1) := by decide +kernel
theorem dX5_type_15 : decode cX5_type 15 = .ok (.getfield 13, 3) := by decide +kernel
theorem dX5_type_18 : decode cX5_type 18 = .ok (.bipush 120, 2) := by decide +kernel
theorem dX5_type_20 : decode cX5_type 20 = .ok (.if_icmp .lt 6, 3) := by decide +kernel
theorem dX5_type_23 : decode cX5_type 23 = .ok (.bipush (-3), 2) := by decide +kernel
theorem dX5_type_25 : decode cX5_type 25 = .ok (.ireturn, 1) := by decide +kernel
theorem dX5_type_26 : decode cX5_type 26 = .ok (.aload_n 0, 1) := by decide +kernel
theorem dX5_type_27 : decode cX5_type 27 = .ok (.getfield 9, 3) := by decide +kernel
theorem dX5_type_30 : decode cX5_type 30 = .ok (.aload_n 0, 1) := by decide +kernel
theorem dX5_type_31 : decode cX5_type 31 = .ok (.getfield 13, 3) := by decide +kernel
theorem dX5_type_34 : decode cX5_type 34 = .ok (.iload_n 1, 1) := by decide +kernel
theorem dX5_type_35 : decode cX5_type 35 = .ok (.iastore, 1) := by decide +kernel
theorem dX5_type_36 : decode cX5_type 36 = .ok (.aload_n 0, 1) := by decide +kernel
theorem dX5_type_37 : decode cX5_type 37 = .ok (.dup, 1) := by decide +kernel
theorem dX5_type_38 : decode cX5_type 38 = .ok (.getfield 13, 3) := by decide +kernel
theorem dX5_type_41 : decode cX5_type 41 = .ok (.iconst 1, 1) := by decide +kernel
theorem dX5_type_42 : decode cX5_type 42 = .ok (.iadd, 1) := by decide +kernel
theorem dX5_type_43 : decode cX5_type 43 = .ok (.putfield 13, 3) := by decide +kernel
theorem dX5_type_46 : decode cX5_type 46 = .ok (.aload_n 0, 1) := by decide +kernel
theorem dX5_type_47 : decode cX5_type 47 = .ok (.getfield 13, 3) := by decide +kernel
theorem dX5_type_50 : decode cX5_type 50 = .ok (.ireturn, 1) := by decide +kernel
abbrev rm_X5_type : Room := { frames := 0, cells := 0, slots := 0, locals := 0 }
theorem w_X5_type_b12 {C : zC} (hx : z_ok C cX5_type RX5 0) (hn : z_nL C = 2) (hR : z_R C = rm_X5_type) {rr : Int × zS} (hq : z_fin C (some .int) (z_QI (z_g C) rr.1 rr.2)) (σ : zS) (h : f_X5_type_b12 σ = some rr) : z_W C σ 12 [] [] := by
  unfold f_X5_type_b12 at h
  refine z_iconst hx (n := (-1)) dX5_type_12 ?_
  cases h
  exact z_iret hx hq dX5_type_13

theorem w_X5_type {C : zC} (hx : z_ok C cX5_type RX5 0) (hn : z_nL C = 2) (hR : z_R C = rm_X5_type) {rr : Int × zS} (hq : z_fin C (some .int) (z_QI (z_g C) rr.1 rr.2)) (σ : zS) (x1 : Int) (h : f_X5_type σ x1 = some rr) : z_W C σ 0 [(0, .ref (z_ad (z_g C) 62)), (1, .int (zi x1))] [] := by
  unfold f_X5_type at h
  refine z_iload_n hx 1 dX5_type_0 rfl ?_
  refine z_bipush hx (n := 32) dX5_type_1 rfl ?_
  refine z_icmp_lt hx (tgt := 12) dX5_type_3 (by decide) h (fun h => ⟨h, by decide⟩) (fun hc h => ?_) (fun hc h => ?_)
  · refine z_sub [] rfl ?_
    exact w_X5_type_b12 hx hn hR hq σ h
  · refine z_iload_n hx 1 dX5_type_6 rfl ?_
    refine z_bipush hx (n := 126) dX5_type_7 rfl ?_
    refine z_icmp_le hx (tgt := 14) dX5_type_9 (by decide) h (fun h => ⟨h, by decide⟩) (fun hc h => ?_) (fun hc h => ?_)
    · refine z_aload_n hx 0 dX5_type_14 rfl ?_
      refine gf_X5_characters hx wf_X5_13 dX5_type_15 ?_
      refine z_bipush hx (n := 120) dX5_type_18 rfl ?_
      refine z_icmp_lt hx (tgt := 26) dX5_type_20 (by decide) h (fun h => ⟨h, by decide⟩) (fun hc h => ?_) (fun hc h => ?_)
      · refine z_aload_n hx 0 dX5_type_26 rfl ?_
        refine gf_X5_buffer hx wf_X5_9 dX5_type_27 ?_
        refine z_aload_n hx 0 dX5_type_30 rfl ?_
        refine gf_X5_characters hx wf_X5_13 dX5_type_31 ?_
        refine z_iload_n hx 1 dX5_type_34 rfl ?_
        refine z_iast hx (n := 120) (z_lt0 (z_ok_sd hx) (by decide)) (z_kb63 (z_ok_sd hx)) rfl (by decide) dX5_type_35 h (fun σ1 h => ?_)
        refine z_aload_n hx 0 dX5_type_36 rfl ?_
        refine z_dup hx dX5_type_37 rfl ?_
        refine gf_X5_characters hx wf_X5_13 dX5_type_38 ?_
        refine z_iconst hx (n := 1) dX5_type_41 ?_
        refine z_iadd hx dX5_type_42 ?_
        refine pf_X5_characters hx wf_X5_13 dX5_type_43 h (fun σ2 h => ?_)
        refine z_aload_n hx 0 dX5_type_46 rfl ?_
        refine gf_X5_characters hx wf_X5_13 dX5_type_47 ?_
        cases h
        exact z_iret hx hq dX5_type_50
      · refine z_bipush hx (n := (-3)) dX5_type_23 rfl ?_
        cases h
        exact z_iret hx hq dX5_type_25
    · refine z_sub [] rfl ?_
      exact w_X5_type_b12 hx hn hR hq σ h

theorem met_X5_type (l : Launch) (g : zG) (hg : g.1 = 0) {σ : zS} {x1 : Int} {rr : Int × zS} (h : f_X5_type σ x1 = some rr) : z_Met l yX5_type cX5_type 2 (some .int) rm_X5_type g [.ref (z_ad (g) 62), .int (zi x1)] σ (z_QI g rr.1 rr.2) := by
  refine z_enter (own := RX5) (sd := 0) (lv0 := [(0, .ref (z_ad (g) 62)), (1, .int (zi x1))]) (by decide) rfl (Nat.le_of_ble_eq_true rfl) hg rfl (fun C hx hl hgC hR hn hq => ?_)
  subst hgC
  refine z_sub [0, 1] rfl ?_
  exact w_X5_type hx hn hR hq σ x1 h
theorem dX5_append_0 : decode cX5_append 0 = .ok (.iload_n 1, 1) := by decide +kernel
theorem dX5_append_1 : decode cX5_append 1 = .ok (.ifCond .lt 21, 3) := by decide +kernel
theorem dX5_append_4 : decode cX5_append 4 = .ok (.iload_n 1, 1) := by decide +kernel
theorem dX5_append_5 : decode cX5_append 5 = .ok (.bipush 9, 2) := by decide +kernel
theorem dX5_append_7 : decode cX5_append 7 = .ok (.if_icmp .gt 15, 3) := by decide +kernel
theorem dX5_append_10 : decode cX5_append 10 = .ok (.iload_n 2, 1) := by decide +kernel
theorem dX5_append_11 : decode cX5_append 11 = .ok (.iconst 1, 1) := by decide +kernel
theorem dX5_append_12 : decode cX5_append 12 = .ok (.if_icmp .lt 10, 3) := by decide +kernel
theorem dX5_append_15 : decode cX5_append 15 = .ok (.iload_n 2, 1) := by decide +kernel
theorem dX5_append_16 : decode cX5_append 16 = .ok (.sipush 200, 3) := by decide +kernel
theorem dX5_append_19 : decode cX5_append 19 = .ok (.if_icmp .le 5, 3) := by decide +kernel
theorem dX5_append_22 : decode cX5_append 22 = .ok (.iconst (-1), 1) := by decide +kernel
theorem dX5_append_23 : decode cX5_append 23 = .ok (.ireturn, 1) := by decide +kernel
theorem dX5_append_24 : decode cX5_append 24 = .ok (.aload_n 0, 1) := by decide +kernel
theorem dX5_append_25 : decode cX5_append 25 = .ok (.getfield 20, 3) := by decide +kernel
theorem dX5_append_28 : decode cX5_append 28 = .ok (.getfield 66, 3) := by decide +kernel
theorem dX5_append_31 : decode cX5_append 31 = .ok (.iload_n 2, 1) := by decide +kernel
theorem dX5_append_32 : decode cX5_append 32 = .ok (.iadd, 1) := by decide +kernel
theorem dX5_append_33 : decode cX5_append 33 = .ok (.sipush 200, 3) := by decide +kernel
theorem dX5_append_36 : decode cX5_append 36 = .ok (.if_icmp .le 6, 3) := by decide +kernel
theorem dX5_append_39 : decode cX5_append 39 = .ok (.bipush (-3), 2) := by decide +kernel
theorem dX5_append_41 : decode cX5_append 41 = .ok (.ireturn, 1) := by decide +kernel
theorem dX5_append_42 : decode cX5_append 42 = .ok (.aload_n 0, 1) := by decide +kernel
theorem dX5_append_43 : decode cX5_append 43 = .ok (.getfield 27, 3) := by decide +kernel
theorem dX5_append_46 : decode cX5_append 46 = .ok (.aload_n 0, 1) := by decide +kernel
theorem dX5_append_47 : decode cX5_append 47 = .ok (.getfield 20, 3) := by decide +kernel
theorem dX5_append_50 : decode cX5_append 50 = .ok (.invokevirtual 56, 3) := by decide +kernel
theorem dX5_append_53 : decode cX5_append 53 = .ok (.iconst 0, 1) := by decide +kernel
theorem dX5_append_54 : decode cX5_append 54 = .ok (.istore_n 3, 1) := by decide +kernel
theorem dX5_append_55 : decode cX5_append 55 = .ok (.iload_n 3, 1) := by decide +kernel
theorem dX5_append_56 : decode cX5_append 56 = .ok (.iload_n 2, 1) := by decide +kernel
theorem dX5_append_57 : decode cX5_append 57 = .ok (.if_icmp .ge 17, 3) := by decide +kernel
theorem dX5_append_60 : decode cX5_append 60 = .ok (.aload_n 0, 1) := by decide +kernel
theorem dX5_append_61 : decode cX5_append 61 = .ok (.getfield 20, 3) := by decide +kernel
theorem dX5_append_64 : decode cX5_append 64 = .ok (.iload_n 1, 1) := by decide +kernel
theorem dX5_append_65 : decode cX5_append 65 = .ok (.invokevirtual 69, 3) := by decide +kernel
theorem dX5_append_68 : decode cX5_append 68 = .ok (.iinc 3 1, 3) := by decide +kernel
theorem dX5_append_71 : decode cX5_append 71 = .ok (.goto (-16), 3) := by decide +kernel
theorem dX5_append_74 : decode cX5_append 74 = .ok (.aload_n 0, 1) := by decide +kernel
theorem dX5_append_75 : decode cX5_append 75 = .ok (.getfield 20, 3) := by decide +kernel
theorem dX5_append_78 : decode cX5_append 78 = .ok (.getfield 66, 3) := by decide +kernel
theorem dX5_append_81 : decode cX5_append 81 = .ok (.ireturn, 1) := by decide +kernel
abbrev rm_X5_append : Room := { frames := 4, cells := 0, slots := 0, locals := 124 }
theorem w_X5_append_b55 {C : zC} (hx : z_ok C cX5_append RX5 0) (hn : z_nL C = 4) (hR : z_R C = rm_X5_append) {rr : Int × zS} (hq : z_fin C (some .int) (z_QI (z_g C) rr.1 rr.2)) {K55 : zS → Int → Int → Int → Option (Int × zS)} (hK55 : ∀ (σ : zS) (x1 : Int) (x2 : Int) (x3 : Int) , K55 σ x1 x2 x3 = some rr → z_W C σ 55 [(0, .ref (z_ad (z_g C) 62)), (1, .int (zi x1)), (2, .int (zi x2)), (3, .int (zi x3))] []) (σ : zS) (x1 : Int) (x2 : Int) (x3 : Int) (h : f_X5_append_b55 K55 σ x1 x2 x3 = some rr) : z_W C σ 55 [(0, .ref (z_ad (z_g C) 62)), (1, .int (zi x1)), (2, .int (zi x2)), (3, .int (zi x3))] [] := by
  unfold f_X5_append_b55 at h
  refine z_iload_n hx 3 dX5_append_55 rfl ?_
  refine z_iload_n hx 2 dX5_append_56 rfl ?_
  refine z_icmp_ge hx (tgt := 74) dX5_append_57 (by decide) h (fun h => h) (fun hc h => ?_) (fun hc h => ?_)
  · refine z_aload_n hx 0 dX5_append_74 rfl ?_
    refine gf_X5_recording hx wf_X5_20 dX5_append_75 ?_
    refine gf_X2_frames hx wf_X5_66 (show 0 < 6 by decide) dX5_append_78 ?_
    cases h
    exact z_iret hx hq dX5_append_81
  · refine z_aload_n hx 0 dX5_append_60 rfl ?_
    refine gf_X5_recording hx wf_X5_20 dX5_append_61 ?_
    refine z_iload_n hx 1 dX5_append_64 rfl ?_
    obtain ⟨⟨⟩, σ1, h65, h⟩ := z_bind_some h
    refine z_callv hx (As := [.int (zi x1)]) (k := 0) (met_X2_addFrame (z_l C) (z_g C) (z_ok_sd hx) (show 0 < 6 by decide) h65) (z_lt0 (z_ok_sd hx) (by decide)) (z_ka0 (z_ok_sd hx) (show 0 < 6 by decide) _) rfl rfl cv_X5_69 (z_room hR ⟨Nat.le_of_ble_eq_true rfl, Nat.le_of_ble_eq_true rfl⟩) ⟨rfl, rfl⟩ rfl rfl (Nat.le_of_ble_eq_true rfl) dX5_append_65 ?_
    refine z_iinc hx hn 3 (lv' := [(3, .int (zi (x3 + 1))), (0, .ref (z_ad (z_g C) 62)), (1, .int (zi x1)), (2, .int (zi x2))]) dX5_append_68 rfl (by decide) rfl ?_
    refine z_goto hx (tgt := 55) dX5_append_71 (by decide) ?_
    refine z_sub [1, 2, 3, 0] rfl ?_
    exact hK55 σ1 x1 x2 (x3 + 1) h

theorem w_X5_append_l55 {C : zC} (hx : z_ok C cX5_append RX5 0) (hn : z_nL C = 4) (hR : z_R C = rm_X5_append) {rr : Int × zS} (hq : z_fin C (some .int) (z_QI (z_g C) rr.1 rr.2)) : ∀ (n : Nat) (σ : zS) (x1 : Int) (x2 : Int) (x3 : Int) (_ : f_X5_append_l55 n σ x1 x2 x3 = some rr), z_W C σ 55 [(0, .ref (z_ad (z_g C) 62)), (1, .int (zi x1)), (2, .int (zi x2)), (3, .int (zi x3))] [] := by
  intro n
  induction n with
  | zero => intro σ x1 x2 x3 h; cases h
  | succ n ih =>
    intro σ x1 x2 x3 h
    exact w_X5_append_b55 hx hn hR hq ih σ x1 x2 x3 h
theorem w_X5_append_b22 {C : zC} (hx : z_ok C cX5_append RX5 0) (hn : z_nL C = 4) (hR : z_R C = rm_X5_append) {rr : Int × zS} (hq : z_fin C (some .int) (z_QI (z_g C) rr.1 rr.2)) (σ : zS) (h : f_X5_append_b22 σ = some rr) : z_W C σ 22 [] [] := by
  unfold f_X5_append_b22 at h
  refine z_iconst hx (n := (-1)) dX5_append_22 ?_
  cases h
  exact z_iret hx hq dX5_append_23

theorem w_X5_append {C : zC} (hx : z_ok C cX5_append RX5 0) (hn : z_nL C = 4) (hR : z_R C = rm_X5_append) {rr : Int × zS} (hq : z_fin C (some .int) (z_QI (z_g C) rr.1 rr.2)) (σ : zS) (x1 : Int) (x2 : Int) (h : f_X5_append σ x1 x2 = some rr) : z_W C σ 0 [(0, .ref (z_ad (z_g C) 62)), (1, .int (zi x1)), (2, .int (zi x2))] [] := by
  unfold f_X5_append at h
  refine z_iload_n hx 1 dX5_append_0 rfl ?_
  refine z_if_lt hx (tgt := 22) dX5_append_1 (by decide) h (fun h => h) (fun hc h => ?_) (fun hc h => ?_)
  · refine z_sub [] rfl ?_
    exact w_X5_append_b22 hx hn hR hq σ h
  · refine z_iload_n hx 1 dX5_append_4 rfl ?_
    refine z_bipush hx (n := 9) dX5_append_5 rfl ?_
    refine z_icmp_gt hx (tgt := 22) dX5_append_7 (by decide) h (fun h => ⟨h, by decide⟩) (fun hc h => ?_) (fun hc h => ?_)
    · refine z_sub [] rfl ?_
      exact w_X5_append_b22 hx hn hR hq σ h
    · refine z_iload_n hx 2 dX5_append_10 rfl ?_
      refine z_iconst hx (n := 1) dX5_append_11 ?_
      refine z_icmp_lt hx (tgt := 22) dX5_append_12 (by decide) h (fun h => ⟨h, by decide⟩) (fun hc h => ?_) (fun hc h => ?_)
      · refine z_sub [] rfl ?_
        exact w_X5_append_b22 hx hn hR hq σ h
      · refine z_iload_n hx 2 dX5_append_15 rfl ?_
        refine z_sipush hx (n := 200) dX5_append_16 rfl ?_
        refine z_icmp_le hx (tgt := 24) dX5_append_19 (by decide) h (fun h => ⟨h, by decide⟩) (fun hc h => ?_) (fun hc h => ?_)
        · refine z_aload_n hx 0 dX5_append_24 rfl ?_
          refine gf_X5_recording hx wf_X5_20 dX5_append_25 ?_
          refine gf_X2_frames hx wf_X5_66 (show 0 < 6 by decide) dX5_append_28 ?_
          refine z_iload_n hx 2 dX5_append_31 rfl ?_
          refine z_iadd hx dX5_append_32 ?_
          refine z_sipush hx (n := 200) dX5_append_33 rfl ?_
          refine z_icmp_le hx (tgt := 42) dX5_append_36 (by decide) h (fun h => ⟨h, by decide⟩) (fun hc h => ?_) (fun hc h => ?_)
          · refine z_aload_n hx 0 dX5_append_42 rfl ?_
            refine gf_X5_history hx wf_X5_27 dX5_append_43 ?_
            refine z_aload_n hx 0 dX5_append_46 rfl ?_
            refine gf_X5_recording hx wf_X5_20 dX5_append_47 ?_
            obtain ⟨⟨⟩, σ1, h50, h⟩ := z_bind_some h
            refine z_callv hx (As := [.ref (z_ad (z_g C) 0)]) (k := 60) (met_X1_keep (z_l C) (z_g C) (z_ok_sd hx) (show 0 < 6 by decide) h50) (z_lt0 (z_ok_sd hx) (by decide)) (z_kb60 (z_ok_sd hx) _) rfl rfl cv_X5_56 (z_room hR ⟨Nat.le_of_ble_eq_true rfl, Nat.le_of_ble_eq_true rfl⟩) ⟨rfl, rfl⟩ rfl rfl (Nat.le_of_ble_eq_true rfl) dX5_append_50 ?_
            refine z_iconst hx (n := 0) dX5_append_53 ?_
            refine z_istore_n hx hn (lv' := [(3, .int (zi 0)), (0, .ref (z_ad (z_g C) 62)), (1, .int (zi x1)), (2, .int (zi x2))]) dX5_append_54 (by decide) rfl ?_
            refine z_sub [1, 2, 3, 0] rfl ?_
            exact w_X5_append_l55 hx hn hR hq z_fuel σ1 x1 x2 0 h
          · refine z_bipush hx (n := (-3)) dX5_append_39 rfl ?_
            cases h
            exact z_iret hx hq dX5_append_41
        · refine z_sub [] rfl ?_
          exact w_X5_append_b22 hx hn hR hq σ h

theorem met_X5_append (l : Launch) (g : zG) (hg : g.1 = 0) {σ : zS} {x1 : Int} {x2 : Int} {rr : Int × zS} (h : f_X5_append σ x1 x2 = some rr) : z_Met l yX5_append cX5_append 4 (some .int) rm_X5_append g [.ref (z_ad (g) 62), .int (zi x1), .int (zi x2)] σ (z_QI g rr.1 rr.2) := by
  refine z_enter (own := RX5) (sd := 0) (lv0 := [(0, .ref (z_ad (g) 62)), (1, .int (zi x1)), (2, .int (zi x2))]) (by decide) rfl (Nat.le_of_ble_eq_true rfl) hg rfl (fun C hx hl hgC hR hn hq => ?_)
  subst hgC
  refine z_sub [0, 1, 2] rfl ?_
  exact w_X5_append hx hn hR hq σ x1 x2 h
theorem dX5_babble_0 : decode cX5_babble 0 = .ok (.iload_n 2, 1) := by decide +kernel
theorem dX5_babble_1 : decode cX5_babble 1 = .ok (.iconst 1, 1) := by decide +kernel
theorem dX5_babble_2 : decode cX5_babble 2 = .ok (.if_icmp .lt 10, 3) := by decide +kernel
theorem dX5_babble_5 : decode cX5_babble 5 = .ok (.iload_n 2, 1) := by decide +kernel
theorem dX5_babble_6 : decode cX5_babble 6 = .ok (.sipush 200, 3) := by decide +kernel
theorem dX5_babble_9 : decode cX5_babble 9 = .ok (.if_icmp .le 5, 3) := by decide +kernel
theorem dX5_babble_12 : decode cX5_babble 12 = .ok (.iconst (-1), 1) := by decide +kernel
theorem dX5_babble_13 : decode cX5_babble 13 = .ok (.ireturn, 1) := by decide +kernel
theorem dX5_babble_14 : decode cX5_babble 14 = .ok (.aload_n 0, 1) := by decide +kernel
theorem dX5_babble_15 : decode cX5_babble 15 = .ok (.getfield 20, 3) := by decide +kernel
theorem dX5_babble_18 : decode cX5_babble 18 = .ok (.getfield 66, 3) := by decide +kernel
theorem dX5_babble_21 : decode cX5_babble 21 = .ok (.iload_n 2, 1) := by decide +kernel
theorem dX5_babble_22 : decode cX5_babble 22 = .ok (.iadd, 1) := by decide +kernel
theorem dX5_babble_23 : decode cX5_babble 23 = .ok (.sipush 200, 3) := by decide +kernel
theorem dX5_babble_26 : decode cX5_babble 26 = .ok (.if_icmp .le 6, 3) := by decide +kernel
theorem dX5_babble_29 : decode cX5_babble 29 = .ok (.bipush (-3), 2) := by decide +kernel
theorem dX5_babble_31 : decode cX5_babble 31 = .ok (.ireturn, 1) := by decide +kernel
theorem dX5_babble_32 : decode cX5_babble 32 = .ok (.aload_n 0, 1) := by decide +kernel
theorem dX5_babble_33 : decode cX5_babble 33 = .ok (.getfield 27, 3) := by decide +kernel
theorem dX5_babble_36 : decode cX5_babble 36 = .ok (.aload_n 0, 1) := by decide +kernel
theorem dX5_babble_37 : decode cX5_babble 37 = .ok (.getfield 20, 3) := by decide +kernel
theorem dX5_babble_40 : decode cX5_babble 40 = .ok (.invokevirtual 56, 3) := by decide +kernel
theorem dX5_babble_43 : decode cX5_babble 43 = .ok (.iload_n 1, 1) := by decide +kernel
theorem dX5_babble_44 : decode cX5_babble 44 = .ok (.istore_n 3, 1) := by decide +kernel
theorem dX5_babble_45 : decode cX5_babble 45 = .ok (.iconst 0, 1) := by decide +kernel
theorem dX5_babble_46 : decode cX5_babble 46 = .ok (.istore 4, 2) := by decide +kernel
theorem dX5_babble_48 : decode cX5_babble 48 = .ok (.iload 4, 2) := by decide +kernel
theorem dX5_babble_50 : decode cX5_babble 50 = .ok (.iload_n 2, 1) := by decide +kernel
theorem dX5_babble_51 : decode cX5_babble 51 = .ok (.if_icmp .ge 32, 3) := by decide +kernel
theorem dX5_babble_54 : decode cX5_babble 54 = .ok (.ldc 73, 2) := by decide +kernel
theorem dX5_babble_56 : decode cX5_babble 56 = .ok (.iload_n 3, 1) := by decide +kernel
theorem dX5_babble_57 : decode cX5_babble 57 = .ok (.imul, 1) := by decide +kernel
theorem dX5_babble_58 : decode cX5_babble 58 = .ok (.sipush 12345, 3) := by decide +kernel
theorem dX5_babble_61 : decode cX5_babble 61 = .ok (.iadd, 1) := by decide +kernel
theorem dX5_babble_62 : decode cX5_babble 62 = .ok (.istore_n 3, 1) := by decide +kernel
theorem dX5_babble_63 : decode cX5_babble 63 = .ok (.aload_n 0, 1) := by decide +kernel
theorem dX5_babble_64 : decode cX5_babble 64 = .ok (.getfield 20, 3) := by decide +kernel
theorem dX5_babble_67 : decode cX5_babble 67 = .ok (.iload_n 3, 1) := by decide +kernel
theorem dX5_babble_68 : decode cX5_babble 68 = .ok (.bipush 16, 2) := by decide +kernel
theorem dX5_babble_70 : decode cX5_babble 70 = .ok (.iushr, 1) := by decide +kernel
theorem dX5_babble_71 : decode cX5_babble 71 = .ok (.bipush 10, 2) := by decide +kernel
theorem dX5_babble_73 : decode cX5_babble 73 = .ok (.irem, 1) := by decide +kernel
theorem dX5_babble_74 : decode cX5_babble 74 = .ok (.invokevirtual 69, 3) := by decide +kernel
theorem dX5_babble_77 : decode cX5_babble 77 = .ok (.iinc 4 1, 3) := by decide +kernel
theorem dX5_babble_80 : decode cX5_babble 80 = .ok (.goto (-32), 3) := by decide +kernel
theorem dX5_babble_83 : decode cX5_babble 83 = .ok (.aload_n 0, 1) := by decide +kernel
theorem dX5_babble_84 : decode cX5_babble 84 = .ok (.getfield 20, 3) := by decide +kernel
theorem dX5_babble_87 : decode cX5_babble 87 = .ok (.getfield 66, 3) := by decide +kernel
theorem dX5_babble_90 : decode cX5_babble 90 = .ok (.ireturn, 1) := by decide +kernel
abbrev rm_X5_babble : Room := { frames := 4, cells := 0, slots := 0, locals := 124 }
theorem w_X5_babble_b48 {C : zC} (hx : z_ok C cX5_babble RX5 0) (hn : z_nL C = 5) (hR : z_R C = rm_X5_babble) {rr : Int × zS} (hq : z_fin C (some .int) (z_QI (z_g C) rr.1 rr.2)) {K48 : zS → Int → Int → Int → Option (Int × zS)} (hK48 : ∀ (σ : zS) (x2 : Int) (x3 : Int) (x4 : Int) , K48 σ x2 x3 x4 = some rr → z_W C σ 48 [(0, .ref (z_ad (z_g C) 62)), (2, .int (zi x2)), (3, .int (zi x3)), (4, .int (zi x4))] []) (σ : zS) (x2 : Int) (x3 : Int) (x4 : Int) (h : f_X5_babble_b48 K48 σ x2 x3 x4 = some rr) : z_W C σ 48 [(0, .ref (z_ad (z_g C) 62)), (2, .int (zi x2)), (3, .int (zi x3)), (4, .int (zi x4))] [] := by
  unfold f_X5_babble_b48 at h
  refine z_iload hx 3 dX5_babble_48 rfl ?_
  refine z_iload_n hx 1 dX5_babble_50 rfl ?_
  refine z_icmp_ge hx (tgt := 83) dX5_babble_51 (by decide) h (fun h => h) (fun hc h => ?_) (fun hc h => ?_)
  · refine z_aload_n hx 0 dX5_babble_83 rfl ?_
    refine gf_X5_recording hx wf_X5_20 dX5_babble_84 ?_
    refine gf_X2_frames hx wf_X5_66 (show 0 < 6 by decide) dX5_babble_87 ?_
    cases h
    exact z_iret hx hq dX5_babble_90
  · refine z_ldc hx (n := 1103515245) wk_X5_73 dX5_babble_54 ?_
    refine z_iload_n hx 2 dX5_babble_56 rfl ?_
    refine z_imul hx dX5_babble_57 ?_
    refine z_sipush hx (n := 12345) dX5_babble_58 rfl ?_
    refine z_iadd hx dX5_babble_61 ?_
    refine z_istore_n hx hn (lv' := [(3, .int (zi ((1103515245 * x3) + 12345))), (0, .ref (z_ad (z_g C) 62)), (2, .int (zi x2)), (4, .int (zi x4))]) dX5_babble_62 (by decide) rfl ?_
    refine z_aload_n hx 1 dX5_babble_63 rfl ?_
    refine gf_X5_recording hx wf_X5_20 dX5_babble_64 ?_
    refine z_iload_n hx 0 dX5_babble_67 rfl ?_
    refine z_bipush hx (n := 16) dX5_babble_68 rfl ?_
    refine z_iushr16 hx dX5_babble_70 ?_
    refine z_bipush hx (n := 10) dX5_babble_71 rfl ?_
    refine z_irem hx dX5_babble_73 h (fun h => ?_)
    obtain ⟨⟨⟩, σ1, h74, h⟩ := z_bind_some h
    refine z_callv hx (As := [.int (zi ((z_ushr ((1103515245 * x3) + 12345) 16).tmod 10))]) (k := 0) (met_X2_addFrame (z_l C) (z_g C) (z_ok_sd hx) (show 0 < 6 by decide) h74) (z_lt0 (z_ok_sd hx) (by decide)) (z_ka0 (z_ok_sd hx) (show 0 < 6 by decide) _) rfl rfl cv_X5_69 (z_room hR ⟨Nat.le_of_ble_eq_true rfl, Nat.le_of_ble_eq_true rfl⟩) ⟨rfl, rfl⟩ rfl rfl (Nat.le_of_ble_eq_true rfl) dX5_babble_74 ?_
    refine z_iinc hx hn 3 (lv' := [(4, .int (zi (x4 + 1))), (3, .int (zi ((1103515245 * x3) + 12345))), (0, .ref (z_ad (z_g C) 62)), (2, .int (zi x2))]) dX5_babble_77 rfl (by decide) rfl ?_
    refine z_goto hx (tgt := 48) dX5_babble_80 (by decide) ?_
    refine z_sub [2, 3, 1, 0] rfl ?_
    exact hK48 σ1 x2 ((1103515245 * x3) + 12345) (x4 + 1) h

theorem w_X5_babble_l48 {C : zC} (hx : z_ok C cX5_babble RX5 0) (hn : z_nL C = 5) (hR : z_R C = rm_X5_babble) {rr : Int × zS} (hq : z_fin C (some .int) (z_QI (z_g C) rr.1 rr.2)) : ∀ (n : Nat) (σ : zS) (x2 : Int) (x3 : Int) (x4 : Int) (_ : f_X5_babble_l48 n σ x2 x3 x4 = some rr), z_W C σ 48 [(0, .ref (z_ad (z_g C) 62)), (2, .int (zi x2)), (3, .int (zi x3)), (4, .int (zi x4))] [] := by
  intro n
  induction n with
  | zero => intro σ x2 x3 x4 h; cases h
  | succ n ih =>
    intro σ x2 x3 x4 h
    exact w_X5_babble_b48 hx hn hR hq ih σ x2 x3 x4 h
theorem w_X5_babble_b12 {C : zC} (hx : z_ok C cX5_babble RX5 0) (hn : z_nL C = 5) (hR : z_R C = rm_X5_babble) {rr : Int × zS} (hq : z_fin C (some .int) (z_QI (z_g C) rr.1 rr.2)) (σ : zS) (h : f_X5_babble_b12 σ = some rr) : z_W C σ 12 [] [] := by
  unfold f_X5_babble_b12 at h
  refine z_iconst hx (n := (-1)) dX5_babble_12 ?_
  cases h
  exact z_iret hx hq dX5_babble_13

theorem w_X5_babble {C : zC} (hx : z_ok C cX5_babble RX5 0) (hn : z_nL C = 5) (hR : z_R C = rm_X5_babble) {rr : Int × zS} (hq : z_fin C (some .int) (z_QI (z_g C) rr.1 rr.2)) (σ : zS) (x1 : Int) (x2 : Int) (h : f_X5_babble σ x1 x2 = some rr) : z_W C σ 0 [(0, .ref (z_ad (z_g C) 62)), (1, .int (zi x1)), (2, .int (zi x2))] [] := by
  unfold f_X5_babble at h
  refine z_iload_n hx 2 dX5_babble_0 rfl ?_
  refine z_iconst hx (n := 1) dX5_babble_1 ?_
  refine z_icmp_lt hx (tgt := 12) dX5_babble_2 (by decide) h (fun h => ⟨h, by decide⟩) (fun hc h => ?_) (fun hc h => ?_)
  · refine z_sub [] rfl ?_
    exact w_X5_babble_b12 hx hn hR hq σ h
  · refine z_iload_n hx 2 dX5_babble_5 rfl ?_
    refine z_sipush hx (n := 200) dX5_babble_6 rfl ?_
    refine z_icmp_le hx (tgt := 14) dX5_babble_9 (by decide) h (fun h => ⟨h, by decide⟩) (fun hc h => ?_) (fun hc h => ?_)
    · refine z_aload_n hx 0 dX5_babble_14 rfl ?_
      refine gf_X5_recording hx wf_X5_20 dX5_babble_15 ?_
      refine gf_X2_frames hx wf_X5_66 (show 0 < 6 by decide) dX5_babble_18 ?_
      refine z_iload_n hx 2 dX5_babble_21 rfl ?_
      refine z_iadd hx dX5_babble_22 ?_
      refine z_sipush hx (n := 200) dX5_babble_23 rfl ?_
      refine z_icmp_le hx (tgt := 32) dX5_babble_26 (by decide) h (fun h => ⟨h, by decide⟩) (fun hc h => ?_) (fun hc h => ?_)
      · refine z_aload_n hx 0 dX5_babble_32 rfl ?_
        refine gf_X5_history hx wf_X5_27 dX5_babble_33 ?_
        refine z_aload_n hx 0 dX5_babble_36 rfl ?_
        refine gf_X5_recording hx wf_X5_20 dX5_babble_37 ?_
        obtain ⟨⟨⟩, σ1, h40, h⟩ := z_bind_some h
        refine z_callv hx (As := [.ref (z_ad (z_g C) 0)]) (k := 60) (met_X1_keep (z_l C) (z_g C) (z_ok_sd hx) (show 0 < 6 by decide) h40) (z_lt0 (z_ok_sd hx) (by decide)) (z_kb60 (z_ok_sd hx) _) rfl rfl cv_X5_56 (z_room hR ⟨Nat.le_of_ble_eq_true rfl, Nat.le_of_ble_eq_true rfl⟩) ⟨rfl, rfl⟩ rfl rfl (Nat.le_of_ble_eq_true rfl) dX5_babble_40 ?_
        refine z_iload_n hx 1 dX5_babble_43 rfl ?_
        refine z_istore_n hx hn (lv' := [(3, .int (zi x1)), (0, .ref (z_ad (z_g C) 62)), (1, .int (zi x1)), (2, .int (zi x2))]) dX5_babble_44 (by decide) rfl ?_
        refine z_iconst hx (n := 0) dX5_babble_45 ?_
        refine z_istore hx hn (lv' := [(4, .int (zi 0)), (3, .int (zi x1)), (0, .ref (z_ad (z_g C) 62)), (1, .int (zi x1)), (2, .int (zi x2))]) dX5_babble_46 (by decide) rfl ?_
        refine z_sub [2, 4, 1, 0] rfl ?_
        exact w_X5_babble_l48 hx hn hR hq z_fuel σ1 x2 x1 0 h
      · refine z_bipush hx (n := (-3)) dX5_babble_29 rfl ?_
        cases h
        exact z_iret hx hq dX5_babble_31
    · refine z_sub [] rfl ?_
      exact w_X5_babble_b12 hx hn hR hq σ h

theorem met_X5_babble (l : Launch) (g : zG) (hg : g.1 = 0) {σ : zS} {x1 : Int} {x2 : Int} {rr : Int × zS} (h : f_X5_babble σ x1 x2 = some rr) : z_Met l yX5_babble cX5_babble 5 (some .int) rm_X5_babble g [.ref (z_ad (g) 62), .int (zi x1), .int (zi x2)] σ (z_QI g rr.1 rr.2) := by
  refine z_enter (own := RX5) (sd := 0) (lv0 := [(0, .ref (z_ad (g) 62)), (1, .int (zi x1)), (2, .int (zi x2))]) (by decide) rfl (Nat.le_of_ble_eq_true rfl) hg rfl (fun C hx hl hgC hR hn hq => ?_)
  subst hgC
  refine z_sub [0, 1, 2] rfl ?_
  exact w_X5_babble hx hn hR hq σ x1 x2 h
theorem dX5_mark_0 : decode cX5_mark 0 = .ok (.iload_n 1, 1) := by decide +kernel
theorem dX5_mark_1 : decode cX5_mark 1 = .ok (.ifCond .lt 20, 3) := by decide +kernel
theorem dX5_mark_4 : decode cX5_mark 4 = .ok (.iload_n 1, 1) := by decide +kernel
theorem dX5_mark_5 : decode cX5_mark 5 = .ok (.iconst 3, 1) := by decide +kernel
theorem dX5_mark_6 : decode cX5_mark 6 = .ok (.if_icmp .gt 15, 3) := by decide +kernel
theorem dX5_mark_9 : decode cX5_mark 9 = .ok (.iload 4, 2) := by decide +kernel
theorem dX5_mark_11 : decode cX5_mark 11 = .ok (.ifCond .lt 10, 3) := by decide +kernel
theorem dX5_mark_14 : decode cX5_mark 14 = .ok (.iload 4, 2) := by decide +kernel
theorem dX5_mark_16 : decode cX5_mark 16 = .ok (.bipush 100, 2) := by decide +kernel
theorem dX5_mark_18 : decode cX5_mark 18 = .ok (.if_icmp .le 5, 3) := by decide +kernel
theorem dX5_mark_21 : decode cX5_mark 21 = .ok (.iconst (-1), 1) := by decide +kernel
theorem dX5_mark_22 : decode cX5_mark 22 = .ok (.ireturn, 1) := by decide +kernel
theorem dX5_mark_23 : decode cX5_mark 23 = .ok (.iload_n 2, 1) := by decide +kernel
theorem dX5_mark_24 : decode cX5_mark 24 = .ok (.ifCond .lt 19, 3) := by decide +kernel
theorem dX5_mark_27 : decode cX5_mark 27 = .ok (.iload_n 3, 1) := by decide +kernel
theorem dX5_mark_28 : decode cX5_mark 28 = .ok (.aload_n 0, 1) := by decide +kernel
theorem dX5_mark_29 : decode cX5_mark 29 = .ok (.getfield 20, 3) := by decide +kernel
theorem dX5_mark_32 : decode cX5_mark 32 = .ok (.getfield 66, 3) := by decide +kernel
theorem dX5_mark_35 : decode cX5_mark 35 = .ok (.if_icmp .gt 8, 3) := by decide +kernel
theorem dX5_mark_38 : decode cX5_mark 38 = .ok (.iload_n 3, 1) := by decide +kernel
theorem dX5_mark_39 : decode cX5_mark 39 = .ok (.iload_n 2, 1) := by decide +kernel
theorem dX5_mark_40 : decode cX5_mark 40 = .ok (.if_icmp .gt 5, 3) := by decide +kernel
theorem dX5_mark_43 : decode cX5_mark 43 = .ok (.iconst (-1), 1) := by decide +kernel
theorem dX5_mark_44 : decode cX5_mark 44 = .ok (.ireturn, 1) := by decide +kernel
theorem dX5_mark_45 : decode cX5_mark 45 = .ok (.aload_n 0, 1) := by decide +kernel
theorem dX5_mark_46 : decode cX5_mark 46 = .ok (.getfield 20, 3) := by decide +kernel
theorem dX5_mark_49 : decode cX5_mark 49 = .ok (.iload_n 2, 1) := by decide +kernel
theorem dX5_mark_50 : decode cX5_mark 50 = .ok (.iload_n 3, 1) := by decide +kernel
theorem dX5_mark_51 : decode cX5_mark 51 = .ok (.invokevirtual 74, 3) := by decide +kernel
theorem dX5_mark_54 : decode cX5_mark 54 = .ok (.ifCond .eq 6, 3) := by decide +kernel
theorem dX5_mark_57 : decode cX5_mark 57 = .ok (.bipush (-2), 2) := by decide +kernel
theorem dX5_mark_59 : decode cX5_mark 59 = .ok (.ireturn, 1) := by decide +kernel
theorem dX5_mark_60 : decode cX5_mark 60 = .ok (.aload_n 0, 1) := by decide +kernel
theorem dX5_mark_61 : decode cX5_mark 61 = .ok (.getfield 20, 3) := by decide +kernel
theorem dX5_mark_64 : decode cX5_mark 64 = .ok (.getfield 78, 3) := by decide +kernel
theorem dX5_mark_67 : decode cX5_mark 67 = .ok (.bipush 20, 2) := by decide +kernel
theorem dX5_mark_69 : decode cX5_mark 69 = .ok (.if_icmp .lt 6, 3) := by decide +kernel
theorem dX5_mark_72 : decode cX5_mark 72 = .ok (.bipush (-3), 2) := by decide +kernel
theorem dX5_mark_74 : decode cX5_mark 74 = .ok (.ireturn, 1) := by decide +kernel
theorem dX5_mark_75 : decode cX5_mark 75 = .ok (.aload_n 0, 1) := by decide +kernel
theorem dX5_mark_76 : decode cX5_mark 76 = .ok (.getfield 27, 3) := by decide +kernel
theorem dX5_mark_79 : decode cX5_mark 79 = .ok (.aload_n 0, 1) := by decide +kernel
theorem dX5_mark_80 : decode cX5_mark 80 = .ok (.getfield 20, 3) := by decide +kernel
theorem dX5_mark_83 : decode cX5_mark 83 = .ok (.invokevirtual 56, 3) := by decide +kernel
theorem dX5_mark_86 : decode cX5_mark 86 = .ok (.aload_n 0, 1) := by decide +kernel
theorem dX5_mark_87 : decode cX5_mark 87 = .ok (.getfield 20, 3) := by decide +kernel
theorem dX5_mark_90 : decode cX5_mark 90 = .ok (.iload_n 1, 1) := by decide +kernel
theorem dX5_mark_91 : decode cX5_mark 91 = .ok (.iload_n 2, 1) := by decide +kernel
theorem dX5_mark_92 : decode cX5_mark 92 = .ok (.iload_n 3, 1) := by decide +kernel
theorem dX5_mark_93 : decode cX5_mark 93 = .ok (.iload 4, 2) := by decide +kernel
theorem dX5_mark_95 : decode cX5_mark 95 = .ok (.invokevirtual 81, 3) := by decide +kernel
theorem dX5_mark_98 : decode cX5_mark 98 = .ok (.ireturn, 1) := by decide +kernel
abbrev rm_X5_mark : Room := { frames := 4, cells := 0, slots := 0, locals := 124 }
theorem w_X5_mark_b43 {C : zC} (hx : z_ok C cX5_mark RX5 0) (hn : z_nL C = 5) (hR : z_R C = rm_X5_mark) {rr : Int × zS} (hq : z_fin C (some .int) (z_QI (z_g C) rr.1 rr.2)) (σ : zS) (h : f_X5_mark_b43 σ = some rr) : z_W C σ 43 [] [] := by
  unfold f_X5_mark_b43 at h
  refine z_iconst hx (n := (-1)) dX5_mark_43 ?_
  cases h
  exact z_iret hx hq dX5_mark_44

theorem w_X5_mark_b21 {C : zC} (hx : z_ok C cX5_mark RX5 0) (hn : z_nL C = 5) (hR : z_R C = rm_X5_mark) {rr : Int × zS} (hq : z_fin C (some .int) (z_QI (z_g C) rr.1 rr.2)) (σ : zS) (h : f_X5_mark_b21 σ = some rr) : z_W C σ 21 [] [] := by
  unfold f_X5_mark_b21 at h
  refine z_iconst hx (n := (-1)) dX5_mark_21 ?_
  cases h
  exact z_iret hx hq dX5_mark_22

theorem w_X5_mark {C : zC} (hx : z_ok C cX5_mark RX5 0) (hn : z_nL C = 5) (hR : z_R C = rm_X5_mark) {rr : Int × zS} (hq : z_fin C (some .int) (z_QI (z_g C) rr.1 rr.2)) (σ : zS) (x1 : Int) (x2 : Int) (x3 : Int) (x4 : Int) (h : f_X5_mark σ x1 x2 x3 x4 = some rr) : z_W C σ 0 [(0, .ref (z_ad (z_g C) 62)), (1, .int (zi x1)), (2, .int (zi x2)), (3, .int (zi x3)), (4, .int (zi x4))] [] := by
  unfold f_X5_mark at h
  refine z_iload_n hx 1 dX5_mark_0 rfl ?_
  refine z_if_lt hx (tgt := 21) dX5_mark_1 (by decide) h (fun h => h) (fun hc h => ?_) (fun hc h => ?_)
  · refine z_sub [] rfl ?_
    exact w_X5_mark_b21 hx hn hR hq σ h
  · refine z_iload_n hx 1 dX5_mark_4 rfl ?_
    refine z_iconst hx (n := 3) dX5_mark_5 ?_
    refine z_icmp_gt hx (tgt := 21) dX5_mark_6 (by decide) h (fun h => ⟨h, by decide⟩) (fun hc h => ?_) (fun hc h => ?_)
    · refine z_sub [] rfl ?_
      exact w_X5_mark_b21 hx hn hR hq σ h
    · refine z_iload hx 4 dX5_mark_9 rfl ?_
      refine z_if_lt hx (tgt := 21) dX5_mark_11 (by decide) h (fun h => h) (fun hc h => ?_) (fun hc h => ?_)
      · refine z_sub [] rfl ?_
        exact w_X5_mark_b21 hx hn hR hq σ h
      · refine z_iload hx 4 dX5_mark_14 rfl ?_
        refine z_bipush hx (n := 100) dX5_mark_16 rfl ?_
        refine z_icmp_le hx (tgt := 23) dX5_mark_18 (by decide) h (fun h => ⟨h, by decide⟩) (fun hc h => ?_) (fun hc h => ?_)
        · refine z_iload_n hx 2 dX5_mark_23 rfl ?_
          refine z_if_lt hx (tgt := 43) dX5_mark_24 (by decide) h (fun h => h) (fun hc h => ?_) (fun hc h => ?_)
          · refine z_sub [] rfl ?_
            exact w_X5_mark_b43 hx hn hR hq σ h
          · refine z_iload_n hx 3 dX5_mark_27 rfl ?_
            refine z_aload_n hx 0 dX5_mark_28 rfl ?_
            refine gf_X5_recording hx wf_X5_20 dX5_mark_29 ?_
            refine gf_X2_frames hx wf_X5_66 (show 0 < 6 by decide) dX5_mark_32 ?_
            refine z_icmp_gt hx (tgt := 43) dX5_mark_35 (by decide) h (fun h => h) (fun hc h => ?_) (fun hc h => ?_)
            · refine z_sub [] rfl ?_
              exact w_X5_mark_b43 hx hn hR hq σ h
            · refine z_iload_n hx 3 dX5_mark_38 rfl ?_
              refine z_iload_n hx 2 dX5_mark_39 rfl ?_
              refine z_icmp_gt hx (tgt := 45) dX5_mark_40 (by decide) h (fun h => h) (fun hc h => ?_) (fun hc h => ?_)
              · refine z_aload_n hx 0 dX5_mark_45 rfl ?_
                refine gf_X5_recording hx wf_X5_20 dX5_mark_46 ?_
                refine z_iload_n hx 2 dX5_mark_49 rfl ?_
                refine z_iload_n hx 3 dX5_mark_50 rfl ?_
                obtain ⟨r2, σ1, h51, h⟩ := z_bind_some h
                refine z_calli hx (As := [.int (zi x2), .int (zi x3)]) (k := 0) (met_X2_overlaps (z_l C) (z_g C) (z_ok_sd hx) (show 0 < 6 by decide) h51) (z_lt0 (z_ok_sd hx) (by decide)) (z_ka0 (z_ok_sd hx) (show 0 < 6 by decide) _) rfl rfl cv_X5_74 (z_room hR ⟨Nat.le_of_ble_eq_true rfl, Nat.le_of_ble_eq_true rfl⟩) ⟨rfl, rfl⟩ rfl rfl (Nat.le_of_ble_eq_true rfl) dX5_mark_51 ?_
                refine z_if_eq hx (tgt := 60) dX5_mark_54 (by decide) h (fun h => h) (fun hc h => ?_) (fun hc h => ?_)
                · refine z_aload_n hx 0 dX5_mark_60 rfl ?_
                  refine gf_X5_recording hx wf_X5_20 dX5_mark_61 ?_
                  refine gf_X2_marks hx wf_X5_78 (show 0 < 6 by decide) dX5_mark_64 ?_
                  refine z_bipush hx (n := 20) dX5_mark_67 rfl ?_
                  refine z_icmp_lt hx (tgt := 75) dX5_mark_69 (by decide) h (fun h => ⟨h, by decide⟩) (fun hc h => ?_) (fun hc h => ?_)
                  · refine z_aload_n hx 0 dX5_mark_75 rfl ?_
                    refine gf_X5_history hx wf_X5_27 dX5_mark_76 ?_
                    refine z_aload_n hx 0 dX5_mark_79 rfl ?_
                    refine gf_X5_recording hx wf_X5_20 dX5_mark_80 ?_
                    obtain ⟨⟨⟩, σ3, h83, h⟩ := z_bind_some h
                    refine z_callv hx (As := [.ref (z_ad (z_g C) 0)]) (k := 60) (met_X1_keep (z_l C) (z_g C) (z_ok_sd hx) (show 0 < 6 by decide) h83) (z_lt0 (z_ok_sd hx) (by decide)) (z_kb60 (z_ok_sd hx) _) rfl rfl cv_X5_56 (z_room hR ⟨Nat.le_of_ble_eq_true rfl, Nat.le_of_ble_eq_true rfl⟩) ⟨rfl, rfl⟩ rfl rfl (Nat.le_of_ble_eq_true rfl) dX5_mark_83 ?_
                    refine z_aload_n hx 0 dX5_mark_86 rfl ?_
                    refine gf_X5_recording hx wf_X5_20 dX5_mark_87 ?_
                    refine z_iload_n hx 1 dX5_mark_90 rfl ?_
                    refine z_iload_n hx 2 dX5_mark_91 rfl ?_
                    refine z_iload_n hx 3 dX5_mark_92 rfl ?_
                    refine z_iload hx 4 dX5_mark_93 rfl ?_
                    obtain ⟨r5, σ4, h95, h⟩ := z_bind_some h
                    refine z_calli hx (As := [.int (zi x1), .int (zi x2), .int (zi x3), .int (zi x4)]) (k := 0) (met_X2_addMark (z_l C) (z_g C) (z_ok_sd hx) (show 0 < 6 by decide) h95) (z_lt0 (z_ok_sd hx) (by decide)) (z_ka0 (z_ok_sd hx) (show 0 < 6 by decide) _) rfl rfl cv_X5_81 (z_room hR ⟨Nat.le_of_ble_eq_true rfl, Nat.le_of_ble_eq_true rfl⟩) ⟨rfl, rfl⟩ rfl rfl (Nat.le_of_ble_eq_true rfl) dX5_mark_95 ?_
                    cases h
                    exact z_iret hx hq dX5_mark_98
                  · refine z_bipush hx (n := (-3)) dX5_mark_72 rfl ?_
                    cases h
                    exact z_iret hx hq dX5_mark_74
                · refine z_bipush hx (n := (-2)) dX5_mark_57 rfl ?_
                  cases h
                  exact z_iret hx hq dX5_mark_59
              · refine z_sub [] rfl ?_
                exact w_X5_mark_b43 hx hn hR hq σ h
        · refine z_sub [] rfl ?_
          exact w_X5_mark_b21 hx hn hR hq σ h

theorem met_X5_mark (l : Launch) (g : zG) (hg : g.1 = 0) {σ : zS} {x1 : Int} {x2 : Int} {x3 : Int} {x4 : Int} {rr : Int × zS} (h : f_X5_mark σ x1 x2 x3 x4 = some rr) : z_Met l yX5_mark cX5_mark 5 (some .int) rm_X5_mark g [.ref (z_ad (g) 62), .int (zi x1), .int (zi x2), .int (zi x3), .int (zi x4)] σ (z_QI g rr.1 rr.2) := by
  refine z_enter (own := RX5) (sd := 0) (lv0 := [(0, .ref (z_ad (g) 62)), (1, .int (zi x1)), (2, .int (zi x2)), (3, .int (zi x3)), (4, .int (zi x4))]) (by decide) rfl (Nat.le_of_ble_eq_true rfl) hg rfl (fun C hx hl hgC hR hn hq => ?_)
  subst hgC
  refine z_sub [0, 1, 2, 3, 4] rfl ?_
  exact w_X5_mark hx hn hR hq σ x1 x2 x3 x4 h
theorem dX5_unmark_0 : decode cX5_unmark 0 = .ok (.aload_n 0, 1) := by decide +kernel
theorem dX5_unmark_1 : decode cX5_unmark 1 = .ok (.getfield 20, 3) := by decide +kernel
theorem dX5_unmark_4 : decode cX5_unmark 4 = .ok (.iload_n 1, 1) := by decide +kernel
theorem dX5_unmark_5 : decode cX5_unmark 5 = .ok (.invokevirtual 85, 3) := by decide +kernel
theorem dX5_unmark_8 : decode cX5_unmark 8 = .ok (.ifCond .ne 5, 3) := by decide +kernel
theorem dX5_unmark_11 : decode cX5_unmark 11 = .ok (.iconst (-1), 1) := by decide +kernel
theorem dX5_unmark_12 : decode cX5_unmark 12 = .ok (.ireturn, 1) := by decide +kernel
theorem dX5_unmark_13 : decode cX5_unmark 13 = .ok (.aload_n 0, 1) := by decide +kernel
theorem dX5_unmark_14 : decode cX5_unmark 14 = .ok (.getfield 27, 3) := by decide +kernel
theorem dX5_unmark_17 : decode cX5_unmark 17 = .ok (.aload_n 0, 1) := by decide +kernel
theorem dX5_unmark_18 : decode cX5_unmark 18 = .ok (.getfield 20, 3) := by decide +kernel
theorem dX5_unmark_21 : decode cX5_unmark 21 = .ok (.invokevirtual 56, 3) := by decide +kernel
theorem dX5_unmark_24 : decode cX5_unmark 24 = .ok (.aload_n 0, 1) := by decide +kernel
theorem dX5_unmark_25 : decode cX5_unmark 25 = .ok (.getfield 20, 3) := by decide +kernel
theorem dX5_unmark_28 : decode cX5_unmark 28 = .ok (.iload_n 1, 1) := by decide +kernel
theorem dX5_unmark_29 : decode cX5_unmark 29 = .ok (.invokevirtual 89, 3) := by decide +kernel
theorem dX5_unmark_32 : decode cX5_unmark 32 = .ok (.aload_n 0, 1) := by decide +kernel
theorem dX5_unmark_33 : decode cX5_unmark 33 = .ok (.getfield 20, 3) := by decide +kernel
theorem dX5_unmark_36 : decode cX5_unmark 36 = .ok (.getfield 78, 3) := by decide +kernel
theorem dX5_unmark_39 : decode cX5_unmark 39 = .ok (.ireturn, 1) := by decide +kernel
abbrev rm_X5_unmark : Room := { frames := 4, cells := 0, slots := 0, locals := 124 }
theorem w_X5_unmark {C : zC} (hx : z_ok C cX5_unmark RX5 0) (hn : z_nL C = 2) (hR : z_R C = rm_X5_unmark) {rr : Int × zS} (hq : z_fin C (some .int) (z_QI (z_g C) rr.1 rr.2)) (σ : zS) (x1 : Int) (h : f_X5_unmark σ x1 = some rr) : z_W C σ 0 [(0, .ref (z_ad (z_g C) 62)), (1, .int (zi x1))] [] := by
  unfold f_X5_unmark at h
  refine z_aload_n hx 0 dX5_unmark_0 rfl ?_
  refine gf_X5_recording hx wf_X5_20 dX5_unmark_1 ?_
  refine z_iload_n hx 1 dX5_unmark_4 rfl ?_
  obtain ⟨r2, σ1, h5, h⟩ := z_bind_some h
  refine z_calli hx (As := [.int (zi x1)]) (k := 0) (met_X2_hasMark (z_l C) (z_g C) (z_ok_sd hx) (show 0 < 6 by decide) h5) (z_lt0 (z_ok_sd hx) (by decide)) (z_ka0 (z_ok_sd hx) (show 0 < 6 by decide) _) rfl rfl cv_X5_85 (z_room hR ⟨Nat.le_of_ble_eq_true rfl, Nat.le_of_ble_eq_true rfl⟩) ⟨rfl, rfl⟩ rfl rfl (Nat.le_of_ble_eq_true rfl) dX5_unmark_5 ?_
  refine z_if_ne hx (tgt := 13) dX5_unmark_8 (by decide) h (fun h => h) (fun hc h => ?_) (fun hc h => ?_)
  · refine z_aload_n hx 0 dX5_unmark_13 rfl ?_
    refine gf_X5_history hx wf_X5_27 dX5_unmark_14 ?_
    refine z_aload_n hx 0 dX5_unmark_17 rfl ?_
    refine gf_X5_recording hx wf_X5_20 dX5_unmark_18 ?_
    obtain ⟨⟨⟩, σ3, h21, h⟩ := z_bind_some h
    refine z_callv hx (As := [.ref (z_ad (z_g C) 0)]) (k := 60) (met_X1_keep (z_l C) (z_g C) (z_ok_sd hx) (show 0 < 6 by decide) h21) (z_lt0 (z_ok_sd hx) (by decide)) (z_kb60 (z_ok_sd hx) _) rfl rfl cv_X5_56 (z_room hR ⟨Nat.le_of_ble_eq_true rfl, Nat.le_of_ble_eq_true rfl⟩) ⟨rfl, rfl⟩ rfl rfl (Nat.le_of_ble_eq_true rfl) dX5_unmark_21 ?_
    refine z_aload_n hx 0 dX5_unmark_24 rfl ?_
    refine gf_X5_recording hx wf_X5_20 dX5_unmark_25 ?_
    refine z_iload_n hx 1 dX5_unmark_28 rfl ?_
    obtain ⟨⟨⟩, σ4, h29, h⟩ := z_bind_some h
    refine z_callv hx (As := [.int (zi x1)]) (k := 0) (met_X2_removeMark (z_l C) (z_g C) (z_ok_sd hx) (show 0 < 6 by decide) h29) (z_lt0 (z_ok_sd hx) (by decide)) (z_ka0 (z_ok_sd hx) (show 0 < 6 by decide) _) rfl rfl cv_X5_89 (z_room hR ⟨Nat.le_of_ble_eq_true rfl, Nat.le_of_ble_eq_true rfl⟩) ⟨rfl, rfl⟩ rfl rfl (Nat.le_of_ble_eq_true rfl) dX5_unmark_29 ?_
    refine z_aload_n hx 0 dX5_unmark_32 rfl ?_
    refine gf_X5_recording hx wf_X5_20 dX5_unmark_33 ?_
    refine gf_X2_marks hx wf_X5_78 (show 0 < 6 by decide) dX5_unmark_36 ?_
    cases h
    exact z_iret hx hq dX5_unmark_39
  · refine z_iconst hx (n := (-1)) dX5_unmark_11 ?_
    cases h
    exact z_iret hx hq dX5_unmark_12

theorem met_X5_unmark (l : Launch) (g : zG) (hg : g.1 = 0) {σ : zS} {x1 : Int} {rr : Int × zS} (h : f_X5_unmark σ x1 = some rr) : z_Met l yX5_unmark cX5_unmark 2 (some .int) rm_X5_unmark g [.ref (z_ad (g) 62), .int (zi x1)] σ (z_QI g rr.1 rr.2) := by
  refine z_enter (own := RX5) (sd := 0) (lv0 := [(0, .ref (z_ad (g) 62)), (1, .int (zi x1))]) (by decide) rfl (Nat.le_of_ble_eq_true rfl) hg rfl (fun C hx hl hgC hR hn hq => ?_)
  subst hgC
  refine z_sub [0, 1] rfl ?_
  exact w_X5_unmark hx hn hR hq σ x1 h
theorem dX5_hold_0 : decode cX5_hold 0 = .ok (.aload_n 0, 1) := by decide +kernel
theorem dX5_hold_1 : decode cX5_hold 1 = .ok (.getfield 20, 3) := by decide +kernel
theorem dX5_hold_4 : decode cX5_hold 4 = .ok (.iload_n 1, 1) := by decide +kernel
theorem dX5_hold_5 : decode cX5_hold 5 = .ok (.invokevirtual 85, 3) := by decide +kernel
theorem dX5_hold_8 : decode cX5_hold 8 = .ok (.ifCond .ne 5, 3) := by decide +kernel
theorem dX5_hold_11 : decode cX5_hold 11 = .ok (.iconst (-1), 1) := by decide +kernel
theorem dX5_hold_12 : decode cX5_hold 12 = .ok (.ireturn, 1) := by decide +kernel
theorem dX5_hold_13 : decode cX5_hold 13 = .ok (.aload_n 0, 1) := by decide +kernel
theorem dX5_hold_14 : decode cX5_hold 14 = .ok (.getfield 27, 3) := by decide +kernel
theorem dX5_hold_17 : decode cX5_hold 17 = .ok (.aload_n 0, 1) := by decide +kernel
theorem dX5_hold_18 : decode cX5_hold 18 = .ok (.getfield 20, 3) := by decide +kernel
theorem dX5_hold_21 : decode cX5_hold 21 = .ok (.invokevirtual 56, 3) := by decide +kernel
theorem dX5_hold_24 : decode cX5_hold 24 = .ok (.aload_n 0, 1) := by decide +kernel
theorem dX5_hold_25 : decode cX5_hold 25 = .ok (.getfield 20, 3) := by decide +kernel
theorem dX5_hold_28 : decode cX5_hold 28 = .ok (.getfield 92, 3) := by decide +kernel
theorem dX5_hold_31 : decode cX5_hold 31 = .ok (.iload_n 1, 1) := by decide +kernel
theorem dX5_hold_32 : decode cX5_hold 32 = .ok (.baload, 1) := by decide +kernel
theorem dX5_hold_33 : decode cX5_hold 33 = .ok (.ifCond .eq 7, 3) := by decide +kernel
theorem dX5_hold_36 : decode cX5_hold 36 = .ok (.iconst 1, 1) := by decide +kernel
theorem dX5_hold_37 : decode cX5_hold 37 = .ok (.goto 4, 3) := by decide +kernel
theorem dX5_hold_40 : decode cX5_hold 40 = .ok (.iconst 0, 1) := by decide +kernel
theorem dX5_hold_41 : decode cX5_hold 41 = .ok (.istore_n 3, 1) := by decide +kernel
theorem dX5_hold_42 : decode cX5_hold 42 = .ok (.aload_n 0, 1) := by decide +kernel
theorem dX5_hold_43 : decode cX5_hold 43 = .ok (.getfield 20, 3) := by decide +kernel
theorem dX5_hold_46 : decode cX5_hold 46 = .ok (.getfield 92, 3) := by decide +kernel
theorem dX5_hold_49 : decode cX5_hold 49 = .ok (.iload_n 1, 1) := by decide +kernel
theorem dX5_hold_50 : decode cX5_hold 50 = .ok (.iload_n 2, 1) := by decide +kernel
theorem dX5_hold_51 : decode cX5_hold 51 = .ok (.bastore, 1) := by decide +kernel
theorem dX5_hold_52 : decode cX5_hold 52 = .ok (.iload_n 3, 1) := by decide +kernel
theorem dX5_hold_53 : decode cX5_hold 53 = .ok (.ireturn, 1) := by decide +kernel
abbrev rm_X5_hold : Room := { frames := 4, cells := 0, slots := 0, locals := 124 }
theorem w_X5_hold_b41 {C : zC} (hx : z_ok C cX5_hold RX5 0) (hn : z_nL C = 4) (hR : z_R C = rm_X5_hold) {rr : Int × zS} (hq : z_fin C (some .int) (z_QI (z_g C) rr.1 rr.2)) (σ : zS) (x1 : Int) (x2 : Int) (s0 : Int) (h : f_X5_hold_b41 σ x1 x2 s0 = some rr) : z_W C σ 41 [(0, .ref (z_ad (z_g C) 62)), (1, .int (zi x1)), (2, .int (zi x2))] [.int (zi s0)] := by
  unfold f_X5_hold_b41 at h
  refine z_istore_n hx hn (lv' := [(3, .int (zi s0)), (0, .ref (z_ad (z_g C) 62)), (1, .int (zi x1)), (2, .int (zi x2))]) dX5_hold_41 (by decide) rfl ?_
  refine z_aload_n hx 1 dX5_hold_42 rfl ?_
  refine gf_X5_recording hx wf_X5_20 dX5_hold_43 ?_
  refine gf_X2_held hx wf_X5_92 (show 0 < 6 by decide) dX5_hold_46 ?_
  refine z_iload_n hx 2 dX5_hold_49 rfl ?_
  refine z_iload_n hx 3 dX5_hold_50 rfl ?_
  refine z_zast hx (n := 20) (z_lt0 (z_ok_sd hx) (by decide)) (z_ka6 (z_ok_sd hx) (show 0 < 6 by decide)) rfl (by decide) dX5_hold_51 h (fun σ1 h => ?_)
  refine z_iload_n hx 0 dX5_hold_52 rfl ?_
  cases h
  exact z_iret hx hq dX5_hold_53

theorem w_X5_hold {C : zC} (hx : z_ok C cX5_hold RX5 0) (hn : z_nL C = 4) (hR : z_R C = rm_X5_hold) {rr : Int × zS} (hq : z_fin C (some .int) (z_QI (z_g C) rr.1 rr.2)) (σ : zS) (x1 : Int) (x2 : Int) (h : f_X5_hold σ x1 x2 = some rr) : z_W C σ 0 [(0, .ref (z_ad (z_g C) 62)), (1, .int (zi x1)), (2, .int (zi x2))] [] := by
  unfold f_X5_hold at h
  refine z_aload_n hx 0 dX5_hold_0 rfl ?_
  refine gf_X5_recording hx wf_X5_20 dX5_hold_1 ?_
  refine z_iload_n hx 1 dX5_hold_4 rfl ?_
  obtain ⟨r2, σ1, h5, h⟩ := z_bind_some h
  refine z_calli hx (As := [.int (zi x1)]) (k := 0) (met_X2_hasMark (z_l C) (z_g C) (z_ok_sd hx) (show 0 < 6 by decide) h5) (z_lt0 (z_ok_sd hx) (by decide)) (z_ka0 (z_ok_sd hx) (show 0 < 6 by decide) _) rfl rfl cv_X5_85 (z_room hR ⟨Nat.le_of_ble_eq_true rfl, Nat.le_of_ble_eq_true rfl⟩) ⟨rfl, rfl⟩ rfl rfl (Nat.le_of_ble_eq_true rfl) dX5_hold_5 ?_
  refine z_if_ne hx (tgt := 13) dX5_hold_8 (by decide) h (fun h => h) (fun hc h => ?_) (fun hc h => ?_)
  · refine z_aload_n hx 0 dX5_hold_13 rfl ?_
    refine gf_X5_history hx wf_X5_27 dX5_hold_14 ?_
    refine z_aload_n hx 0 dX5_hold_17 rfl ?_
    refine gf_X5_recording hx wf_X5_20 dX5_hold_18 ?_
    obtain ⟨⟨⟩, σ3, h21, h⟩ := z_bind_some h
    refine z_callv hx (As := [.ref (z_ad (z_g C) 0)]) (k := 60) (met_X1_keep (z_l C) (z_g C) (z_ok_sd hx) (show 0 < 6 by decide) h21) (z_lt0 (z_ok_sd hx) (by decide)) (z_kb60 (z_ok_sd hx) _) rfl rfl cv_X5_56 (z_room hR ⟨Nat.le_of_ble_eq_true rfl, Nat.le_of_ble_eq_true rfl⟩) ⟨rfl, rfl⟩ rfl rfl (Nat.le_of_ble_eq_true rfl) dX5_hold_21 ?_
    refine z_aload_n hx 0 dX5_hold_24 rfl ?_
    refine gf_X5_recording hx wf_X5_20 dX5_hold_25 ?_
    refine gf_X2_held hx wf_X5_92 (show 0 < 6 by decide) dX5_hold_28 ?_
    refine z_iload_n hx 1 dX5_hold_31 rfl ?_
    refine z_zald hx (n := 20) (z_lt0 (z_ok_sd hx) (by decide)) (z_ka6 (z_ok_sd hx) (show 0 < 6 by decide) _) rfl (by decide) dX5_hold_32 h (fun h => ?_)
    refine z_if_eq hx (tgt := 40) dX5_hold_33 (by decide) h (fun h => h) (fun hc h => ?_) (fun hc h => ?_)
    · refine z_iconst hx (n := 0) dX5_hold_40 ?_
      refine z_sub [0, 1, 2] rfl ?_
      exact w_X5_hold_b41 hx hn hR hq σ3 x1 x2 0 h
    · refine z_iconst hx (n := 1) dX5_hold_36 ?_
      refine z_goto hx (tgt := 41) dX5_hold_37 (by decide) ?_
      refine z_sub [0, 1, 2] rfl ?_
      exact w_X5_hold_b41 hx hn hR hq σ3 x1 x2 1 h
  · refine z_iconst hx (n := (-1)) dX5_hold_11 ?_
    cases h
    exact z_iret hx hq dX5_hold_12

theorem met_X5_hold (l : Launch) (g : zG) (hg : g.1 = 0) {σ : zS} {x1 : Int} {x2 : Int} {rr : Int × zS} (h : f_X5_hold σ x1 x2 = some rr) : z_Met l yX5_hold cX5_hold 4 (some .int) rm_X5_hold g [.ref (z_ad (g) 62), .int (zi x1), .int (zi x2)] σ (z_QI g rr.1 rr.2) := by
  refine z_enter (own := RX5) (sd := 0) (lv0 := [(0, .ref (z_ad (g) 62)), (1, .int (zi x1)), (2, .int (zi x2))]) (by decide) rfl (Nat.le_of_ble_eq_true rfl) hg rfl (fun C hx hl hgC hR hn hq => ?_)
  subst hgC
  refine z_sub [0, 1, 2] rfl ?_
  exact w_X5_hold hx hn hR hq σ x1 x2 h
theorem dX5_setting_0 : decode cX5_setting 0 = .ok (.iload_n 1, 1) := by decide +kernel
theorem dX5_setting_1 : decode cX5_setting 1 = .ok (.ifCond .lt 9, 3) := by decide +kernel
theorem dX5_setting_4 : decode cX5_setting 4 = .ok (.iload_n 1, 1) := by decide +kernel
theorem dX5_setting_5 : decode cX5_setting 5 = .ok (.bipush 8, 2) := by decide +kernel
theorem dX5_setting_7 : decode cX5_setting 7 = .ok (.if_icmp .le 5, 3) := by decide +kernel
theorem dX5_setting_10 : decode cX5_setting 10 = .ok (.iconst (-1), 1) := by decide +kernel
theorem dX5_setting_11 : decode cX5_setting 11 = .ok (.ireturn, 1) := by decide +kernel
theorem dX5_setting_12 : decode cX5_setting 12 = .ok (.iload_n 1, 1) := by decide +kernel
theorem dX5_setting_13 : decode cX5_setting 13 = .ok (.bipush 7, 2) := by decide +kernel
theorem dX5_setting_15 : decode cX5_setting 15 = .ok (.if_icmp .ge 13, 3) := by decide +kernel
theorem dX5_setting_18 : decode cX5_setting 18 = .ok (.aload_n 0, 1) := by decide +kernel
theorem dX5_setting_19 : decode cX5_setting 19 = .ok (.getfield 20, 3) := by decide +kernel
theorem dX5_setting_22 : decode cX5_setting 22 = .ok (.getfield 99, 3) := by decide +kernel
theorem dX5_setting_25 : decode cX5_setting 25 = .ok (.iload_n 1, 1) := by decide +kernel
theorem dX5_setting_26 : decode cX5_setting 26 = .ok (.iaload, 1) := by decide +kernel
theorem dX5_setting_27 : decode cX5_setting 27 = .ok (.ireturn, 1) := by decide +kernel
theorem dX5_setting_28 : decode cX5_setting 28 = .ok (.iload_n 1, 1) := by decide +kernel
theorem dX5_setting_29 : decode cX5_setting 29 = .ok (.bipush 7, 2) := by decide +kernel
theorem dX5_setting_31 : decode cX5_setting 31 = .ok (.if_icmp .ne 13, 3) := by decide +kernel
theorem dX5_setting_34 : decode cX5_setting 34 = .ok (.aload_n 0, 1) := by decide +kernel
theorem dX5_setting_35 : decode cX5_setting 35 = .ok (.getfield 20, 3) := by decide +kernel
theorem dX5_setting_38 : decode cX5_setting 38 = .ok (.getfield 66, 3) := by decide +kernel
theorem dX5_setting_41 : decode cX5_setting 41 = .ok (.goto 10, 3) := by decide +kernel
theorem dX5_setting_44 : decode cX5_setting 44 = .ok (.aload_n 0, 1) := by decide +kernel
theorem dX5_setting_45 : decode cX5_setting 45 = .ok (.getfield 20, 3) := by decide +kernel
theorem dX5_setting_48 : decode cX5_setting 48 = .ok (.getfield 78, 3) := by decide +kernel
theorem dX5_setting_51 : decode cX5_setting 51 = .ok (.ireturn, 1) := by decide +kernel
abbrev rm_X5_setting : Room := { frames := 0, cells := 0, slots := 0, locals := 0 }
theorem w_X5_setting_b51 {C : zC} (hx : z_ok C cX5_setting RX5 0) (hn : z_nL C = 2) (hR : z_R C = rm_X5_setting) {rr : Int × zS} (hq : z_fin C (some .int) (z_QI (z_g C) rr.1 rr.2)) (σ : zS) (s0 : Int) (h : f_X5_setting_b51 σ s0 = some rr) : z_W C σ 51 [] [.int (zi s0)] := by
  unfold f_X5_setting_b51 at h
  cases h
  exact z_iret hx hq dX5_setting_51

theorem w_X5_setting_b10 {C : zC} (hx : z_ok C cX5_setting RX5 0) (hn : z_nL C = 2) (hR : z_R C = rm_X5_setting) {rr : Int × zS} (hq : z_fin C (some .int) (z_QI (z_g C) rr.1 rr.2)) (σ : zS) (h : f_X5_setting_b10 σ = some rr) : z_W C σ 10 [] [] := by
  unfold f_X5_setting_b10 at h
  refine z_iconst hx (n := (-1)) dX5_setting_10 ?_
  cases h
  exact z_iret hx hq dX5_setting_11

theorem w_X5_setting {C : zC} (hx : z_ok C cX5_setting RX5 0) (hn : z_nL C = 2) (hR : z_R C = rm_X5_setting) {rr : Int × zS} (hq : z_fin C (some .int) (z_QI (z_g C) rr.1 rr.2)) (σ : zS) (x1 : Int) (h : f_X5_setting σ x1 = some rr) : z_W C σ 0 [(0, .ref (z_ad (z_g C) 62)), (1, .int (zi x1))] [] := by
  unfold f_X5_setting at h
  refine z_iload_n hx 1 dX5_setting_0 rfl ?_
  refine z_if_lt hx (tgt := 10) dX5_setting_1 (by decide) h (fun h => h) (fun hc h => ?_) (fun hc h => ?_)
  · refine z_sub [] rfl ?_
    exact w_X5_setting_b10 hx hn hR hq σ h
  · refine z_iload_n hx 1 dX5_setting_4 rfl ?_
    refine z_bipush hx (n := 8) dX5_setting_5 rfl ?_
    refine z_icmp_le hx (tgt := 12) dX5_setting_7 (by decide) h (fun h => ⟨h, by decide⟩) (fun hc h => ?_) (fun hc h => ?_)
    · refine z_iload_n hx 1 dX5_setting_12 rfl ?_
      refine z_bipush hx (n := 7) dX5_setting_13 rfl ?_
      refine z_icmp_ge hx (tgt := 28) dX5_setting_15 (by decide) h (fun h => ⟨h, by decide⟩) (fun hc h => ?_) (fun hc h => ?_)
      · refine z_iload_n hx 1 dX5_setting_28 rfl ?_
        refine z_bipush hx (n := 7) dX5_setting_29 rfl ?_
        refine z_icmp_ne hx (tgt := 44) dX5_setting_31 (by decide) h (fun h => ⟨h, by decide⟩) (fun hc h => ?_) (fun hc h => ?_)
        · refine z_aload_n hx 0 dX5_setting_44 rfl ?_
          refine gf_X5_recording hx wf_X5_20 dX5_setting_45 ?_
          refine gf_X2_marks hx wf_X5_78 (show 0 < 6 by decide) dX5_setting_48 ?_
          refine z_sub [] rfl ?_
          exact w_X5_setting_b51 hx hn hR hq σ (σ 0 7) h
        · refine z_aload_n hx 0 dX5_setting_34 rfl ?_
          refine gf_X5_recording hx wf_X5_20 dX5_setting_35 ?_
          refine gf_X2_frames hx wf_X5_66 (show 0 < 6 by decide) dX5_setting_38 ?_
          refine z_goto hx (tgt := 51) dX5_setting_41 (by decide) ?_
          refine z_sub [] rfl ?_
          exact w_X5_setting_b51 hx hn hR hq σ (σ 0 1) h
      · refine z_aload_n hx 0 dX5_setting_18 rfl ?_
        refine gf_X5_recording hx wf_X5_20 dX5_setting_19 ?_
        refine gf_X2_settings hx wf_X5_99 (show 0 < 6 by decide) dX5_setting_22 ?_
        refine z_iload_n hx 1 dX5_setting_25 rfl ?_
        refine z_iald hx (n := 7) (z_lt0 (z_ok_sd hx) (by decide)) (z_ka7 (z_ok_sd hx) (show 0 < 6 by decide) _) rfl (by decide) dX5_setting_26 h (fun h => ?_)
        cases h
        exact z_iret hx hq dX5_setting_27
    · refine z_sub [] rfl ?_
      exact w_X5_setting_b10 hx hn hR hq σ h

theorem met_X5_setting (l : Launch) (g : zG) (hg : g.1 = 0) {σ : zS} {x1 : Int} {rr : Int × zS} (h : f_X5_setting σ x1 = some rr) : z_Met l yX5_setting cX5_setting 2 (some .int) rm_X5_setting g [.ref (z_ad (g) 62), .int (zi x1)] σ (z_QI g rr.1 rr.2) := by
  refine z_enter (own := RX5) (sd := 0) (lv0 := [(0, .ref (z_ad (g) 62)), (1, .int (zi x1))]) (by decide) rfl (Nat.le_of_ble_eq_true rfl) hg rfl (fun C hx hl hgC hR hn hq => ?_)
  subst hgC
  refine z_sub [0, 1] rfl ?_
  exact w_X5_setting hx hn hR hq σ x1 h
theorem dX5_currentCuts_0 : decode cX5_currentCuts 0 = .ok (.aload_n 0, 1) := by decide +kernel
theorem dX5_currentCuts_1 : decode cX5_currentCuts 1 = .ok (.getfield 41, 3) := by decide +kernel
theorem dX5_currentCuts_4 : decode cX5_currentCuts 4 = .ok (.aload_n 0, 1) := by decide +kernel
theorem dX5_currentCuts_5 : decode cX5_currentCuts 5 = .ok (.getfield 20, 3) := by decide +kernel
theorem dX5_currentCuts_8 : decode cX5_currentCuts 8 = .ok (.aload_n 0, 1) := by decide +kernel
theorem dX5_currentCuts_9 : decode cX5_currentCuts 9 = .ok (.getfield 20, 3) := by decide +kernel
theorem dX5_currentCuts_12 : decode cX5_currentCuts 12 = .ok (.getfield 99, 3) := by decide +kernel
theorem dX5_currentCuts_15 : decode cX5_currentCuts 15 = .ok (.iconst 0, 1) := by decide +kernel
theorem dX5_currentCuts_16 : decode cX5_currentCuts 16 = .ok (.iaload, 1) := by decide +kernel
theorem dX5_currentCuts_17 : decode cX5_currentCuts 17 = .ok (.aload_n 0, 1) := by decide +kernel
theorem dX5_currentCuts_18 : decode cX5_currentCuts 18 = .ok (.getfield 20, 3) := by decide +kernel
theorem dX5_currentCuts_21 : decode cX5_currentCuts 21 = .ok (.getfield 99, 3) := by decide +kernel
theorem dX5_currentCuts_24 : decode cX5_currentCuts 24 = .ok (.iconst 2, 1) := by decide +kernel
theorem dX5_currentCuts_25 : decode cX5_currentCuts 25 = .ok (.iaload, 1) := by decide +kernel
theorem dX5_currentCuts_26 : decode cX5_currentCuts 26 = .ok (.invokevirtual 136, 3) := by decide +kernel
theorem dX5_currentCuts_29 : decode cX5_currentCuts 29 = .ok (.aload_n 0, 1) := by decide +kernel
theorem dX5_currentCuts_30 : decode cX5_currentCuts 30 = .ok (.getfield 41, 3) := by decide +kernel
theorem dX5_currentCuts_33 : decode cX5_currentCuts 33 = .ok (.areturn, 1) := by decide +kernel
abbrev rm_X5_currentCuts : Room := { frames := 5, cells := 0, slots := 0, locals := 126 }
theorem w_X5_currentCuts {C : zC} (hx : z_ok C cX5_currentCuts RX5 0) (hn : z_nL C = 1) (hR : z_R C = rm_X5_currentCuts) {rr : Unit × zS} (hq : z_fin C (some (.object "SpeechCleaner$CutList")) (z_QR (z_g C) 48 rr.2)) (σ : zS) (h : f_X5_currentCuts σ = some rr) : z_W C σ 0 [(0, .ref (z_ad (z_g C) 62))] [] := by
  unfold f_X5_currentCuts at h
  refine z_aload_n hx 0 dX5_currentCuts_0 rfl ?_
  refine gf_X5_cutList hx wf_X5_41 dX5_currentCuts_1 ?_
  refine z_aload_n hx 0 dX5_currentCuts_4 rfl ?_
  refine gf_X5_recording hx wf_X5_20 dX5_currentCuts_5 ?_
  refine z_aload_n hx 0 dX5_currentCuts_8 rfl ?_
  refine gf_X5_recording hx wf_X5_20 dX5_currentCuts_9 ?_
  refine gf_X2_settings hx wf_X5_99 (show 0 < 6 by decide) dX5_currentCuts_12 ?_
  refine z_iconst hx (n := 0) dX5_currentCuts_15 ?_
  refine z_iald hx (n := 7) (z_lt0 (z_ok_sd hx) (by decide)) (z_ka7 (z_ok_sd hx) (show 0 < 6 by decide) _) rfl (by decide) dX5_currentCuts_16 h (fun h => ?_)
  refine z_aload_n hx 0 dX5_currentCuts_17 rfl ?_
  refine gf_X5_recording hx wf_X5_20 dX5_currentCuts_18 ?_
  refine gf_X2_settings hx wf_X5_99 (show 0 < 6 by decide) dX5_currentCuts_21 ?_
  refine z_iconst hx (n := 2) dX5_currentCuts_24 ?_
  refine z_iald hx (n := 7) (z_lt0 (z_ok_sd hx) (by decide)) (z_ka7 (z_ok_sd hx) (show 0 < 6 by decide) _) rfl (by decide) dX5_currentCuts_25 h (fun h => ?_)
  obtain ⟨⟨⟩, σ1, h26, h⟩ := z_bind_some h
  refine z_callv hx (As := [.ref (z_ad (z_g C) 0), .int (zi (σ 7 0)), .int (zi (σ 7 2))]) (k := 48) (met_X0_find (z_l C) (z_g C) (z_ok_sd hx) h26) (z_lt0 (z_ok_sd hx) (by decide)) (z_kb48 (z_ok_sd hx) _) rfl rfl cv_X5_136 (z_room hR ⟨Nat.le_of_ble_eq_true rfl, Nat.le_of_ble_eq_true rfl⟩) ⟨rfl, rfl⟩ rfl rfl (Nat.le_of_ble_eq_true rfl) dX5_currentCuts_26 ?_
  refine z_aload_n hx 0 dX5_currentCuts_29 rfl ?_
  refine gf_X5_cutList hx wf_X5_41 dX5_currentCuts_30 ?_
  cases h
  exact z_aret hx hq dX5_currentCuts_33

theorem met_X5_currentCuts (l : Launch) (g : zG) (hg : g.1 = 0) {σ : zS} {rr : Unit × zS} (h : f_X5_currentCuts σ = some rr) : z_Met l yX5_currentCuts cX5_currentCuts 1 (some (.object "SpeechCleaner$CutList")) rm_X5_currentCuts g [.ref (z_ad (g) 62)] σ (z_QR g 48 rr.2) := by
  refine z_enter (own := RX5) (sd := 0) (lv0 := [(0, .ref (z_ad (g) 62))]) (by decide) rfl (Nat.le_of_ble_eq_true rfl) hg rfl (fun C hx hl hgC hR hn hq => ?_)
  subst hgC
  refine z_sub [0] rfl ?_
  exact w_X5_currentCuts hx hn hR hq σ h
theorem dX5_about_0 : decode cX5_about 0 = .ok (.aload_n 0, 1) := by decide +kernel
theorem dX5_about_1 : decode cX5_about 1 = .ok (.getfield 20, 3) := by decide +kernel
theorem dX5_about_4 : decode cX5_about 4 = .ok (.iload_n 1, 1) := by decide +kernel
theorem dX5_about_5 : decode cX5_about 5 = .ok (.invokevirtual 85, 3) := by decide +kernel
theorem dX5_about_8 : decode cX5_about 8 = .ok (.ifCond .eq 12, 3) := by decide +kernel
theorem dX5_about_11 : decode cX5_about 11 = .ok (.iload_n 2, 1) := by decide +kernel
theorem dX5_about_12 : decode cX5_about 12 = .ok (.ifCond .lt 8, 3) := by decide +kernel
theorem dX5_about_15 : decode cX5_about 15 = .ok (.iload_n 2, 1) := by decide +kernel
theorem dX5_about_16 : decode cX5_about 16 = .ok (.iconst 5, 1) := by decide +kernel
theorem dX5_about_17 : decode cX5_about 17 = .ok (.if_icmp .le 5, 3) := by decide +kernel
theorem dX5_about_20 : decode cX5_about 20 = .ok (.iconst (-1), 1) := by decide +kernel
theorem dX5_about_21 : decode cX5_about 21 = .ok (.ireturn, 1) := by decide +kernel
theorem dX5_about_22 : decode cX5_about 22 = .ok (.iload_n 2, 1) := by decide +kernel
theorem dX5_about_23 : decode cX5_about 23 = .ok (.iconst 5, 1) := by decide +kernel
theorem dX5_about_24 : decode cX5_about 24 = .ok (.if_icmp .ne 12, 3) := by decide +kernel
theorem dX5_about_27 : decode cX5_about 27 = .ok (.aload_n 0, 1) := by decide +kernel
theorem dX5_about_28 : decode cX5_about 28 = .ok (.invokevirtual 102, 3) := by decide +kernel
theorem dX5_about_31 : decode cX5_about 31 = .ok (.iload_n 1, 1) := by decide +kernel
theorem dX5_about_32 : decode cX5_about 32 = .ok (.invokevirtual 106, 3) := by decide +kernel
theorem dX5_about_35 : decode cX5_about 35 = .ok (.ireturn, 1) := by decide +kernel
theorem dX5_about_36 : decode cX5_about 36 = .ok (.aload_n 0, 1) := by decide +kernel
theorem dX5_about_37 : decode cX5_about 37 = .ok (.getfield 20, 3) := by decide +kernel
theorem dX5_about_40 : decode cX5_about 40 = .ok (.iload_n 1, 1) := by decide +kernel
theorem dX5_about_41 : decode cX5_about 41 = .ok (.iload_n 2, 1) := by decide +kernel
theorem dX5_about_42 : decode cX5_about 42 = .ok (.invokevirtual 110, 3) := by decide +kernel
theorem dX5_about_45 : decode cX5_about 45 = .ok (.ireturn, 1) := by decide +kernel
abbrev rm_X5_about : Room := { frames := 6, cells := 0, slots := 0, locals := 146 }
theorem w_X5_about_b20 {C : zC} (hx : z_ok C cX5_about RX5 0) (hn : z_nL C = 3) (hR : z_R C = rm_X5_about) {rr : Int × zS} (hq : z_fin C (some .int) (z_QI (z_g C) rr.1 rr.2)) (σ : zS) (h : f_X5_about_b20 σ = some rr) : z_W C σ 20 [] [] := by
  unfold f_X5_about_b20 at h
  refine z_iconst hx (n := (-1)) dX5_about_20 ?_
  cases h
  exact z_iret hx hq dX5_about_21

theorem w_X5_about {C : zC} (hx : z_ok C cX5_about RX5 0) (hn : z_nL C = 3) (hR : z_R C = rm_X5_about) {rr : Int × zS} (hq : z_fin C (some .int) (z_QI (z_g C) rr.1 rr.2)) (σ : zS) (x1 : Int) (x2 : Int) (h : f_X5_about σ x1 x2 = some rr) : z_W C σ 0 [(0, .ref (z_ad (z_g C) 62)), (1, .int (zi x1)), (2, .int (zi x2))] [] := by
  unfold f_X5_about at h
  refine z_aload_n hx 0 dX5_about_0 rfl ?_
  refine gf_X5_recording hx wf_X5_20 dX5_about_1 ?_
  refine z_iload_n hx 1 dX5_about_4 rfl ?_
  obtain ⟨r2, σ1, h5, h⟩ := z_bind_some h
  refine z_calli hx (As := [.int (zi x1)]) (k := 0) (met_X2_hasMark (z_l C) (z_g C) (z_ok_sd hx) (show 0 < 6 by decide) h5) (z_lt0 (z_ok_sd hx) (by decide)) (z_ka0 (z_ok_sd hx) (show 0 < 6 by decide) _) rfl rfl cv_X5_85 (z_room hR ⟨Nat.le_of_ble_eq_true rfl, Nat.le_of_ble_eq_true rfl⟩) ⟨rfl, rfl⟩ rfl rfl (Nat.le_of_ble_eq_true rfl) dX5_about_5 ?_
  refine z_if_eq hx (tgt := 20) dX5_about_8 (by decide) h (fun h => h) (fun hc h => ?_) (fun hc h => ?_)
  · refine z_sub [] rfl ?_
    exact w_X5_about_b20 hx hn hR hq σ1 h
  · refine z_iload_n hx 2 dX5_about_11 rfl ?_
    refine z_if_lt hx (tgt := 20) dX5_about_12 (by decide) h (fun h => h) (fun hc h => ?_) (fun hc h => ?_)
    · refine z_sub [] rfl ?_
      exact w_X5_about_b20 hx hn hR hq σ1 h
    · refine z_iload_n hx 2 dX5_about_15 rfl ?_
      refine z_iconst hx (n := 5) dX5_about_16 ?_
      refine z_icmp_le hx (tgt := 22) dX5_about_17 (by decide) h (fun h => ⟨h, by decide⟩) (fun hc h => ?_) (fun hc h => ?_)
      · refine z_iload_n hx 2 dX5_about_22 rfl ?_
        refine z_iconst hx (n := 5) dX5_about_23 ?_
        refine z_icmp_ne hx (tgt := 36) dX5_about_24 (by decide) h (fun h => ⟨h, by decide⟩) (fun hc h => ?_) (fun hc h => ?_)
        · refine z_aload_n hx 0 dX5_about_36 rfl ?_
          refine gf_X5_recording hx wf_X5_20 dX5_about_37 ?_
          refine z_iload_n hx 1 dX5_about_40 rfl ?_
          refine z_iload_n hx 2 dX5_about_41 rfl ?_
          obtain ⟨r4, σ3, h42, h⟩ := z_bind_some h
          refine z_calli hx (As := [.int (zi x1), .int (zi x2)]) (k := 0) (met_X2_numberOfMark (z_l C) (z_g C) (z_ok_sd hx) (show 0 < 6 by decide) h42) (z_lt0 (z_ok_sd hx) (by decide)) (z_ka0 (z_ok_sd hx) (show 0 < 6 by decide) _) rfl rfl cv_X5_110 (z_room hR ⟨Nat.le_of_ble_eq_true rfl, Nat.le_of_ble_eq_true rfl⟩) ⟨rfl, rfl⟩ rfl rfl (Nat.le_of_ble_eq_true rfl) dX5_about_42 ?_
          cases h
          exact z_iret hx hq dX5_about_45
        · refine z_aload_n hx 0 dX5_about_27 rfl ?_
          obtain ⟨⟨⟩, σ5, h28, h⟩ := z_bind_some h
          refine z_callr hx (As := []) (k := 62) (met_X5_currentCuts (z_l C) (z_g C) (z_ok_sd hx) h28) (z_lt0 (z_ok_sd hx) (by decide)) (z_kb62 (z_ok_sd hx) _) rfl rfl cv_X5_102 (z_room hR ⟨Nat.le_of_ble_eq_true rfl, Nat.le_of_ble_eq_true rfl⟩) ⟨rfl, rfl⟩ rfl rfl (Nat.le_of_ble_eq_true rfl) dX5_about_28 ?_
          refine z_iload_n hx 1 dX5_about_31 rfl ?_
          obtain ⟨r7, σ6, h32, h⟩ := z_bind_some h
          refine z_calli hx (As := [.int (zi x1)]) (k := 48) (met_X0_cutOfMark (z_l C) (z_g C) (z_ok_sd hx) h32) (z_lt0 (z_ok_sd hx) (by decide)) (z_kb48 (z_ok_sd hx) _) rfl rfl cv_X5_106 (z_room hR ⟨Nat.le_of_ble_eq_true rfl, Nat.le_of_ble_eq_true rfl⟩) ⟨rfl, rfl⟩ rfl rfl (Nat.le_of_ble_eq_true rfl) dX5_about_32 ?_
          cases h
          exact z_iret hx hq dX5_about_35
      · refine z_sub [] rfl ?_
        exact w_X5_about_b20 hx hn hR hq σ1 h

theorem met_X5_about (l : Launch) (g : zG) (hg : g.1 = 0) {σ : zS} {x1 : Int} {x2 : Int} {rr : Int × zS} (h : f_X5_about σ x1 x2 = some rr) : z_Met l yX5_about cX5_about 3 (some .int) rm_X5_about g [.ref (z_ad (g) 62), .int (zi x1), .int (zi x2)] σ (z_QI g rr.1 rr.2) := by
  refine z_enter (own := RX5) (sd := 0) (lv0 := [(0, .ref (z_ad (g) 62)), (1, .int (zi x1)), (2, .int (zi x2))]) (by decide) rfl (Nat.le_of_ble_eq_true rfl) hg rfl (fun C hx hl hgC hR hn hq => ?_)
  subst hgC
  refine z_sub [0, 1, 2] rfl ?_
  exact w_X5_about hx hn hR hq σ x1 x2 h
theorem dX5_level_0 : decode cX5_level 0 = .ok (.aload_n 0, 1) := by decide +kernel
theorem dX5_level_1 : decode cX5_level 1 = .ok (.getfield 20, 3) := by decide +kernel
theorem dX5_level_4 : decode cX5_level 4 = .ok (.iload_n 1, 1) := by decide +kernel
theorem dX5_level_5 : decode cX5_level 5 = .ok (.invokevirtual 114, 3) := by decide +kernel
theorem dX5_level_8 : decode cX5_level 8 = .ok (.ifCond .ne 5, 3) := by decide +kernel
theorem dX5_level_11 : decode cX5_level 11 = .ok (.iconst (-1), 1) := by decide +kernel
theorem dX5_level_12 : decode cX5_level 12 = .ok (.ireturn, 1) := by decide +kernel
theorem dX5_level_13 : decode cX5_level 13 = .ok (.aload_n 0, 1) := by decide +kernel
theorem dX5_level_14 : decode cX5_level 14 = .ok (.getfield 20, 3) := by decide +kernel
theorem dX5_level_17 : decode cX5_level 17 = .ok (.iload_n 1, 1) := by decide +kernel
theorem dX5_level_18 : decode cX5_level 18 = .ok (.invokevirtual 117, 3) := by decide +kernel
theorem dX5_level_21 : decode cX5_level 21 = .ok (.ireturn, 1) := by decide +kernel
abbrev rm_X5_level : Room := { frames := 1, cells := 0, slots := 0, locals := 21 }
theorem w_X5_level {C : zC} (hx : z_ok C cX5_level RX5 0) (hn : z_nL C = 2) (hR : z_R C = rm_X5_level) {rr : Int × zS} (hq : z_fin C (some .int) (z_QI (z_g C) rr.1 rr.2)) (σ : zS) (x1 : Int) (h : f_X5_level σ x1 = some rr) : z_W C σ 0 [(0, .ref (z_ad (z_g C) 62)), (1, .int (zi x1))] [] := by
  unfold f_X5_level at h
  refine z_aload_n hx 0 dX5_level_0 rfl ?_
  refine gf_X5_recording hx wf_X5_20 dX5_level_1 ?_
  refine z_iload_n hx 1 dX5_level_4 rfl ?_
  obtain ⟨r2, σ1, h5, h⟩ := z_bind_some h
  refine z_calli hx (As := [.int (zi x1)]) (k := 0) (met_X2_hasFrame (z_l C) (z_g C) (z_ok_sd hx) (show 0 < 6 by decide) h5) (z_lt0 (z_ok_sd hx) (by decide)) (z_ka0 (z_ok_sd hx) (show 0 < 6 by decide) _) rfl rfl cv_X5_114 (z_room hR ⟨Nat.le_of_ble_eq_true rfl, Nat.le_of_ble_eq_true rfl⟩) ⟨rfl, rfl⟩ rfl rfl (Nat.le_of_ble_eq_true rfl) dX5_level_5 ?_
  refine z_if_ne hx (tgt := 13) dX5_level_8 (by decide) h (fun h => h) (fun hc h => ?_) (fun hc h => ?_)
  · refine z_aload_n hx 0 dX5_level_13 rfl ?_
    refine gf_X5_recording hx wf_X5_20 dX5_level_14 ?_
    refine z_iload_n hx 1 dX5_level_17 rfl ?_
    obtain ⟨r4, σ3, h18, h⟩ := z_bind_some h
    refine z_calli hx (As := [.int (zi x1)]) (k := 0) (met_X2_levelAt (z_l C) (z_g C) (z_ok_sd hx) (show 0 < 6 by decide) h18) (z_lt0 (z_ok_sd hx) (by decide)) (z_ka0 (z_ok_sd hx) (show 0 < 6 by decide) _) rfl rfl cv_X5_117 (z_room hR ⟨Nat.le_of_ble_eq_true rfl, Nat.le_of_ble_eq_true rfl⟩) ⟨rfl, rfl⟩ rfl rfl (Nat.le_of_ble_eq_true rfl) dX5_level_18 ?_
    cases h
    exact z_iret hx hq dX5_level_21
  · refine z_iconst hx (n := (-1)) dX5_level_11 ?_
    cases h
    exact z_iret hx hq dX5_level_12

theorem met_X5_level (l : Launch) (g : zG) (hg : g.1 = 0) {σ : zS} {x1 : Int} {rr : Int × zS} (h : f_X5_level σ x1 = some rr) : z_Met l yX5_level cX5_level 2 (some .int) rm_X5_level g [.ref (z_ad (g) 62), .int (zi x1)] σ (z_QI g rr.1 rr.2) := by
  refine z_enter (own := RX5) (sd := 0) (lv0 := [(0, .ref (z_ad (g) 62)), (1, .int (zi x1))]) (by decide) rfl (Nat.le_of_ble_eq_true rfl) hg rfl (fun C hx hl hgC hR hn hq => ?_)
  subst hgC
  refine z_sub [0, 1] rfl ?_
  exact w_X5_level hx hn hR hq σ x1 h
theorem dX5_cuts_0 : decode cX5_cuts 0 = .ok (.aload_n 0, 1) := by decide +kernel
theorem dX5_cuts_1 : decode cX5_cuts 1 = .ok (.invokevirtual 102, 3) := by decide +kernel
theorem dX5_cuts_4 : decode cX5_cuts 4 = .ok (.getfield 120, 3) := by decide +kernel
theorem dX5_cuts_7 : decode cX5_cuts 7 = .ok (.ireturn, 1) := by decide +kernel
abbrev rm_X5_cuts : Room := { frames := 6, cells := 0, slots := 0, locals := 146 }
theorem w_X5_cuts {C : zC} (hx : z_ok C cX5_cuts RX5 0) (hn : z_nL C = 1) (hR : z_R C = rm_X5_cuts) {rr : Int × zS} (hq : z_fin C (some .int) (z_QI (z_g C) rr.1 rr.2)) (σ : zS) (h : f_X5_cuts σ = some rr) : z_W C σ 0 [(0, .ref (z_ad (z_g C) 62))] [] := by
  unfold f_X5_cuts at h
  refine z_aload_n hx 0 dX5_cuts_0 rfl ?_
  obtain ⟨⟨⟩, σ1, h1, h⟩ := z_bind_some h
  refine z_callr hx (As := []) (k := 62) (met_X5_currentCuts (z_l C) (z_g C) (z_ok_sd hx) h1) (z_lt0 (z_ok_sd hx) (by decide)) (z_kb62 (z_ok_sd hx) _) rfl rfl cv_X5_102 (z_room hR ⟨Nat.le_of_ble_eq_true rfl, Nat.le_of_ble_eq_true rfl⟩) ⟨rfl, rfl⟩ rfl rfl (Nat.le_of_ble_eq_true rfl) dX5_cuts_1 ?_
  refine gf_X0_count hx wf_X5_120 dX5_cuts_4 ?_
  cases h
  exact z_iret hx hq dX5_cuts_7

theorem met_X5_cuts (l : Launch) (g : zG) (hg : g.1 = 0) {σ : zS} {rr : Int × zS} (h : f_X5_cuts σ = some rr) : z_Met l yX5_cuts cX5_cuts 1 (some .int) rm_X5_cuts g [.ref (z_ad (g) 62)] σ (z_QI g rr.1 rr.2) := by
  refine z_enter (own := RX5) (sd := 0) (lv0 := [(0, .ref (z_ad (g) 62))]) (by decide) rfl (Nat.le_of_ble_eq_true rfl) hg rfl (fun C hx hl hgC hR hn hq => ?_)
  subst hgC
  refine z_sub [0] rfl ?_
  exact w_X5_cuts hx hn hR hq σ h
theorem dX5_cut_0 : decode cX5_cut 0 = .ok (.aload_n 0, 1) := by decide +kernel
theorem dX5_cut_1 : decode cX5_cut 1 = .ok (.invokevirtual 102, 3) := by decide +kernel
theorem dX5_cut_4 : decode cX5_cut 4 = .ok (.astore_n 3, 1) := by decide +kernel
theorem dX5_cut_5 : decode cX5_cut 5 = .ok (.iload_n 1, 1) := by decide +kernel
theorem dX5_cut_6 : decode cX5_cut 6 = .ok (.ifCond .lt 20, 3) := by decide +kernel
theorem dX5_cut_9 : decode cX5_cut 9 = .ok (.iload_n 1, 1) := by decide +kernel
theorem dX5_cut_10 : decode cX5_cut 10 = .ok (.aload_n 3, 1) := by decide +kernel
theorem dX5_cut_11 : decode cX5_cut 11 = .ok (.getfield 120, 3) := by decide +kernel
theorem dX5_cut_14 : decode cX5_cut 14 = .ok (.if_icmp .ge 12, 3) := by decide +kernel
theorem dX5_cut_17 : decode cX5_cut 17 = .ok (.iload_n 2, 1) := by decide +kernel
theorem dX5_cut_18 : decode cX5_cut 18 = .ok (.ifCond .lt 8, 3) := by decide +kernel
theorem dX5_cut_21 : decode cX5_cut 21 = .ok (.iload_n 2, 1) := by decide +kernel
theorem dX5_cut_22 : decode cX5_cut 22 = .ok (.iconst 4, 1) := by decide +kernel
theorem dX5_cut_23 : decode cX5_cut 23 = .ok (.if_icmp .le 5, 3) := by decide +kernel
theorem dX5_cut_26 : decode cX5_cut 26 = .ok (.iconst (-1), 1) := by decide +kernel
theorem dX5_cut_27 : decode cX5_cut 27 = .ok (.ireturn, 1) := by decide +kernel
theorem dX5_cut_28 : decode cX5_cut 28 = .ok (.aload_n 3, 1) := by decide +kernel
theorem dX5_cut_29 : decode cX5_cut 29 = .ok (.iload_n 1, 1) := by decide +kernel
theorem dX5_cut_30 : decode cX5_cut 30 = .ok (.iload_n 2, 1) := by decide +kernel
theorem dX5_cut_31 : decode cX5_cut 31 = .ok (.invokevirtual 123, 3) := by decide +kernel
theorem dX5_cut_34 : decode cX5_cut 34 = .ok (.ireturn, 1) := by decide +kernel
abbrev rm_X5_cut : Room := { frames := 6, cells := 0, slots := 0, locals := 146 }
theorem w_X5_cut_b26 {C : zC} (hx : z_ok C cX5_cut RX5 0) (hn : z_nL C = 4) (hR : z_R C = rm_X5_cut) {rr : Int × zS} (hq : z_fin C (some .int) (z_QI (z_g C) rr.1 rr.2)) (σ : zS) (h : f_X5_cut_b26 σ = some rr) : z_W C σ 26 [] [] := by
  unfold f_X5_cut_b26 at h
  refine z_iconst hx (n := (-1)) dX5_cut_26 ?_
  cases h
  exact z_iret hx hq dX5_cut_27

theorem w_X5_cut {C : zC} (hx : z_ok C cX5_cut RX5 0) (hn : z_nL C = 4) (hR : z_R C = rm_X5_cut) {rr : Int × zS} (hq : z_fin C (some .int) (z_QI (z_g C) rr.1 rr.2)) (σ : zS) (x1 : Int) (x2 : Int) (h : f_X5_cut σ x1 x2 = some rr) : z_W C σ 0 [(0, .ref (z_ad (z_g C) 62)), (1, .int (zi x1)), (2, .int (zi x2))] [] := by
  unfold f_X5_cut at h
  refine z_aload_n hx 0 dX5_cut_0 rfl ?_
  obtain ⟨⟨⟩, σ1, h1, h⟩ := z_bind_some h
  refine z_callr hx (As := []) (k := 62) (met_X5_currentCuts (z_l C) (z_g C) (z_ok_sd hx) h1) (z_lt0 (z_ok_sd hx) (by decide)) (z_kb62 (z_ok_sd hx) _) rfl rfl cv_X5_102 (z_room hR ⟨Nat.le_of_ble_eq_true rfl, Nat.le_of_ble_eq_true rfl⟩) ⟨rfl, rfl⟩ rfl rfl (Nat.le_of_ble_eq_true rfl) dX5_cut_1 ?_
  refine z_astore_n hx hn (lv' := [(3, .ref (z_ad (z_g C) 48)), (0, .ref (z_ad (z_g C) 62)), (1, .int (zi x1)), (2, .int (zi x2))]) dX5_cut_4 (by decide) rfl ?_
  refine z_iload_n hx 2 dX5_cut_5 rfl ?_
  refine z_if_lt hx (tgt := 26) dX5_cut_6 (by decide) h (fun h => h) (fun hc h => ?_) (fun hc h => ?_)
  · refine z_sub [] rfl ?_
    exact w_X5_cut_b26 hx hn hR hq σ1 h
  · refine z_iload_n hx 2 dX5_cut_9 rfl ?_
    refine z_aload_n hx 0 dX5_cut_10 rfl ?_
    refine gf_X0_count hx wf_X5_120 dX5_cut_11 ?_
    refine z_icmp_ge hx (tgt := 26) dX5_cut_14 (by decide) h (fun h => h) (fun hc h => ?_) (fun hc h => ?_)
    · refine z_sub [] rfl ?_
      exact w_X5_cut_b26 hx hn hR hq σ1 h
    · refine z_iload_n hx 3 dX5_cut_17 rfl ?_
      refine z_if_lt hx (tgt := 26) dX5_cut_18 (by decide) h (fun h => h) (fun hc h => ?_) (fun hc h => ?_)
      · refine z_sub [] rfl ?_
        exact w_X5_cut_b26 hx hn hR hq σ1 h
      · refine z_iload_n hx 3 dX5_cut_21 rfl ?_
        refine z_iconst hx (n := 4) dX5_cut_22 ?_
        refine z_icmp_le hx (tgt := 28) dX5_cut_23 (by decide) h (fun h => ⟨h, by decide⟩) (fun hc h => ?_) (fun hc h => ?_)
        · refine z_aload_n hx 0 dX5_cut_28 rfl ?_
          refine z_iload_n hx 2 dX5_cut_29 rfl ?_
          refine z_iload_n hx 3 dX5_cut_30 rfl ?_
          obtain ⟨r3, σ2, h31, h⟩ := z_bind_some h
          refine z_calli hx (As := [.int (zi x1), .int (zi x2)]) (k := 48) (met_X0_numberOfCut (z_l C) (z_g C) (z_ok_sd hx) h31) (z_lt0 (z_ok_sd hx) (by decide)) (z_kb48 (z_ok_sd hx) _) rfl rfl cv_X5_123 (z_room hR ⟨Nat.le_of_ble_eq_true rfl, Nat.le_of_ble_eq_true rfl⟩) ⟨rfl, rfl⟩ rfl rfl (Nat.le_of_ble_eq_true rfl) dX5_cut_31 ?_
          cases h
          exact z_iret hx hq dX5_cut_34
        · refine z_sub [] rfl ?_
          exact w_X5_cut_b26 hx hn hR hq σ1 h

theorem met_X5_cut (l : Launch) (g : zG) (hg : g.1 = 0) {σ : zS} {x1 : Int} {x2 : Int} {rr : Int × zS} (h : f_X5_cut σ x1 x2 = some rr) : z_Met l yX5_cut cX5_cut 4 (some .int) rm_X5_cut g [.ref (z_ad (g) 62), .int (zi x1), .int (zi x2)] σ (z_QI g rr.1 rr.2) := by
  refine z_enter (own := RX5) (sd := 0) (lv0 := [(0, .ref (z_ad (g) 62)), (1, .int (zi x1)), (2, .int (zi x2))]) (by decide) rfl (Nat.le_of_ble_eq_true rfl) hg rfl (fun C hx hl hgC hR hn hq => ?_)
  subst hgC
  refine z_sub [0, 1, 2] rfl ?_
  exact w_X5_cut hx hn hR hq σ x1 x2 h
theorem dX5_sum_0 : decode cX5_sum 0 = .ok (.aload_n 0, 1) := by decide +kernel
theorem dX5_sum_1 : decode cX5_sum 1 = .ok (.invokevirtual 102, 3) := by decide +kernel
theorem dX5_sum_4 : decode cX5_sum 4 = .ok (.astore_n 2, 1) := by decide +kernel
theorem dX5_sum_5 : decode cX5_sum 5 = .ok (.iload_n 1, 1) := by decide +kernel
theorem dX5_sum_6 : decode cX5_sum 6 = .ok (.tableswitch 41 0 2 #[26, 31, 36], 26) := by decide +kernel
theorem dX5_sum_32 : decode cX5_sum 32 = .ok (.aload_n 2, 1) := by decide +kernel
theorem dX5_sum_33 : decode cX5_sum 33 = .ok (.invokevirtual 126, 3) := by decide +kernel
theorem dX5_sum_36 : decode cX5_sum 36 = .ok (.ireturn, 1) := by decide +kernel
theorem dX5_sum_37 : decode cX5_sum 37 = .ok (.aload_n 2, 1) := by decide +kernel
theorem dX5_sum_38 : decode cX5_sum 38 = .ok (.invokevirtual 130, 3) := by decide +kernel
theorem dX5_sum_41 : decode cX5_sum 41 = .ok (.ireturn, 1) := by decide +kernel
theorem dX5_sum_42 : decode cX5_sum 42 = .ok (.aload_n 2, 1) := by decide +kernel
theorem dX5_sum_43 : decode cX5_sum 43 = .ok (.invokevirtual 133, 3) := by decide +kernel
theorem dX5_sum_46 : decode cX5_sum 46 = .ok (.ireturn, 1) := by decide +kernel
theorem dX5_sum_47 : decode cX5_sum 47 = .ok (.iconst (-1), 1) := by decide +kernel
theorem dX5_sum_48 : decode cX5_sum 48 = .ok (.ireturn, 1) := by decide +kernel
abbrev rm_X5_sum : Room := { frames := 6, cells := 0, slots := 0, locals := 146 }
theorem w_X5_sum {C : zC} (hx : z_ok C cX5_sum RX5 0) (hn : z_nL C = 3) (hR : z_R C = rm_X5_sum) {rr : Int × zS} (hq : z_fin C (some .int) (z_QI (z_g C) rr.1 rr.2)) (σ : zS) (x1 : Int) (h : f_X5_sum σ x1 = some rr) : z_W C σ 0 [(0, .ref (z_ad (z_g C) 62)), (1, .int (zi x1))] [] := by
  unfold f_X5_sum at h
  refine z_aload_n hx 0 dX5_sum_0 rfl ?_
  obtain ⟨⟨⟩, σ1, h1, h⟩ := z_bind_some h
  refine z_callr hx (As := []) (k := 62) (met_X5_currentCuts (z_l C) (z_g C) (z_ok_sd hx) h1) (z_lt0 (z_ok_sd hx) (by decide)) (z_kb62 (z_ok_sd hx) _) rfl rfl cv_X5_102 (z_room hR ⟨Nat.le_of_ble_eq_true rfl, Nat.le_of_ble_eq_true rfl⟩) ⟨rfl, rfl⟩ rfl rfl (Nat.le_of_ble_eq_true rfl) dX5_sum_1 ?_
  refine z_astore_n hx hn (lv' := [(2, .ref (z_ad (z_g C) 48)), (0, .ref (z_ad (z_g C) 62)), (1, .int (zi x1))]) dX5_sum_4 (by decide) rfl ?_
  refine z_iload_n hx 2 dX5_sum_5 rfl ?_
  obtain ⟨hr, h⟩ := z_gd h
  by_cases hc0 : x1 = 0
  · rw [if_pos hc0] at h
    refine z_tswIn hx (tgt := 32) (off := 26) dX5_sum_6 hr (by omega) (by omega) (by rw [hc0]; rfl) (by decide) ?_
    refine z_aload_n hx 0 dX5_sum_32 rfl ?_
    obtain ⟨r7, σ6, h33, h⟩ := z_bind_some h
    refine z_calli hx (As := []) (k := 48) (met_X0_cutFrames (z_l C) (z_g C) (z_ok_sd hx) h33) (z_lt0 (z_ok_sd hx) (by decide)) (z_kb48 (z_ok_sd hx) _) rfl rfl cv_X5_126 (z_room hR ⟨Nat.le_of_ble_eq_true rfl, Nat.le_of_ble_eq_true rfl⟩) ⟨rfl, rfl⟩ rfl rfl (Nat.le_of_ble_eq_true rfl) dX5_sum_33 ?_
    cases h
    exact z_iret hx hq dX5_sum_36
  · rw [if_neg hc0] at h
    by_cases hc1 : x1 = 1
    · rw [if_pos hc1] at h
      refine z_tswIn hx (tgt := 37) (off := 31) dX5_sum_6 hr (by omega) (by omega) (by rw [hc1]; rfl) (by decide) ?_
      refine z_aload_n hx 0 dX5_sum_37 rfl ?_
      obtain ⟨r5, σ4, h38, h⟩ := z_bind_some h
      refine z_calli hx (As := []) (k := 48) (met_X0_pauseFrames (z_l C) (z_g C) (z_ok_sd hx) h38) (z_lt0 (z_ok_sd hx) (by decide)) (z_kb48 (z_ok_sd hx) _) rfl rfl cv_X5_130 (z_room hR ⟨Nat.le_of_ble_eq_true rfl, Nat.le_of_ble_eq_true rfl⟩) ⟨rfl, rfl⟩ rfl rfl (Nat.le_of_ble_eq_true rfl) dX5_sum_38 ?_
      cases h
      exact z_iret hx hq dX5_sum_41
    · rw [if_neg hc1] at h
      by_cases hc2 : x1 = 2
      · rw [if_pos hc2] at h
        refine z_tswIn hx (tgt := 42) (off := 36) dX5_sum_6 hr (by omega) (by omega) (by rw [hc2]; rfl) (by decide) ?_
        refine z_aload_n hx 0 dX5_sum_42 rfl ?_
        obtain ⟨r3, σ2, h43, h⟩ := z_bind_some h
        refine z_calli hx (As := []) (k := 48) (met_X0_roughCuts (z_l C) (z_g C) (z_ok_sd hx) h43) (z_lt0 (z_ok_sd hx) (by decide)) (z_kb48 (z_ok_sd hx) _) rfl rfl cv_X5_133 (z_room hR ⟨Nat.le_of_ble_eq_true rfl, Nat.le_of_ble_eq_true rfl⟩) ⟨rfl, rfl⟩ rfl rfl (Nat.le_of_ble_eq_true rfl) dX5_sum_43 ?_
        cases h
        exact z_iret hx hq dX5_sum_46
      · rw [if_neg hc2] at h
        refine z_tswOut hx (tgt := 47) dX5_sum_6 hr (by omega) (by decide) ?_
        refine z_iconst hx (n := (-1)) dX5_sum_47 ?_
        cases h
        exact z_iret hx hq dX5_sum_48

theorem met_X5_sum (l : Launch) (g : zG) (hg : g.1 = 0) {σ : zS} {x1 : Int} {rr : Int × zS} (h : f_X5_sum σ x1 = some rr) : z_Met l yX5_sum cX5_sum 3 (some .int) rm_X5_sum g [.ref (z_ad (g) 62), .int (zi x1)] σ (z_QI g rr.1 rr.2) := by
  refine z_enter (own := RX5) (sd := 0) (lv0 := [(0, .ref (z_ad (g) 62)), (1, .int (zi x1))]) (by decide) rfl (Nat.le_of_ble_eq_true rfl) hg rfl (fun C hx hl hgC hR hn hq => ?_)
  subst hgC
  refine z_sub [0, 1] rfl ?_
  exact w_X5_sum hx hn hR hq σ x1 h
theorem dX5_bestWindow_0 : decode cX5_bestWindow 0 = .ok (.iconst 0, 1) := by decide +kernel
theorem dX5_bestWindow_1 : decode cX5_bestWindow 1 = .ok (.istore_n 1, 1) := by decide +kernel
theorem dX5_bestWindow_2 : decode cX5_bestWindow 2 = .ok (.bipush 21, 2) := by decide +kernel
theorem dX5_bestWindow_4 : decode cX5_bestWindow 4 = .ok (.istore_n 2, 1) := by decide +kernel
theorem dX5_bestWindow_5 : decode cX5_bestWindow 5 = .ok (.iconst 0, 1) := by decide +kernel
theorem dX5_bestWindow_6 : decode cX5_bestWindow 6 = .ok (.istore_n 3, 1) := by decide +kernel
theorem dX5_bestWindow_7 : decode cX5_bestWindow 7 = .ok (.iload_n 3, 1) := by decide +kernel
theorem dX5_bestWindow_8 : decode cX5_bestWindow 8 = .ok (.bipush 20, 2) := by decide +kernel
theorem dX5_bestWindow_10 : decode cX5_bestWindow 10 = .ok (.if_icmp .gt 50, 3) := by decide +kernel
theorem dX5_bestWindow_13 : decode cX5_bestWindow 13 = .ok (.aload_n 0, 1) := by decide +kernel
theorem dX5_bestWindow_14 : decode cX5_bestWindow 14 = .ok (.getfield 41, 3) := by decide +kernel
theorem dX5_bestWindow_17 : decode cX5_bestWindow 17 = .ok (.aload_n 0, 1) := by decide +kernel
theorem dX5_bestWindow_18 : decode cX5_bestWindow 18 = .ok (.getfield 20, 3) := by decide +kernel
theorem dX5_bestWindow_21 : decode cX5_bestWindow 21 = .ok (.aload_n 0, 1) := by decide +kernel
theorem dX5_bestWindow_22 : decode cX5_bestWindow 22 = .ok (.getfield 20, 3) := by decide +kernel
theorem dX5_bestWindow_25 : decode cX5_bestWindow 25 = .ok (.getfield 99, 3) := by decide +kernel
theorem dX5_bestWindow_28 : decode cX5_bestWindow 28 = .ok (.iconst 0, 1) := by decide +kernel
theorem dX5_bestWindow_29 : decode cX5_bestWindow 29 = .ok (.iaload, 1) := by decide +kernel
theorem dX5_bestWindow_30 : decode cX5_bestWindow 30 = .ok (.iload_n 3, 1) := by decide +kernel
theorem dX5_bestWindow_31 : decode cX5_bestWindow 31 = .ok (.invokevirtual 136, 3) := by decide +kernel
theorem dX5_bestWindow_34 : decode cX5_bestWindow 34 = .ok (.aload_n 0, 1) := by decide +kernel
theorem dX5_bestWindow_35 : decode cX5_bestWindow 35 = .ok (.getfield 41, 3) := by decide +kernel
theorem dX5_bestWindow_38 : decode cX5_bestWindow 38 = .ok (.invokevirtual 133, 3) := by decide +kernel
theorem dX5_bestWindow_41 : decode cX5_bestWindow 41 = .ok (.istore 4, 2) := by decide +kernel
theorem dX5_bestWindow_43 : decode cX5_bestWindow 43 = .ok (.iload 4, 2) := by decide +kernel
theorem dX5_bestWindow_45 : decode cX5_bestWindow 45 = .ok (.iload_n 2, 1) := by decide +kernel
theorem dX5_bestWindow_46 : decode cX5_bestWindow 46 = .ok (.if_icmp .ge 8, 3) := by decide +kernel
theorem dX5_bestWindow_49 : decode cX5_bestWindow 49 = .ok (.iload_n 3, 1) := by decide +kernel
theorem dX5_bestWindow_50 : decode cX5_bestWindow 50 = .ok (.istore_n 1, 1) := by decide +kernel
theorem dX5_bestWindow_51 : decode cX5_bestWindow 51 = .ok (.iload 4, 2) := by decide +kernel
theorem dX5_bestWindow_53 : decode cX5_bestWindow 53 = .ok (.istore_n 2, 1) := by decide +kernel
theorem dX5_bestWindow_54 : decode cX5_bestWindow 54 = .ok (.iinc 3 1, 3) := by decide +kernel
theorem dX5_bestWindow_57 : decode cX5_bestWindow 57 = .ok (.goto (-50), 3) := by decide +kernel
theorem dX5_bestWindow_60 : decode cX5_bestWindow 60 = .ok (.iload_n 1, 1) := by decide +kernel
theorem dX5_bestWindow_61 : decode cX5_bestWindow 61 = .ok (.ireturn, 1) := by decide +kernel
abbrev rm_X5_bestWindow : Room := { frames := 5, cells := 0, slots := 0, locals := 126 }
theorem w_X5_bestWindow_b54 {C : zC} (hx : z_ok C cX5_bestWindow RX5 0) (hn : z_nL C = 5) (hR : z_R C = rm_X5_bestWindow) {rr : Int × zS} (hq : z_fin C (some .int) (z_QI (z_g C) rr.1 rr.2)) {K7 : zS → Int → Int → Int → Option (Int × zS)} (hK7 : ∀ (σ : zS) (x1 : Int) (x2 : Int) (x3 : Int) , K7 σ x1 x2 x3 = some rr → z_W C σ 7 [(0, .ref (z_ad (z_g C) 62)), (1, .int (zi x1)), (2, .int (zi x2)), (3, .int (zi x3))] []) (σ : zS) (x1 : Int) (x2 : Int) (x3 : Int) (h : f_X5_bestWindow_b54 K7 σ x1 x2 x3 = some rr) : z_W C σ 54 [(0, .ref (z_ad (z_g C) 62)), (1, .int (zi x1)), (2, .int (zi x2)), (3, .int (zi x3))] [] := by
  unfold f_X5_bestWindow_b54 at h
  refine z_iinc hx hn 3 (lv' := [(3, .int (zi (x3 + 1))), (0, .ref (z_ad (z_g C) 62)), (1, .int (zi x1)), (2, .int (zi x2))]) dX5_bestWindow_54 rfl (by decide) rfl ?_
  refine z_goto hx (tgt := 7) dX5_bestWindow_57 (by decide) ?_
  refine z_sub [1, 2, 3, 0] rfl ?_
  exact hK7 σ x1 x2 (x3 + 1) h

theorem w_X5_bestWindow_b7 {C : zC} (hx : z_ok C cX5_bestWindow RX5 0) (hn : z_nL C = 5) (hR : z_R C = rm_X5_bestWindow) {rr : Int × zS} (hq : z_fin C (some .int) (z_QI (z_g C) rr.1 rr.2)) {K7 : zS → Int → Int → Int → Option (Int × zS)} (hK7 : ∀ (σ : zS) (x1 : Int) (x2 : Int) (x3 : Int) , K7 σ x1 x2 x3 = some rr → z_W C σ 7 [(0, .ref (z_ad (z_g C) 62)), (1, .int (zi x1)), (2, .int (zi x2)), (3, .int (zi x3))] []) (σ : zS) (x1 : Int) (x2 : Int) (x3 : Int) (h : f_X5_bestWindow_b7 K7 σ x1 x2 x3 = some rr) : z_W C σ 7 [(0, .ref (z_ad (z_g C) 62)), (1, .int (zi x1)), (2, .int (zi x2)), (3, .int (zi x3))] [] := by
  unfold f_X5_bestWindow_b7 at h
  refine z_iload_n hx 3 dX5_bestWindow_7 rfl ?_
  refine z_bipush hx (n := 20) dX5_bestWindow_8 rfl ?_
  refine z_icmp_gt hx (tgt := 60) dX5_bestWindow_10 (by decide) h (fun h => ⟨h, by decide⟩) (fun hc h => ?_) (fun hc h => ?_)
  · refine z_iload_n hx 1 dX5_bestWindow_60 rfl ?_
    cases h
    exact z_iret hx hq dX5_bestWindow_61
  · refine z_aload_n hx 0 dX5_bestWindow_13 rfl ?_
    refine gf_X5_cutList hx wf_X5_41 dX5_bestWindow_14 ?_
    refine z_aload_n hx 0 dX5_bestWindow_17 rfl ?_
    refine gf_X5_recording hx wf_X5_20 dX5_bestWindow_18 ?_
    refine z_aload_n hx 0 dX5_bestWindow_21 rfl ?_
    refine gf_X5_recording hx wf_X5_20 dX5_bestWindow_22 ?_
    refine gf_X2_settings hx wf_X5_99 (show 0 < 6 by decide) dX5_bestWindow_25 ?_
    refine z_iconst hx (n := 0) dX5_bestWindow_28 ?_
    refine z_iald hx (n := 7) (z_lt0 (z_ok_sd hx) (by decide)) (z_ka7 (z_ok_sd hx) (show 0 < 6 by decide) _) rfl (by decide) dX5_bestWindow_29 h (fun h => ?_)
    refine z_iload_n hx 3 dX5_bestWindow_30 rfl ?_
    obtain ⟨⟨⟩, σ1, h31, h⟩ := z_bind_some h
    refine z_callv hx (As := [.ref (z_ad (z_g C) 0), .int (zi (σ 7 0)), .int (zi x3)]) (k := 48) (met_X0_find (z_l C) (z_g C) (z_ok_sd hx) h31) (z_lt0 (z_ok_sd hx) (by decide)) (z_kb48 (z_ok_sd hx) _) rfl rfl cv_X5_136 (z_room hR ⟨Nat.le_of_ble_eq_true rfl, Nat.le_of_ble_eq_true rfl⟩) ⟨rfl, rfl⟩ rfl rfl (Nat.le_of_ble_eq_true rfl) dX5_bestWindow_31 ?_
    refine z_aload_n hx 0 dX5_bestWindow_34 rfl ?_
    refine gf_X5_cutList hx wf_X5_41 dX5_bestWindow_35 ?_
    obtain ⟨r3, σ2, h38, h⟩ := z_bind_some h
    refine z_calli hx (As := []) (k := 48) (met_X0_roughCuts (z_l C) (z_g C) (z_ok_sd hx) h38) (z_lt0 (z_ok_sd hx) (by decide)) (z_kb48 (z_ok_sd hx) _) rfl rfl cv_X5_133 (z_room hR ⟨Nat.le_of_ble_eq_true rfl, Nat.le_of_ble_eq_true rfl⟩) ⟨rfl, rfl⟩ rfl rfl (Nat.le_of_ble_eq_true rfl) dX5_bestWindow_38 ?_
    refine z_istore hx hn (lv' := [(4, .int (zi r3)), (0, .ref (z_ad (z_g C) 62)), (1, .int (zi x1)), (2, .int (zi x2)), (3, .int (zi x3))]) dX5_bestWindow_41 (by decide) rfl ?_
    refine z_iload hx 0 dX5_bestWindow_43 rfl ?_
    refine z_iload_n hx 3 dX5_bestWindow_45 rfl ?_
    refine z_icmp_ge hx (tgt := 54) dX5_bestWindow_46 (by decide) h (fun h => h) (fun hc h => ?_) (fun hc h => ?_)
    · refine z_sub [1, 2, 3, 4] rfl ?_
      exact w_X5_bestWindow_b54 hx hn hR hq hK7 σ2 x1 x2 x3 h
    · refine z_iload_n hx 4 dX5_bestWindow_49 rfl ?_
      refine z_istore_n hx hn (lv' := [(1, .int (zi x3)), (4, .int (zi r3)), (0, .ref (z_ad (z_g C) 62)), (2, .int (zi x2)), (3, .int (zi x3))]) dX5_bestWindow_50 (by decide) rfl ?_
      refine z_iload hx 1 dX5_bestWindow_51 rfl ?_
      refine z_istore_n hx hn (lv' := [(2, .int (zi r3)), (1, .int (zi x3)), (4, .int (zi r3)), (0, .ref (z_ad (z_g C) 62)), (3, .int (zi x3))]) dX5_bestWindow_53 (by decide) rfl ?_
      refine z_sub [3, 1, 0, 4] rfl ?_
      exact w_X5_bestWindow_b54 hx hn hR hq hK7 σ2 x3 r3 x3 h

theorem w_X5_bestWindow_l7 {C : zC} (hx : z_ok C cX5_bestWindow RX5 0) (hn : z_nL C = 5) (hR : z_R C = rm_X5_bestWindow) {rr : Int × zS} (hq : z_fin C (some .int) (z_QI (z_g C) rr.1 rr.2)) : ∀ (n : Nat) (σ : zS) (x1 : Int) (x2 : Int) (x3 : Int) (_ : f_X5_bestWindow_l7 n σ x1 x2 x3 = some rr), z_W C σ 7 [(0, .ref (z_ad (z_g C) 62)), (1, .int (zi x1)), (2, .int (zi x2)), (3, .int (zi x3))] [] := by
  intro n
  induction n with
  | zero => intro σ x1 x2 x3 h; cases h
  | succ n ih =>
    intro σ x1 x2 x3 h
    exact w_X5_bestWindow_b7 hx hn hR hq ih σ x1 x2 x3 h
theorem w_X5_bestWindow {C : zC} (hx : z_ok C cX5_bestWindow RX5 0) (hn : z_nL C = 5) (hR : z_R C = rm_X5_bestWindow) {rr : Int × zS} (hq : z_fin C (some .int) (z_QI (z_g C) rr.1 rr.2)) (σ : zS) (h : f_X5_bestWindow σ = some rr) : z_W C σ 0 [(0, .ref (z_ad (z_g C) 62))] [] := by
  unfold f_X5_bestWindow at h
  refine z_iconst hx (n := 0) dX5_bestWindow_0 ?_
  refine z_istore_n hx hn (lv' := [(1, .int (zi 0)), (0, .ref (z_ad (z_g C) 62))]) dX5_bestWindow_1 (by decide) rfl ?_
  refine z_bipush hx (n := 21) dX5_bestWindow_2 rfl ?_
  refine z_istore_n hx hn (lv' := [(2, .int (zi 21)), (1, .int (zi 0)), (0, .ref (z_ad (z_g C) 62))]) dX5_bestWindow_4 (by decide) rfl ?_
  refine z_iconst hx (n := 0) dX5_bestWindow_5 ?_
  refine z_istore_n hx hn (lv' := [(3, .int (zi 0)), (2, .int (zi 21)), (1, .int (zi 0)), (0, .ref (z_ad (z_g C) 62))]) dX5_bestWindow_6 (by decide) rfl ?_
  refine z_sub [3, 2, 1, 0] rfl ?_
  exact w_X5_bestWindow_l7 hx hn hR hq z_fuel σ 0 21 0 h

theorem met_X5_bestWindow (l : Launch) (g : zG) (hg : g.1 = 0) {σ : zS} {rr : Int × zS} (h : f_X5_bestWindow σ = some rr) : z_Met l yX5_bestWindow cX5_bestWindow 5 (some .int) rm_X5_bestWindow g [.ref (z_ad (g) 62)] σ (z_QI g rr.1 rr.2) := by
  refine z_enter (own := RX5) (sd := 0) (lv0 := [(0, .ref (z_ad (g) 62))]) (by decide) rfl (Nat.le_of_ble_eq_true rfl) hg rfl (fun C hx hl hgC hR hn hq => ?_)
  subst hgC
  refine z_sub [0] rfl ?_
  exact w_X5_bestWindow hx hn hR hq σ h
theorem dX5_greatestDoubt_0 : decode cX5_greatestDoubt 0 = .ok (.iload_n 1, 1) := by decide +kernel
theorem dX5_greatestDoubt_1 : decode cX5_greatestDoubt 1 = .ok (.ifCond .ge 5, 3) := by decide +kernel
theorem dX5_greatestDoubt_4 : decode cX5_greatestDoubt 4 = .ok (.iconst (-1), 1) := by decide +kernel
theorem dX5_greatestDoubt_5 : decode cX5_greatestDoubt 5 = .ok (.ireturn, 1) := by decide +kernel
theorem dX5_greatestDoubt_6 : decode cX5_greatestDoubt 6 = .ok (.bipush 100, 2) := by decide +kernel
theorem dX5_greatestDoubt_8 : decode cX5_greatestDoubt 8 = .ok (.istore_n 2, 1) := by decide +kernel
theorem dX5_greatestDoubt_9 : decode cX5_greatestDoubt 9 = .ok (.iload_n 2, 1) := by decide +kernel
theorem dX5_greatestDoubt_10 : decode cX5_greatestDoubt 10 = .ok (.ifCond .lt 62, 3) := by decide +kernel
theorem dX5_greatestDoubt_13 : decode cX5_greatestDoubt 13 = .ok (.iload_n 2, 1) := by decide +kernel
theorem dX5_greatestDoubt_14 : decode cX5_greatestDoubt 14 = .ok (.bipush 100, 2) := by decide +kernel
theorem dX5_greatestDoubt_16 : decode cX5_greatestDoubt 16 = .ok (.if_icmp .eq 16, 3) := by decide +kernel
theorem dX5_greatestDoubt_19 : decode cX5_greatestDoubt 19 = .ok (.aload_n 0, 1) := by decide +kernel
theorem dX5_greatestDoubt_20 : decode cX5_greatestDoubt 20 = .ok (.getfield 20, 3) := by decide +kernel
theorem dX5_greatestDoubt_23 : decode cX5_greatestDoubt 23 = .ok (.iload_n 2, 1) := by decide +kernel
theorem dX5_greatestDoubt_24 : decode cX5_greatestDoubt 24 = .ok (.iconst 1, 1) := by decide +kernel
theorem dX5_greatestDoubt_25 : decode cX5_greatestDoubt 25 = .ok (.iadd, 1) := by decide +kernel
theorem dX5_greatestDoubt_26 : decode cX5_greatestDoubt 26 = .ok (.invokevirtual 140, 3) := by decide +kernel
theorem dX5_greatestDoubt_29 : decode cX5_greatestDoubt 29 = .ok (.ifCond .eq 24, 3) := by decide +kernel
theorem dX5_greatestDoubt_32 : decode cX5_greatestDoubt 32 = .ok (.aload_n 0, 1) := by decide +kernel
theorem dX5_greatestDoubt_33 : decode cX5_greatestDoubt 33 = .ok (.getfield 41, 3) := by decide +kernel
theorem dX5_greatestDoubt_36 : decode cX5_greatestDoubt 36 = .ok (.aload_n 0, 1) := by decide +kernel
theorem dX5_greatestDoubt_37 : decode cX5_greatestDoubt 37 = .ok (.getfield 20, 3) := by decide +kernel
theorem dX5_greatestDoubt_40 : decode cX5_greatestDoubt 40 = .ok (.iload_n 2, 1) := by decide +kernel
theorem dX5_greatestDoubt_41 : decode cX5_greatestDoubt 41 = .ok (.aload_n 0, 1) := by decide +kernel
theorem dX5_greatestDoubt_42 : decode cX5_greatestDoubt 42 = .ok (.getfield 20, 3) := by decide +kernel
theorem dX5_greatestDoubt_45 : decode cX5_greatestDoubt 45 = .ok (.getfield 99, 3) := by decide +kernel
theorem dX5_greatestDoubt_48 : decode cX5_greatestDoubt 48 = .ok (.iconst 2, 1) := by decide +kernel
theorem dX5_greatestDoubt_49 : decode cX5_greatestDoubt 49 = .ok (.iaload, 1) := by decide +kernel
theorem dX5_greatestDoubt_50 : decode cX5_greatestDoubt 50 = .ok (.invokevirtual 136, 3) := by decide +kernel
theorem dX5_greatestDoubt_53 : decode cX5_greatestDoubt 53 = .ok (.aload_n 0, 1) := by decide +kernel
theorem dX5_greatestDoubt_54 : decode cX5_greatestDoubt 54 = .ok (.getfield 41, 3) := by decide +kernel
theorem dX5_greatestDoubt_57 : decode cX5_greatestDoubt 57 = .ok (.invokevirtual 126, 3) := by decide +kernel
theorem dX5_greatestDoubt_60 : decode cX5_greatestDoubt 60 = .ok (.iload_n 1, 1) := by decide +kernel
theorem dX5_greatestDoubt_61 : decode cX5_greatestDoubt 61 = .ok (.if_icmp .gt 5, 3) := by decide +kernel
theorem dX5_greatestDoubt_64 : decode cX5_greatestDoubt 64 = .ok (.iload_n 2, 1) := by decide +kernel
theorem dX5_greatestDoubt_65 : decode cX5_greatestDoubt 65 = .ok (.ireturn, 1) := by decide +kernel
theorem dX5_greatestDoubt_66 : decode cX5_greatestDoubt 66 = .ok (.iinc 2 (-1), 3) := by decide +kernel
theorem dX5_greatestDoubt_69 : decode cX5_greatestDoubt 69 = .ok (.goto (-60), 3) := by decide +kernel
theorem dX5_greatestDoubt_72 : decode cX5_greatestDoubt 72 = .ok (.bipush (-9), 2) := by decide +kernel
theorem dX5_greatestDoubt_74 : decode cX5_greatestDoubt 74 = .ok (.ireturn, 1) := by decide +kernel
abbrev rm_X5_greatestDoubt : Room := { frames := 5, cells := 0, slots := 0, locals := 126 }
theorem w_X5_greatestDoubt_b53 {C : zC} (hx : z_ok C cX5_greatestDoubt RX5 0) (hn : z_nL C = 3) (hR : z_R C = rm_X5_greatestDoubt) {rr : Int × zS} (hq : z_fin C (some .int) (z_QI (z_g C) rr.1 rr.2)) {K9 : zS → Int → Int → Option (Int × zS)} (hK9 : ∀ (σ : zS) (x1 : Int) (x2 : Int) , K9 σ x1 x2 = some rr → z_W C σ 9 [(0, .ref (z_ad (z_g C) 62)), (1, .int (zi x1)), (2, .int (zi x2))] []) (σ : zS) (x1 : Int) (x2 : Int) (h : f_X5_greatestDoubt_b53 K9 σ x1 x2 = some rr) : z_W C σ 53 [(0, .ref (z_ad (z_g C) 62)), (1, .int (zi x1)), (2, .int (zi x2))] [] := by
  unfold f_X5_greatestDoubt_b53 at h
  refine z_aload_n hx 0 dX5_greatestDoubt_53 rfl ?_
  refine gf_X5_cutList hx wf_X5_41 dX5_greatestDoubt_54 ?_
  obtain ⟨r2, σ1, h57, h⟩ := z_bind_some h
  refine z_calli hx (As := []) (k := 48) (met_X0_cutFrames (z_l C) (z_g C) (z_ok_sd hx) h57) (z_lt0 (z_ok_sd hx) (by decide)) (z_kb48 (z_ok_sd hx) _) rfl rfl cv_X5_126 (z_room hR ⟨Nat.le_of_ble_eq_true rfl, Nat.le_of_ble_eq_true rfl⟩) ⟨rfl, rfl⟩ rfl rfl (Nat.le_of_ble_eq_true rfl) dX5_greatestDoubt_57 ?_
  refine z_iload_n hx 1 dX5_greatestDoubt_60 rfl ?_
  refine z_icmp_gt hx (tgt := 66) dX5_greatestDoubt_61 (by decide) h (fun h => h) (fun hc h => ?_) (fun hc h => ?_)
  · refine z_iinc hx hn 2 (lv' := [(2, .int (zi (x2 + (-1)))), (0, .ref (z_ad (z_g C) 62)), (1, .int (zi x1))]) dX5_greatestDoubt_66 rfl (by decide) rfl ?_
    refine z_goto hx (tgt := 9) dX5_greatestDoubt_69 (by decide) ?_
    refine z_sub [1, 2, 0] rfl ?_
    exact hK9 σ1 x1 (x2 + (-1)) h
  · refine z_iload_n hx 2 dX5_greatestDoubt_64 rfl ?_
    cases h
    exact z_iret hx hq dX5_greatestDoubt_65

theorem w_X5_greatestDoubt_b32 {C : zC} (hx : z_ok C cX5_greatestDoubt RX5 0) (hn : z_nL C = 3) (hR : z_R C = rm_X5_greatestDoubt) {rr : Int × zS} (hq : z_fin C (some .int) (z_QI (z_g C) rr.1 rr.2)) {K9 : zS → Int → Int → Option (Int × zS)} (hK9 : ∀ (σ : zS) (x1 : Int) (x2 : Int) , K9 σ x1 x2 = some rr → z_W C σ 9 [(0, .ref (z_ad (z_g C) 62)), (1, .int (zi x1)), (2, .int (zi x2))] []) (σ : zS) (x1 : Int) (x2 : Int) (h : f_X5_greatestDoubt_b32 K9 σ x1 x2 = some rr) : z_W C σ 32 [(0, .ref (z_ad (z_g C) 62)), (1, .int (zi x1)), (2, .int (zi x2))] [] := by
  unfold f_X5_greatestDoubt_b32 at h
  refine z_aload_n hx 0 dX5_greatestDoubt_32 rfl ?_
  refine gf_X5_cutList hx wf_X5_41 dX5_greatestDoubt_33 ?_
  refine z_aload_n hx 0 dX5_greatestDoubt_36 rfl ?_
  refine gf_X5_recording hx wf_X5_20 dX5_greatestDoubt_37 ?_
  refine z_iload_n hx 2 dX5_greatestDoubt_40 rfl ?_
  refine z_aload_n hx 0 dX5_greatestDoubt_41 rfl ?_
  refine gf_X5_recording hx wf_X5_20 dX5_greatestDoubt_42 ?_
  refine gf_X2_settings hx wf_X5_99 (show 0 < 6 by decide) dX5_greatestDoubt_45 ?_
  refine z_iconst hx (n := 2) dX5_greatestDoubt_48 ?_
  refine z_iald hx (n := 7) (z_lt0 (z_ok_sd hx) (by decide)) (z_ka7 (z_ok_sd hx) (show 0 < 6 by decide) _) rfl (by decide) dX5_greatestDoubt_49 h (fun h => ?_)
  obtain ⟨⟨⟩, σ1, h50, h⟩ := z_bind_some h
  refine z_callv hx (As := [.ref (z_ad (z_g C) 0), .int (zi x2), .int (zi (σ 7 2))]) (k := 48) (met_X0_find (z_l C) (z_g C) (z_ok_sd hx) h50) (z_lt0 (z_ok_sd hx) (by decide)) (z_kb48 (z_ok_sd hx) _) rfl rfl cv_X5_136 (z_room hR ⟨Nat.le_of_ble_eq_true rfl, Nat.le_of_ble_eq_true rfl⟩) ⟨rfl, rfl⟩ rfl rfl (Nat.le_of_ble_eq_true rfl) dX5_greatestDoubt_50 ?_
  refine z_sub [0, 1, 2] rfl ?_
  exact w_X5_greatestDoubt_b53 hx hn hR hq hK9 σ1 x1 x2 h

theorem w_X5_greatestDoubt_b9 {C : zC} (hx : z_ok C cX5_greatestDoubt RX5 0) (hn : z_nL C = 3) (hR : z_R C = rm_X5_greatestDoubt) {rr : Int × zS} (hq : z_fin C (some .int) (z_QI (z_g C) rr.1 rr.2)) {K9 : zS → Int → Int → Option (Int × zS)} (hK9 : ∀ (σ : zS) (x1 : Int) (x2 : Int) , K9 σ x1 x2 = some rr → z_W C σ 9 [(0, .ref (z_ad (z_g C) 62)), (1, .int (zi x1)), (2, .int (zi x2))] []) (σ : zS) (x1 : Int) (x2 : Int) (h : f_X5_greatestDoubt_b9 K9 σ x1 x2 = some rr) : z_W C σ 9 [(0, .ref (z_ad (z_g C) 62)), (1, .int (zi x1)), (2, .int (zi x2))] [] := by
  unfold f_X5_greatestDoubt_b9 at h
  refine z_iload_n hx 2 dX5_greatestDoubt_9 rfl ?_
  refine z_if_lt hx (tgt := 72) dX5_greatestDoubt_10 (by decide) h (fun h => h) (fun hc h => ?_) (fun hc h => ?_)
  · refine z_bipush hx (n := (-9)) dX5_greatestDoubt_72 rfl ?_
    cases h
    exact z_iret hx hq dX5_greatestDoubt_74
  · refine z_iload_n hx 2 dX5_greatestDoubt_13 rfl ?_
    refine z_bipush hx (n := 100) dX5_greatestDoubt_14 rfl ?_
    refine z_icmp_eq hx (tgt := 32) dX5_greatestDoubt_16 (by decide) h (fun h => ⟨h, by decide⟩) (fun hc h => ?_) (fun hc h => ?_)
    · refine z_sub [0, 1, 2] rfl ?_
      exact w_X5_greatestDoubt_b32 hx hn hR hq hK9 σ x1 x2 h
    · refine z_aload_n hx 0 dX5_greatestDoubt_19 rfl ?_
      refine gf_X5_recording hx wf_X5_20 dX5_greatestDoubt_20 ?_
      refine z_iload_n hx 2 dX5_greatestDoubt_23 rfl ?_
      refine z_iconst hx (n := 1) dX5_greatestDoubt_24 ?_
      refine z_iadd hx dX5_greatestDoubt_25 ?_
      obtain ⟨r2, σ1, h26, h⟩ := z_bind_some h
      refine z_calli hx (As := [.int (zi (x2 + 1))]) (k := 0) (met_X2_hasFillerOfDoubt (z_l C) (z_g C) (z_ok_sd hx) (show 0 < 6 by decide) h26) (z_lt0 (z_ok_sd hx) (by decide)) (z_ka0 (z_ok_sd hx) (show 0 < 6 by decide) _) rfl rfl cv_X5_140 (z_room hR ⟨Nat.le_of_ble_eq_true rfl, Nat.le_of_ble_eq_true rfl⟩) ⟨rfl, rfl⟩ rfl rfl (Nat.le_of_ble_eq_true rfl) dX5_greatestDoubt_26 ?_
      refine z_if_eq hx (tgt := 53) dX5_greatestDoubt_29 (by decide) h (fun h => h) (fun hc h => ?_) (fun hc h => ?_)
      · refine z_sub [0, 1, 2] rfl ?_
        exact w_X5_greatestDoubt_b53 hx hn hR hq hK9 σ1 x1 x2 h
      · refine z_sub [0, 1, 2] rfl ?_
        exact w_X5_greatestDoubt_b32 hx hn hR hq hK9 σ1 x1 x2 h

theorem w_X5_greatestDoubt_l9 {C : zC} (hx : z_ok C cX5_greatestDoubt RX5 0) (hn : z_nL C = 3) (hR : z_R C = rm_X5_greatestDoubt) {rr : Int × zS} (hq : z_fin C (some .int) (z_QI (z_g C) rr.1 rr.2)) : ∀ (n : Nat) (σ : zS) (x1 : Int) (x2 : Int) (_ : f_X5_greatestDoubt_l9 n σ x1 x2 = some rr), z_W C σ 9 [(0, .ref (z_ad (z_g C) 62)), (1, .int (zi x1)), (2, .int (zi x2))] [] := by
  intro n
  induction n with
  | zero => intro σ x1 x2 h; cases h
  | succ n ih =>
    intro σ x1 x2 h
    exact w_X5_greatestDoubt_b9 hx hn hR hq ih σ x1 x2 h
theorem w_X5_greatestDoubt {C : zC} (hx : z_ok C cX5_greatestDoubt RX5 0) (hn : z_nL C = 3) (hR : z_R C = rm_X5_greatestDoubt) {rr : Int × zS} (hq : z_fin C (some .int) (z_QI (z_g C) rr.1 rr.2)) (σ : zS) (x1 : Int) (h : f_X5_greatestDoubt σ x1 = some rr) : z_W C σ 0 [(0, .ref (z_ad (z_g C) 62)), (1, .int (zi x1))] [] := by
  unfold f_X5_greatestDoubt at h
  refine z_iload_n hx 1 dX5_greatestDoubt_0 rfl ?_
  refine z_if_ge hx (tgt := 6) dX5_greatestDoubt_1 (by decide) h (fun h => h) (fun hc h => ?_) (fun hc h => ?_)
  · refine z_bipush hx (n := 100) dX5_greatestDoubt_6 rfl ?_
    refine z_istore_n hx hn (lv' := [(2, .int (zi 100)), (0, .ref (z_ad (z_g C) 62)), (1, .int (zi x1))]) dX5_greatestDoubt_8 (by decide) rfl ?_
    refine z_sub [1, 2, 0] rfl ?_
    exact w_X5_greatestDoubt_l9 hx hn hR hq z_fuel σ x1 100 h
  · refine z_iconst hx (n := (-1)) dX5_greatestDoubt_4 ?_
    cases h
    exact z_iret hx hq dX5_greatestDoubt_5

theorem met_X5_greatestDoubt (l : Launch) (g : zG) (hg : g.1 = 0) {σ : zS} {x1 : Int} {rr : Int × zS} (h : f_X5_greatestDoubt σ x1 = some rr) : z_Met l yX5_greatestDoubt cX5_greatestDoubt 3 (some .int) rm_X5_greatestDoubt g [.ref (z_ad (g) 62), .int (zi x1)] σ (z_QI g rr.1 rr.2) := by
  refine z_enter (own := RX5) (sd := 0) (lv0 := [(0, .ref (z_ad (g) 62)), (1, .int (zi x1))]) (by decide) rfl (Nat.le_of_ble_eq_true rfl) hg rfl (fun C hx hl hgC hR hn hq => ?_)
  subst hgC
  refine z_sub [0, 1] rfl ?_
  exact w_X5_greatestDoubt hx hn hR hq σ x1 h
theorem dX5_currentResult_0 : decode cX5_currentResult 0 = .ok (.aload_n 0, 1) := by decide +kernel
theorem dX5_currentResult_1 : decode cX5_currentResult 1 = .ok (.getfield 41, 3) := by decide +kernel
theorem dX5_currentResult_4 : decode cX5_currentResult 4 = .ok (.aload_n 0, 1) := by decide +kernel
theorem dX5_currentResult_5 : decode cX5_currentResult 5 = .ok (.getfield 20, 3) := by decide +kernel
theorem dX5_currentResult_8 : decode cX5_currentResult 8 = .ok (.aload_n 0, 1) := by decide +kernel
theorem dX5_currentResult_9 : decode cX5_currentResult 9 = .ok (.getfield 20, 3) := by decide +kernel
theorem dX5_currentResult_12 : decode cX5_currentResult 12 = .ok (.getfield 99, 3) := by decide +kernel
theorem dX5_currentResult_15 : decode cX5_currentResult 15 = .ok (.iconst 0, 1) := by decide +kernel
theorem dX5_currentResult_16 : decode cX5_currentResult 16 = .ok (.iaload, 1) := by decide +kernel
theorem dX5_currentResult_17 : decode cX5_currentResult 17 = .ok (.aload_n 0, 1) := by decide +kernel
theorem dX5_currentResult_18 : decode cX5_currentResult 18 = .ok (.getfield 20, 3) := by decide +kernel
theorem dX5_currentResult_21 : decode cX5_currentResult 21 = .ok (.getfield 99, 3) := by decide +kernel
theorem dX5_currentResult_24 : decode cX5_currentResult 24 = .ok (.iconst 2, 1) := by decide +kernel
theorem dX5_currentResult_25 : decode cX5_currentResult 25 = .ok (.iaload, 1) := by decide +kernel
theorem dX5_currentResult_26 : decode cX5_currentResult 26 = .ok (.invokevirtual 136, 3) := by decide +kernel
theorem dX5_currentResult_29 : decode cX5_currentResult 29 = .ok (.aload_n 0, 1) := by decide +kernel
theorem dX5_currentResult_30 : decode cX5_currentResult 30 = .ok (.getfield 48, 3) := by decide +kernel
theorem dX5_currentResult_33 : decode cX5_currentResult 33 = .ok (.aload_n 0, 1) := by decide +kernel
theorem dX5_currentResult_34 : decode cX5_currentResult 34 = .ok (.getfield 20, 3) := by decide +kernel
theorem dX5_currentResult_37 : decode cX5_currentResult 37 = .ok (.aload_n 0, 1) := by decide +kernel
theorem dX5_currentResult_38 : decode cX5_currentResult 38 = .ok (.getfield 41, 3) := by decide +kernel
theorem dX5_currentResult_41 : decode cX5_currentResult 41 = .ok (.invokevirtual 189, 3) := by decide +kernel
theorem dX5_currentResult_44 : decode cX5_currentResult 44 = .ok (.aload_n 0, 1) := by decide +kernel
theorem dX5_currentResult_45 : decode cX5_currentResult 45 = .ok (.getfield 48, 3) := by decide +kernel
theorem dX5_currentResult_48 : decode cX5_currentResult 48 = .ok (.areturn, 1) := by decide +kernel
abbrev rm_X5_currentResult : Room := { frames := 5, cells := 0, slots := 0, locals := 126 }
theorem w_X5_currentResult {C : zC} (hx : z_ok C cX5_currentResult RX5 0) (hn : z_nL C = 1) (hR : z_R C = rm_X5_currentResult) {rr : Unit × zS} (hq : z_fin C (some (.object "SpeechCleaner$Result")) (z_QR (z_g C) 54 rr.2)) (σ : zS) (h : f_X5_currentResult σ = some rr) : z_W C σ 0 [(0, .ref (z_ad (z_g C) 62))] [] := by
  unfold f_X5_currentResult at h
  refine z_aload_n hx 0 dX5_currentResult_0 rfl ?_
  refine gf_X5_cutList hx wf_X5_41 dX5_currentResult_1 ?_
  refine z_aload_n hx 0 dX5_currentResult_4 rfl ?_
  refine gf_X5_recording hx wf_X5_20 dX5_currentResult_5 ?_
  refine z_aload_n hx 0 dX5_currentResult_8 rfl ?_
  refine gf_X5_recording hx wf_X5_20 dX5_currentResult_9 ?_
  refine gf_X2_settings hx wf_X5_99 (show 0 < 6 by decide) dX5_currentResult_12 ?_
  refine z_iconst hx (n := 0) dX5_currentResult_15 ?_
  refine z_iald hx (n := 7) (z_lt0 (z_ok_sd hx) (by decide)) (z_ka7 (z_ok_sd hx) (show 0 < 6 by decide) _) rfl (by decide) dX5_currentResult_16 h (fun h => ?_)
  refine z_aload_n hx 0 dX5_currentResult_17 rfl ?_
  refine gf_X5_recording hx wf_X5_20 dX5_currentResult_18 ?_
  refine gf_X2_settings hx wf_X5_99 (show 0 < 6 by decide) dX5_currentResult_21 ?_
  refine z_iconst hx (n := 2) dX5_currentResult_24 ?_
  refine z_iald hx (n := 7) (z_lt0 (z_ok_sd hx) (by decide)) (z_ka7 (z_ok_sd hx) (show 0 < 6 by decide) _) rfl (by decide) dX5_currentResult_25 h (fun h => ?_)
  obtain ⟨⟨⟩, σ1, h26, h⟩ := z_bind_some h
  refine z_callv hx (As := [.ref (z_ad (z_g C) 0), .int (zi (σ 7 0)), .int (zi (σ 7 2))]) (k := 48) (met_X0_find (z_l C) (z_g C) (z_ok_sd hx) h26) (z_lt0 (z_ok_sd hx) (by decide)) (z_kb48 (z_ok_sd hx) _) rfl rfl cv_X5_136 (z_room hR ⟨Nat.le_of_ble_eq_true rfl, Nat.le_of_ble_eq_true rfl⟩) ⟨rfl, rfl⟩ rfl rfl (Nat.le_of_ble_eq_true rfl) dX5_currentResult_26 ?_
  refine z_aload_n hx 0 dX5_currentResult_29 rfl ?_
  refine gf_X5_result hx wf_X5_48 dX5_currentResult_30 ?_
  refine z_aload_n hx 0 dX5_currentResult_33 rfl ?_
  refine gf_X5_recording hx wf_X5_20 dX5_currentResult_34 ?_
  refine z_aload_n hx 0 dX5_currentResult_37 rfl ?_
  refine gf_X5_cutList hx wf_X5_41 dX5_currentResult_38 ?_
  obtain ⟨⟨⟩, σ2, h41, h⟩ := z_bind_some h
  refine z_callv hx (As := [.ref (z_ad (z_g C) 0), .ref (z_ad (z_g C) 48)]) (k := 54) (met_X3_build (z_l C) (z_g C) (z_ok_sd hx) h41) (z_lt0 (z_ok_sd hx) (by decide)) (z_kb54 (z_ok_sd hx) _) rfl rfl cv_X5_189 (z_room hR ⟨Nat.le_of_ble_eq_true rfl, Nat.le_of_ble_eq_true rfl⟩) ⟨rfl, rfl⟩ rfl rfl (Nat.le_of_ble_eq_true rfl) dX5_currentResult_41 ?_
  refine z_aload_n hx 0 dX5_currentResult_44 rfl ?_
  refine gf_X5_result hx wf_X5_48 dX5_currentResult_45 ?_
  cases h
  exact z_aret hx hq dX5_currentResult_48

theorem met_X5_currentResult (l : Launch) (g : zG) (hg : g.1 = 0) {σ : zS} {rr : Unit × zS} (h : f_X5_currentResult σ = some rr) : z_Met l yX5_currentResult cX5_currentResult 1 (some (.object "SpeechCleaner$Result")) rm_X5_currentResult g [.ref (z_ad (g) 62)] σ (z_QR g 54 rr.2) := by
  refine z_enter (own := RX5) (sd := 0) (lv0 := [(0, .ref (z_ad (g) 62))]) (by decide) rfl (Nat.le_of_ble_eq_true rfl) hg rfl (fun C hx hl hgC hR hn hq => ?_)
  subst hgC
  refine z_sub [0] rfl ?_
  exact w_X5_currentResult hx hn hR hq σ h
theorem dX5_length_0 : decode cX5_length 0 = .ok (.aload_n 0, 1) := by decide +kernel
theorem dX5_length_1 : decode cX5_length 1 = .ok (.invokevirtual 143, 3) := by decide +kernel
theorem dX5_length_4 : decode cX5_length 4 = .ok (.getfield 147, 3) := by decide +kernel
theorem dX5_length_7 : decode cX5_length 7 = .ok (.ireturn, 1) := by decide +kernel
abbrev rm_X5_length : Room := { frames := 6, cells := 0, slots := 0, locals := 146 }
theorem w_X5_length {C : zC} (hx : z_ok C cX5_length RX5 0) (hn : z_nL C = 1) (hR : z_R C = rm_X5_length) {rr : Int × zS} (hq : z_fin C (some .int) (z_QI (z_g C) rr.1 rr.2)) (σ : zS) (h : f_X5_length σ = some rr) : z_W C σ 0 [(0, .ref (z_ad (z_g C) 62))] [] := by
  unfold f_X5_length at h
  refine z_aload_n hx 0 dX5_length_0 rfl ?_
  obtain ⟨⟨⟩, σ1, h1, h⟩ := z_bind_some h
  refine z_callr hx (As := []) (k := 62) (met_X5_currentResult (z_l C) (z_g C) (z_ok_sd hx) h1) (z_lt0 (z_ok_sd hx) (by decide)) (z_kb62 (z_ok_sd hx) _) rfl rfl cv_X5_143 (z_room hR ⟨Nat.le_of_ble_eq_true rfl, Nat.le_of_ble_eq_true rfl⟩) ⟨rfl, rfl⟩ rfl rfl (Nat.le_of_ble_eq_true rfl) dX5_length_1 ?_
  refine gf_X3_count hx wf_X5_147 dX5_length_4 ?_
  cases h
  exact z_iret hx hq dX5_length_7

theorem met_X5_length (l : Launch) (g : zG) (hg : g.1 = 0) {σ : zS} {rr : Int × zS} (h : f_X5_length σ = some rr) : z_Met l yX5_length cX5_length 1 (some .int) rm_X5_length g [.ref (z_ad (g) 62)] σ (z_QI g rr.1 rr.2) := by
  refine z_enter (own := RX5) (sd := 0) (lv0 := [(0, .ref (z_ad (g) 62))]) (by decide) rfl (Nat.le_of_ble_eq_true rfl) hg rfl (fun C hx hl hgC hR hn hq => ?_)
  subst hgC
  refine z_sub [0] rfl ?_
  exact w_X5_length hx hn hR hq σ h
theorem dX5_heard_0 : decode cX5_heard 0 = .ok (.aload_n 0, 1) := by decide +kernel
theorem dX5_heard_1 : decode cX5_heard 1 = .ok (.invokevirtual 143, 3) := by decide +kernel
theorem dX5_heard_4 : decode cX5_heard 4 = .ok (.astore_n 3, 1) := by decide +kernel
theorem dX5_heard_5 : decode cX5_heard 5 = .ok (.iload_n 1, 1) := by decide +kernel
theorem dX5_heard_6 : decode cX5_heard 6 = .ok (.ifCond .lt 20, 3) := by decide +kernel
theorem dX5_heard_9 : decode cX5_heard 9 = .ok (.iload_n 1, 1) := by decide +kernel
theorem dX5_heard_10 : decode cX5_heard 10 = .ok (.aload_n 3, 1) := by decide +kernel
theorem dX5_heard_11 : decode cX5_heard 11 = .ok (.getfield 147, 3) := by decide +kernel
theorem dX5_heard_14 : decode cX5_heard 14 = .ok (.if_icmp .ge 12, 3) := by decide +kernel
theorem dX5_heard_17 : decode cX5_heard 17 = .ok (.iload_n 2, 1) := by decide +kernel
theorem dX5_heard_18 : decode cX5_heard 18 = .ok (.ifCond .lt 8, 3) := by decide +kernel
theorem dX5_heard_21 : decode cX5_heard 21 = .ok (.iload_n 2, 1) := by decide +kernel
theorem dX5_heard_22 : decode cX5_heard 22 = .ok (.iconst 1, 1) := by decide +kernel
theorem dX5_heard_23 : decode cX5_heard 23 = .ok (.if_icmp .le 5, 3) := by decide +kernel
theorem dX5_heard_26 : decode cX5_heard 26 = .ok (.iconst (-1), 1) := by decide +kernel
theorem dX5_heard_27 : decode cX5_heard 27 = .ok (.ireturn, 1) := by decide +kernel
theorem dX5_heard_28 : decode cX5_heard 28 = .ok (.iload_n 2, 1) := by decide +kernel
theorem dX5_heard_29 : decode cX5_heard 29 = .ok (.ifCond .ne 12, 3) := by decide +kernel
theorem dX5_heard_32 : decode cX5_heard 32 = .ok (.aload_n 3, 1) := by decide +kernel
theorem dX5_heard_33 : decode cX5_heard 33 = .ok (.getfield 148, 3) := by decide +kernel
theorem dX5_heard_36 : decode cX5_heard 36 = .ok (.iload_n 1, 1) := by decide +kernel
theorem dX5_heard_37 : decode cX5_heard 37 = .ok (.iaload, 1) := by decide +kernel
theorem dX5_heard_38 : decode cX5_heard 38 = .ok (.goto 9, 3) := by decide +kernel
theorem dX5_heard_41 : decode cX5_heard 41 = .ok (.aload_n 3, 1) := by decide +kernel
theorem dX5_heard_42 : decode cX5_heard 42 = .ok (.getfield 151, 3) := by decide +kernel
theorem dX5_heard_45 : decode cX5_heard 45 = .ok (.iload_n 1, 1) := by decide +kernel
theorem dX5_heard_46 : decode cX5_heard 46 = .ok (.iaload, 1) := by decide +kernel
theorem dX5_heard_47 : decode cX5_heard 47 = .ok (.ireturn, 1) := by decide +kernel
abbrev rm_X5_heard : Room := { frames := 6, cells := 0, slots := 0, locals := 146 }
theorem w_X5_heard_b47 {C : zC} (hx : z_ok C cX5_heard RX5 0) (hn : z_nL C = 4) (hR : z_R C = rm_X5_heard) {rr : Int × zS} (hq : z_fin C (some .int) (z_QI (z_g C) rr.1 rr.2)) (σ : zS) (s0 : Int) (h : f_X5_heard_b47 σ s0 = some rr) : z_W C σ 47 [] [.int (zi s0)] := by
  unfold f_X5_heard_b47 at h
  cases h
  exact z_iret hx hq dX5_heard_47

theorem w_X5_heard_b26 {C : zC} (hx : z_ok C cX5_heard RX5 0) (hn : z_nL C = 4) (hR : z_R C = rm_X5_heard) {rr : Int × zS} (hq : z_fin C (some .int) (z_QI (z_g C) rr.1 rr.2)) (σ : zS) (h : f_X5_heard_b26 σ = some rr) : z_W C σ 26 [] [] := by
  unfold f_X5_heard_b26 at h
  refine z_iconst hx (n := (-1)) dX5_heard_26 ?_
  cases h
  exact z_iret hx hq dX5_heard_27

theorem w_X5_heard {C : zC} (hx : z_ok C cX5_heard RX5 0) (hn : z_nL C = 4) (hR : z_R C = rm_X5_heard) {rr : Int × zS} (hq : z_fin C (some .int) (z_QI (z_g C) rr.1 rr.2)) (σ : zS) (x1 : Int) (x2 : Int) (h : f_X5_heard σ x1 x2 = some rr) : z_W C σ 0 [(0, .ref (z_ad (z_g C) 62)), (1, .int (zi x1)), (2, .int (zi x2))] [] := by
  unfold f_X5_heard at h
  refine z_aload_n hx 0 dX5_heard_0 rfl ?_
  obtain ⟨⟨⟩, σ1, h1, h⟩ := z_bind_some h
  refine z_callr hx (As := []) (k := 62) (met_X5_currentResult (z_l C) (z_g C) (z_ok_sd hx) h1) (z_lt0 (z_ok_sd hx) (by decide)) (z_kb62 (z_ok_sd hx) _) rfl rfl cv_X5_143 (z_room hR ⟨Nat.le_of_ble_eq_true rfl, Nat.le_of_ble_eq_true rfl⟩) ⟨rfl, rfl⟩ rfl rfl (Nat.le_of_ble_eq_true rfl) dX5_heard_1 ?_
  refine z_astore_n hx hn (lv' := [(3, .ref (z_ad (z_g C) 54)), (0, .ref (z_ad (z_g C) 62)), (1, .int (zi x1)), (2, .int (zi x2))]) dX5_heard_4 (by decide) rfl ?_
  refine z_iload_n hx 2 dX5_heard_5 rfl ?_
  refine z_if_lt hx (tgt := 26) dX5_heard_6 (by decide) h (fun h => h) (fun hc h => ?_) (fun hc h => ?_)
  · refine z_sub [] rfl ?_
    exact w_X5_heard_b26 hx hn hR hq σ1 h
  · refine z_iload_n hx 2 dX5_heard_9 rfl ?_
    refine z_aload_n hx 0 dX5_heard_10 rfl ?_
    refine gf_X3_count hx wf_X5_147 dX5_heard_11 ?_
    refine z_icmp_ge hx (tgt := 26) dX5_heard_14 (by decide) h (fun h => h) (fun hc h => ?_) (fun hc h => ?_)
    · refine z_sub [] rfl ?_
      exact w_X5_heard_b26 hx hn hR hq σ1 h
    · refine z_iload_n hx 3 dX5_heard_17 rfl ?_
      refine z_if_lt hx (tgt := 26) dX5_heard_18 (by decide) h (fun h => h) (fun hc h => ?_) (fun hc h => ?_)
      · refine z_sub [] rfl ?_
        exact w_X5_heard_b26 hx hn hR hq σ1 h
      · refine z_iload_n hx 3 dX5_heard_21 rfl ?_
        refine z_iconst hx (n := 1) dX5_heard_22 ?_
        refine z_icmp_le hx (tgt := 28) dX5_heard_23 (by decide) h (fun h => ⟨h, by decide⟩) (fun hc h => ?_) (fun hc h => ?_)
        · refine z_iload_n hx 3 dX5_heard_28 rfl ?_
          refine z_if_ne hx (tgt := 41) dX5_heard_29 (by decide) h (fun h => h) (fun hc h => ?_) (fun hc h => ?_)
          · refine z_aload_n hx 0 dX5_heard_41 rfl ?_
            refine gf_X3_levels hx wf_X5_151 dX5_heard_42 ?_
            refine z_iload_n hx 2 dX5_heard_45 rfl ?_
            refine z_iald hx (n := 200) (z_lt0 (z_ok_sd hx) (by decide)) (z_kb56 (z_ok_sd hx) _) rfl (by decide) dX5_heard_46 h (fun h => ?_)
            refine z_sub [] rfl ?_
            exact w_X5_heard_b47 hx hn hR hq σ1 (σ1 56 x1) h
          · refine z_aload_n hx 0 dX5_heard_32 rfl ?_
            refine gf_X3_sources hx wf_X5_148 dX5_heard_33 ?_
            refine z_iload_n hx 2 dX5_heard_36 rfl ?_
            refine z_iald hx (n := 200) (z_lt0 (z_ok_sd hx) (by decide)) (z_kb55 (z_ok_sd hx) _) rfl (by decide) dX5_heard_37 h (fun h => ?_)
            refine z_goto hx (tgt := 47) dX5_heard_38 (by decide) ?_
            refine z_sub [] rfl ?_
            exact w_X5_heard_b47 hx hn hR hq σ1 (σ1 55 x1) h
        · refine z_sub [] rfl ?_
          exact w_X5_heard_b26 hx hn hR hq σ1 h

theorem met_X5_heard (l : Launch) (g : zG) (hg : g.1 = 0) {σ : zS} {x1 : Int} {x2 : Int} {rr : Int × zS} (h : f_X5_heard σ x1 x2 = some rr) : z_Met l yX5_heard cX5_heard 4 (some .int) rm_X5_heard g [.ref (z_ad (g) 62), .int (zi x1), .int (zi x2)] σ (z_QI g rr.1 rr.2) := by
  refine z_enter (own := RX5) (sd := 0) (lv0 := [(0, .ref (z_ad (g) 62)), (1, .int (zi x1)), (2, .int (zi x2))]) (by decide) rfl (Nat.le_of_ble_eq_true rfl) hg rfl (fun C hx hl hgC hR hn hq => ?_)
  subst hgC
  refine z_sub [0, 1, 2] rfl ?_
  exact w_X5_heard hx hn hR hq σ x1 x2 h
theorem dX5_where_0 : decode cX5_where 0 = .ok (.aload_n 0, 1) := by decide +kernel
theorem dX5_where_1 : decode cX5_where 1 = .ok (.getfield 20, 3) := by decide +kernel
theorem dX5_where_4 : decode cX5_where 4 = .ok (.iload_n 1, 1) := by decide +kernel
theorem dX5_where_5 : decode cX5_where 5 = .ok (.invokevirtual 114, 3) := by decide +kernel
theorem dX5_where_8 : decode cX5_where 8 = .ok (.ifCond .ne 5, 3) := by decide +kernel
theorem dX5_where_11 : decode cX5_where 11 = .ok (.iconst (-1), 1) := by decide +kernel
theorem dX5_where_12 : decode cX5_where 12 = .ok (.ireturn, 1) := by decide +kernel
theorem dX5_where_13 : decode cX5_where 13 = .ok (.aload_n 0, 1) := by decide +kernel
theorem dX5_where_14 : decode cX5_where 14 = .ok (.invokevirtual 143, 3) := by decide +kernel
theorem dX5_where_17 : decode cX5_where 17 = .ok (.iload_n 1, 1) := by decide +kernel
theorem dX5_where_18 : decode cX5_where 18 = .ok (.invokevirtual 154, 3) := by decide +kernel
theorem dX5_where_21 : decode cX5_where 21 = .ok (.ireturn, 1) := by decide +kernel
abbrev rm_X5_where : Room := { frames := 6, cells := 0, slots := 0, locals := 146 }
theorem w_X5_where {C : zC} (hx : z_ok C cX5_where RX5 0) (hn : z_nL C = 2) (hR : z_R C = rm_X5_where) {rr : Int × zS} (hq : z_fin C (some .int) (z_QI (z_g C) rr.1 rr.2)) (σ : zS) (x1 : Int) (h : f_X5_where σ x1 = some rr) : z_W C σ 0 [(0, .ref (z_ad (z_g C) 62)), (1, .int (zi x1))] [] := by
  unfold f_X5_where at h
  refine z_aload_n hx 0 dX5_where_0 rfl ?_
  refine gf_X5_recording hx wf_X5_20 dX5_where_1 ?_
  refine z_iload_n hx 1 dX5_where_4 rfl ?_
  obtain ⟨r2, σ1, h5, h⟩ := z_bind_some h
  refine z_calli hx (As := [.int (zi x1)]) (k := 0) (met_X2_hasFrame (z_l C) (z_g C) (z_ok_sd hx) (show 0 < 6 by decide) h5) (z_lt0 (z_ok_sd hx) (by decide)) (z_ka0 (z_ok_sd hx) (show 0 < 6 by decide) _) rfl rfl cv_X5_114 (z_room hR ⟨Nat.le_of_ble_eq_true rfl, Nat.le_of_ble_eq_true rfl⟩) ⟨rfl, rfl⟩ rfl rfl (Nat.le_of_ble_eq_true rfl) dX5_where_5 ?_
  refine z_if_ne hx (tgt := 13) dX5_where_8 (by decide) h (fun h => h) (fun hc h => ?_) (fun hc h => ?_)
  · refine z_aload_n hx 0 dX5_where_13 rfl ?_
    obtain ⟨⟨⟩, σ3, h14, h⟩ := z_bind_some h
    refine z_callr hx (As := []) (k := 62) (met_X5_currentResult (z_l C) (z_g C) (z_ok_sd hx) h14) (z_lt0 (z_ok_sd hx) (by decide)) (z_kb62 (z_ok_sd hx) _) rfl rfl cv_X5_143 (z_room hR ⟨Nat.le_of_ble_eq_true rfl, Nat.le_of_ble_eq_true rfl⟩) ⟨rfl, rfl⟩ rfl rfl (Nat.le_of_ble_eq_true rfl) dX5_where_14 ?_
    refine z_iload_n hx 1 dX5_where_17 rfl ?_
    obtain ⟨r5, σ4, h18, h⟩ := z_bind_some h
    refine z_calli hx (As := [.int (zi x1)]) (k := 54) (met_X3_placeOfSource (z_l C) (z_g C) (z_ok_sd hx) h18) (z_lt0 (z_ok_sd hx) (by decide)) (z_kb54 (z_ok_sd hx) _) rfl rfl cv_X5_154 (z_room hR ⟨Nat.le_of_ble_eq_true rfl, Nat.le_of_ble_eq_true rfl⟩) ⟨rfl, rfl⟩ rfl rfl (Nat.le_of_ble_eq_true rfl) dX5_where_18 ?_
    cases h
    exact z_iret hx hq dX5_where_21
  · refine z_iconst hx (n := (-1)) dX5_where_11 ?_
    cases h
    exact z_iret hx hq dX5_where_12

theorem met_X5_where (l : Launch) (g : zG) (hg : g.1 = 0) {σ : zS} {x1 : Int} {rr : Int × zS} (h : f_X5_where σ x1 = some rr) : z_Met l yX5_where cX5_where 2 (some .int) rm_X5_where g [.ref (z_ad (g) 62), .int (zi x1)] σ (z_QI g rr.1 rr.2) := by
  refine z_enter (own := RX5) (sd := 0) (lv0 := [(0, .ref (z_ad (g) 62)), (1, .int (zi x1))]) (by decide) rfl (Nat.le_of_ble_eq_true rfl) hg rfl (fun C hx hl hgC hR hn hq => ?_)
  subst hgC
  refine z_sub [0, 1] rfl ?_
  exact w_X5_where hx hn hR hq σ x1 h
theorem dX5_clicks_0 : decode cX5_clicks 0 = .ok (.iload_n 1, 1) := by decide +kernel
theorem dX5_clicks_1 : decode cX5_clicks 1 = .ok (.ifCond .lt 9, 3) := by decide +kernel
theorem dX5_clicks_4 : decode cX5_clicks 4 = .ok (.iload_n 1, 1) := by decide +kernel
theorem dX5_clicks_5 : decode cX5_clicks 5 = .ok (.bipush 9, 2) := by decide +kernel
theorem dX5_clicks_7 : decode cX5_clicks 7 = .ok (.if_icmp .le 5, 3) := by decide +kernel
theorem dX5_clicks_10 : decode cX5_clicks 10 = .ok (.iconst (-1), 1) := by decide +kernel
theorem dX5_clicks_11 : decode cX5_clicks 11 = .ok (.ireturn, 1) := by decide +kernel
theorem dX5_clicks_12 : decode cX5_clicks 12 = .ok (.aload_n 0, 1) := by decide +kernel
theorem dX5_clicks_13 : decode cX5_clicks 13 = .ok (.invokevirtual 143, 3) := by decide +kernel
theorem dX5_clicks_16 : decode cX5_clicks 16 = .ok (.iload_n 1, 1) := by decide +kernel
theorem dX5_clicks_17 : decode cX5_clicks 17 = .ok (.invokevirtual 157, 3) := by decide +kernel
theorem dX5_clicks_20 : decode cX5_clicks 20 = .ok (.ireturn, 1) := by decide +kernel
abbrev rm_X5_clicks : Room := { frames := 6, cells := 0, slots := 0, locals := 146 }
theorem w_X5_clicks_b10 {C : zC} (hx : z_ok C cX5_clicks RX5 0) (hn : z_nL C = 2) (hR : z_R C = rm_X5_clicks) {rr : Int × zS} (hq : z_fin C (some .int) (z_QI (z_g C) rr.1 rr.2)) (σ : zS) (h : f_X5_clicks_b10 σ = some rr) : z_W C σ 10 [] [] := by
  unfold f_X5_clicks_b10 at h
  refine z_iconst hx (n := (-1)) dX5_clicks_10 ?_
  cases h
  exact z_iret hx hq dX5_clicks_11

theorem w_X5_clicks {C : zC} (hx : z_ok C cX5_clicks RX5 0) (hn : z_nL C = 2) (hR : z_R C = rm_X5_clicks) {rr : Int × zS} (hq : z_fin C (some .int) (z_QI (z_g C) rr.1 rr.2)) (σ : zS) (x1 : Int) (h : f_X5_clicks σ x1 = some rr) : z_W C σ 0 [(0, .ref (z_ad (z_g C) 62)), (1, .int (zi x1))] [] := by
  unfold f_X5_clicks at h
  refine z_iload_n hx 1 dX5_clicks_0 rfl ?_
  refine z_if_lt hx (tgt := 10) dX5_clicks_1 (by decide) h (fun h => h) (fun hc h => ?_) (fun hc h => ?_)
  · refine z_sub [] rfl ?_
    exact w_X5_clicks_b10 hx hn hR hq σ h
  · refine z_iload_n hx 1 dX5_clicks_4 rfl ?_
    refine z_bipush hx (n := 9) dX5_clicks_5 rfl ?_
    refine z_icmp_le hx (tgt := 12) dX5_clicks_7 (by decide) h (fun h => ⟨h, by decide⟩) (fun hc h => ?_) (fun hc h => ?_)
    · refine z_aload_n hx 0 dX5_clicks_12 rfl ?_
      obtain ⟨⟨⟩, σ1, h13, h⟩ := z_bind_some h
      refine z_callr hx (As := []) (k := 62) (met_X5_currentResult (z_l C) (z_g C) (z_ok_sd hx) h13) (z_lt0 (z_ok_sd hx) (by decide)) (z_kb62 (z_ok_sd hx) _) rfl rfl cv_X5_143 (z_room hR ⟨Nat.le_of_ble_eq_true rfl, Nat.le_of_ble_eq_true rfl⟩) ⟨rfl, rfl⟩ rfl rfl (Nat.le_of_ble_eq_true rfl) dX5_clicks_13 ?_
      refine z_iload_n hx 1 dX5_clicks_16 rfl ?_
      obtain ⟨r3, σ2, h17, h⟩ := z_bind_some h
      refine z_calli hx (As := [.int (zi x1)]) (k := 54) (met_X3_stepsGreaterThan (z_l C) (z_g C) (z_ok_sd hx) h17) (z_lt0 (z_ok_sd hx) (by decide)) (z_kb54 (z_ok_sd hx) _) rfl rfl cv_X5_157 (z_room hR ⟨Nat.le_of_ble_eq_true rfl, Nat.le_of_ble_eq_true rfl⟩) ⟨rfl, rfl⟩ rfl rfl (Nat.le_of_ble_eq_true rfl) dX5_clicks_17 ?_
      cases h
      exact z_iret hx hq dX5_clicks_20
    · refine z_sub [] rfl ?_
      exact w_X5_clicks_b10 hx hn hR hq σ h

theorem met_X5_clicks (l : Launch) (g : zG) (hg : g.1 = 0) {σ : zS} {x1 : Int} {rr : Int × zS} (h : f_X5_clicks σ x1 = some rr) : z_Met l yX5_clicks cX5_clicks 2 (some .int) rm_X5_clicks g [.ref (z_ad (g) 62), .int (zi x1)] σ (z_QI g rr.1 rr.2) := by
  refine z_enter (own := RX5) (sd := 0) (lv0 := [(0, .ref (z_ad (g) 62)), (1, .int (zi x1))]) (by decide) rfl (Nat.le_of_ble_eq_true rfl) hg rfl (fun C hx hl hgC hR hn hq => ?_)
  subst hgC
  refine z_sub [0, 1] rfl ?_
  exact w_X5_clicks hx hn hR hq σ x1 h
theorem dX5_silence_0 : decode cX5_silence 0 = .ok (.aload_n 0, 1) := by decide +kernel
theorem dX5_silence_1 : decode cX5_silence 1 = .ok (.invokevirtual 143, 3) := by decide +kernel
theorem dX5_silence_4 : decode cX5_silence 4 = .ok (.aload_n 0, 1) := by decide +kernel
theorem dX5_silence_5 : decode cX5_silence 5 = .ok (.getfield 20, 3) := by decide +kernel
theorem dX5_silence_8 : decode cX5_silence 8 = .ok (.getfield 99, 3) := by decide +kernel
theorem dX5_silence_11 : decode cX5_silence 11 = .ok (.iconst 1, 1) := by decide +kernel
theorem dX5_silence_12 : decode cX5_silence 12 = .ok (.iaload, 1) := by decide +kernel
theorem dX5_silence_13 : decode cX5_silence 13 = .ok (.invokevirtual 163, 3) := by decide +kernel
theorem dX5_silence_16 : decode cX5_silence 16 = .ok (.ireturn, 1) := by decide +kernel
abbrev rm_X5_silence : Room := { frames := 6, cells := 0, slots := 0, locals := 146 }
theorem w_X5_silence {C : zC} (hx : z_ok C cX5_silence RX5 0) (hn : z_nL C = 1) (hR : z_R C = rm_X5_silence) {rr : Int × zS} (hq : z_fin C (some .int) (z_QI (z_g C) rr.1 rr.2)) (σ : zS) (h : f_X5_silence σ = some rr) : z_W C σ 0 [(0, .ref (z_ad (z_g C) 62))] [] := by
  unfold f_X5_silence at h
  refine z_aload_n hx 0 dX5_silence_0 rfl ?_
  obtain ⟨⟨⟩, σ1, h1, h⟩ := z_bind_some h
  refine z_callr hx (As := []) (k := 62) (met_X5_currentResult (z_l C) (z_g C) (z_ok_sd hx) h1) (z_lt0 (z_ok_sd hx) (by decide)) (z_kb62 (z_ok_sd hx) _) rfl rfl cv_X5_143 (z_room hR ⟨Nat.le_of_ble_eq_true rfl, Nat.le_of_ble_eq_true rfl⟩) ⟨rfl, rfl⟩ rfl rfl (Nat.le_of_ble_eq_true rfl) dX5_silence_1 ?_
  refine z_aload_n hx 0 dX5_silence_4 rfl ?_
  refine gf_X5_recording hx wf_X5_20 dX5_silence_5 ?_
  refine gf_X2_settings hx wf_X5_99 (show 0 < 6 by decide) dX5_silence_8 ?_
  refine z_iconst hx (n := 1) dX5_silence_11 ?_
  refine z_iald hx (n := 7) (z_lt0 (z_ok_sd hx) (by decide)) (z_ka7 (z_ok_sd hx) (show 0 < 6 by decide) _) rfl (by decide) dX5_silence_12 h (fun h => ?_)
  obtain ⟨r3, σ2, h13, h⟩ := z_bind_some h
  refine z_calli hx (As := [.int (zi (σ1 7 1))]) (k := 54) (met_X3_longestStretchUpTo (z_l C) (z_g C) (z_ok_sd hx) h13) (z_lt0 (z_ok_sd hx) (by decide)) (z_kb54 (z_ok_sd hx) _) rfl rfl cv_X5_163 (z_room hR ⟨Nat.le_of_ble_eq_true rfl, Nat.le_of_ble_eq_true rfl⟩) ⟨rfl, rfl⟩ rfl rfl (Nat.le_of_ble_eq_true rfl) dX5_silence_13 ?_
  cases h
  exact z_iret hx hq dX5_silence_16

theorem met_X5_silence (l : Launch) (g : zG) (hg : g.1 = 0) {σ : zS} {rr : Int × zS} (h : f_X5_silence σ = some rr) : z_Met l yX5_silence cX5_silence 1 (some .int) rm_X5_silence g [.ref (z_ad (g) 62)] σ (z_QI g rr.1 rr.2) := by
  refine z_enter (own := RX5) (sd := 0) (lv0 := [(0, .ref (z_ad (g) 62))]) (by decide) rfl (Nat.le_of_ble_eq_true rfl) hg rfl (fun C hx hl hgC hR hn hq => ?_)
  subst hgC
  refine z_sub [0] rfl ?_
  exact w_X5_silence hx hn hR hq σ h
theorem dX5_undo_0 : decode cX5_undo 0 = .ok (.aload_n 0, 1) := by decide +kernel
theorem dX5_undo_1 : decode cX5_undo 1 = .ok (.getfield 27, 3) := by decide +kernel
theorem dX5_undo_4 : decode cX5_undo 4 = .ok (.getfield 166, 3) := by decide +kernel
theorem dX5_undo_7 : decode cX5_undo 7 = .ok (.ifCond .ne 6, 3) := by decide +kernel
theorem dX5_undo_10 : decode cX5_undo 10 = .ok (.bipush (-9), 2) := by decide +kernel
theorem dX5_undo_12 : decode cX5_undo 12 = .ok (.ireturn, 1) := by decide +kernel
theorem dX5_undo_13 : decode cX5_undo 13 = .ok (.aload_n 0, 1) := by decide +kernel
theorem dX5_undo_14 : decode cX5_undo 14 = .ok (.getfield 27, 3) := by decide +kernel
theorem dX5_undo_17 : decode cX5_undo 17 = .ok (.aload_n 0, 1) := by decide +kernel
theorem dX5_undo_18 : decode cX5_undo 18 = .ok (.getfield 20, 3) := by decide +kernel
theorem dX5_undo_21 : decode cX5_undo 21 = .ok (.invokevirtual 167, 3) := by decide +kernel
theorem dX5_undo_24 : decode cX5_undo 24 = .ok (.aload_n 0, 1) := by decide +kernel
theorem dX5_undo_25 : decode cX5_undo 25 = .ok (.getfield 27, 3) := by decide +kernel
theorem dX5_undo_28 : decode cX5_undo 28 = .ok (.getfield 166, 3) := by decide +kernel
theorem dX5_undo_31 : decode cX5_undo 31 = .ok (.ireturn, 1) := by decide +kernel
abbrev rm_X5_undo : Room := { frames := 4, cells := 0, slots := 0, locals := 124 }
theorem w_X5_undo {C : zC} (hx : z_ok C cX5_undo RX5 0) (hn : z_nL C = 1) (hR : z_R C = rm_X5_undo) {rr : Int × zS} (hq : z_fin C (some .int) (z_QI (z_g C) rr.1 rr.2)) (σ : zS) (h : f_X5_undo σ = some rr) : z_W C σ 0 [(0, .ref (z_ad (z_g C) 62))] [] := by
  unfold f_X5_undo at h
  refine z_aload_n hx 0 dX5_undo_0 rfl ?_
  refine gf_X5_history hx wf_X5_27 dX5_undo_1 ?_
  refine gf_X1_count hx wf_X5_166 dX5_undo_4 ?_
  refine z_if_ne hx (tgt := 13) dX5_undo_7 (by decide) h (fun h => h) (fun hc h => ?_) (fun hc h => ?_)
  · refine z_aload_n hx 0 dX5_undo_13 rfl ?_
    refine gf_X5_history hx wf_X5_27 dX5_undo_14 ?_
    refine z_aload_n hx 0 dX5_undo_17 rfl ?_
    refine gf_X5_recording hx wf_X5_20 dX5_undo_18 ?_
    obtain ⟨⟨⟩, σ1, h21, h⟩ := z_bind_some h
    refine z_callv hx (As := [.ref (z_ad (z_g C) 0)]) (k := 60) (met_X1_restoreLatest (z_l C) (z_g C) (z_ok_sd hx) (show 0 < 6 by decide) h21) (z_lt0 (z_ok_sd hx) (by decide)) (z_kb60 (z_ok_sd hx) _) rfl rfl cv_X5_167 (z_room hR ⟨Nat.le_of_ble_eq_true rfl, Nat.le_of_ble_eq_true rfl⟩) ⟨rfl, rfl⟩ rfl rfl (Nat.le_of_ble_eq_true rfl) dX5_undo_21 ?_
    refine z_aload_n hx 0 dX5_undo_24 rfl ?_
    refine gf_X5_history hx wf_X5_27 dX5_undo_25 ?_
    refine gf_X1_count hx wf_X5_166 dX5_undo_28 ?_
    cases h
    exact z_iret hx hq dX5_undo_31
  · refine z_bipush hx (n := (-9)) dX5_undo_10 rfl ?_
    cases h
    exact z_iret hx hq dX5_undo_12

theorem met_X5_undo (l : Launch) (g : zG) (hg : g.1 = 0) {σ : zS} {rr : Int × zS} (h : f_X5_undo σ = some rr) : z_Met l yX5_undo cX5_undo 1 (some .int) rm_X5_undo g [.ref (z_ad (g) 62)] σ (z_QI g rr.1 rr.2) := by
  refine z_enter (own := RX5) (sd := 0) (lv0 := [(0, .ref (z_ad (g) 62))]) (by decide) rfl (Nat.le_of_ble_eq_true rfl) hg rfl (fun C hx hl hgC hR hn hq => ?_)
  subst hgC
  refine z_sub [0] rfl ?_
  exact w_X5_undo hx hn hR hq σ h
theorem dX5_withMarks_0 : decode cX5_withMarks 0 = .ok (.lload_n 1, 1) := by decide +kernel
theorem dX5_withMarks_1 : decode cX5_withMarks 1 = .ok (.lstore 4, 2) := by decide +kernel
theorem dX5_withMarks_3 : decode cX5_withMarks 3 = .ok (.iconst 0, 1) := by decide +kernel
theorem dX5_withMarks_4 : decode cX5_withMarks 4 = .ok (.istore 6, 2) := by decide +kernel
theorem dX5_withMarks_6 : decode cX5_withMarks 6 = .ok (.iload 6, 2) := by decide +kernel
theorem dX5_withMarks_8 : decode cX5_withMarks 8 = .ok (.aload_n 0, 1) := by decide +kernel
theorem dX5_withMarks_9 : decode cX5_withMarks 9 = .ok (.getfield 20, 3) := by decide +kernel
theorem dX5_withMarks_12 : decode cX5_withMarks 12 = .ok (.getfield 78, 3) := by decide +kernel
theorem dX5_withMarks_15 : decode cX5_withMarks 15 = .ok (.if_icmp .ge 61, 3) := by decide +kernel
theorem dX5_withMarks_18 : decode cX5_withMarks 18 = .ok (.iconst 0, 1) := by decide +kernel
theorem dX5_withMarks_19 : decode cX5_withMarks 19 = .ok (.istore 7, 2) := by decide +kernel
theorem dX5_withMarks_21 : decode cX5_withMarks 21 = .ok (.iload 7, 2) := by decide +kernel
theorem dX5_withMarks_23 : decode cX5_withMarks 23 = .ok (.iconst 5, 1) := by decide +kernel
theorem dX5_withMarks_24 : decode cX5_withMarks 24 = .ok (.if_icmp .ge 30, 3) := by decide +kernel
theorem dX5_withMarks_27 : decode cX5_withMarks 27 = .ok (.ldc2_w 172, 3) := by decide +kernel
theorem dX5_withMarks_30 : decode cX5_withMarks 30 = .ok (.lload 4, 2) := by decide +kernel
theorem dX5_withMarks_32 : decode cX5_withMarks 32 = .ok (.lmul, 1) := by decide +kernel
theorem dX5_withMarks_33 : decode cX5_withMarks 33 = .ok (.aload_n 0, 1) := by decide +kernel
theorem dX5_withMarks_34 : decode cX5_withMarks 34 = .ok (.getfield 20, 3) := by decide +kernel
theorem dX5_withMarks_37 : decode cX5_withMarks 37 = .ok (.iload 6, 2) := by decide +kernel
theorem dX5_withMarks_39 : decode cX5_withMarks 39 = .ok (.iload 7, 2) := by decide +kernel
theorem dX5_withMarks_41 : decode cX5_withMarks 41 = .ok (.invokevirtual 110, 3) := by decide +kernel
theorem dX5_withMarks_44 : decode cX5_withMarks 44 = .ok (.i2l, 1) := by decide +kernel
theorem dX5_withMarks_45 : decode cX5_withMarks 45 = .ok (.ladd, 1) := by decide +kernel
theorem dX5_withMarks_46 : decode cX5_withMarks 46 = .ok (.lstore 4, 2) := by decide +kernel
theorem dX5_withMarks_48 : decode cX5_withMarks 48 = .ok (.iinc 7 1, 3) := by decide +kernel
theorem dX5_withMarks_51 : decode cX5_withMarks 51 = .ok (.goto (-30), 3) := by decide +kernel
theorem dX5_withMarks_54 : decode cX5_withMarks 54 = .ok (.ldc2_w 172, 3) := by decide +kernel
theorem dX5_withMarks_57 : decode cX5_withMarks 57 = .ok (.lload 4, 2) := by decide +kernel
theorem dX5_withMarks_59 : decode cX5_withMarks 59 = .ok (.lmul, 1) := by decide +kernel
theorem dX5_withMarks_60 : decode cX5_withMarks 60 = .ok (.aload_n 3, 1) := by decide +kernel
theorem dX5_withMarks_61 : decode cX5_withMarks 61 = .ok (.iload 6, 2) := by decide +kernel
theorem dX5_withMarks_63 : decode cX5_withMarks 63 = .ok (.invokevirtual 106, 3) := by decide +kernel
theorem dX5_withMarks_66 : decode cX5_withMarks 66 = .ok (.i2l, 1) := by decide +kernel
theorem dX5_withMarks_67 : decode cX5_withMarks 67 = .ok (.ladd, 1) := by decide +kernel
theorem dX5_withMarks_68 : decode cX5_withMarks 68 = .ok (.lstore 4, 2) := by decide +kernel
theorem dX5_withMarks_70 : decode cX5_withMarks 70 = .ok (.iinc 6 1, 3) := by decide +kernel
theorem dX5_withMarks_73 : decode cX5_withMarks 73 = .ok (.goto (-67), 3) := by decide +kernel
theorem dX5_withMarks_76 : decode cX5_withMarks 76 = .ok (.lload 4, 2) := by decide +kernel
theorem dX5_withMarks_78 : decode cX5_withMarks 78 = .ok (.lreturn, 1) := by decide +kernel
abbrev rm_X5_withMarks : Room := { frames := 2, cells := 0, slots := 0, locals := 43 }
theorem w_X5_withMarks_b21 {C : zC} (hx : z_ok C cX5_withMarks RX5 0) (hn : z_nL C = 8) (hR : z_R C = rm_X5_withMarks) {rr : Int × zS} (hq : z_fin C (some .long) (z_QL (z_g C) rr.1 rr.2)) {K6 : zS → Int → Int → Option (Int × zS)} (hK6 : ∀ (σ : zS) (y4 : Int) (x6 : Int) , K6 σ y4 x6 = some rr → z_W C σ 6 [(0, .ref (z_ad (z_g C) 62)), (3, .ref (z_ad (z_g C) 48)), (4, .long (zl y4)), (6, .int (zi x6))] []) {K21 : zS → Int → Int → Int → Option (Int × zS)} (hK21 : ∀ (σ : zS) (y4 : Int) (x6 : Int) (x7 : Int) , K21 σ y4 x6 x7 = some rr → z_W C σ 21 [(0, .ref (z_ad (z_g C) 62)), (3, .ref (z_ad (z_g C) 48)), (4, .long (zl y4)), (6, .int (zi x6)), (7, .int (zi x7))] []) (σ : zS) (y4 : Int) (x6 : Int) (x7 : Int) (h : f_X5_withMarks_b21 K6 K21 σ y4 x6 x7 = some rr) : z_W C σ 21 [(0, .ref (z_ad (z_g C) 62)), (3, .ref (z_ad (z_g C) 48)), (4, .long (zl y4)), (6, .int (zi x6)), (7, .int (zi x7))] [] := by
  unfold f_X5_withMarks_b21 at h
  refine z_iload hx 4 dX5_withMarks_21 rfl ?_
  refine z_iconst hx (n := 5) dX5_withMarks_23 ?_
  refine z_icmp_ge hx (tgt := 54) dX5_withMarks_24 (by decide) h (fun h => ⟨h, by decide⟩) (fun hc h => ?_) (fun hc h => ?_)
  · refine z_ldc2 hx (n := 31) wk_X5_172 dX5_withMarks_54 ?_
    refine z_lload hx 2 dX5_withMarks_57 rfl ?_
    refine z_lmul hx dX5_withMarks_59 ?_
    refine z_aload_n hx 1 dX5_withMarks_60 rfl ?_
    refine z_iload hx 3 dX5_withMarks_61 rfl ?_
    obtain ⟨r2, σ1, h63, h⟩ := z_bind_some h
    refine z_calli hx (As := [.int (zi x6)]) (k := 48) (met_X0_cutOfMark (z_l C) (z_g C) (z_ok_sd hx) h63) (z_lt0 (z_ok_sd hx) (by decide)) (z_kb48 (z_ok_sd hx) _) rfl rfl cv_X5_106 (z_room hR ⟨Nat.le_of_ble_eq_true rfl, Nat.le_of_ble_eq_true rfl⟩) ⟨rfl, rfl⟩ rfl rfl (Nat.le_of_ble_eq_true rfl) dX5_withMarks_63 ?_
    refine z_i2l hx dX5_withMarks_66 h (fun h => ?_)
    refine z_ladd hx dX5_withMarks_67 ?_
    refine z_lstore hx hn (lv' := [(4, .long (zl ((31 * y4) + r2))), (0, .ref (z_ad (z_g C) 62)), (3, .ref (z_ad (z_g C) 48)), (6, .int (zi x6)), (7, .int (zi x7))]) dX5_withMarks_68 (by decide) rfl ?_
    refine z_iinc hx hn 3 (lv' := [(6, .int (zi (x6 + 1))), (4, .long (zl ((31 * y4) + r2))), (0, .ref (z_ad (z_g C) 62)), (3, .ref (z_ad (z_g C) 48)), (7, .int (zi x7))]) dX5_withMarks_70 rfl (by decide) rfl ?_
    refine z_goto hx (tgt := 6) dX5_withMarks_73 (by decide) ?_
    refine z_sub [2, 3, 1, 0] rfl ?_
    exact hK6 σ1 ((31 * y4) + r2) (x6 + 1) h
  · refine z_ldc2 hx (n := 31) wk_X5_172 dX5_withMarks_27 ?_
    refine z_lload hx 2 dX5_withMarks_30 rfl ?_
    refine z_lmul hx dX5_withMarks_32 ?_
    refine z_aload_n hx 0 dX5_withMarks_33 rfl ?_
    refine gf_X5_recording hx wf_X5_20 dX5_withMarks_34 ?_
    refine z_iload hx 3 dX5_withMarks_37 rfl ?_
    refine z_iload hx 4 dX5_withMarks_39 rfl ?_
    obtain ⟨r4, σ3, h41, h⟩ := z_bind_some h
    refine z_calli hx (As := [.int (zi x6), .int (zi x7)]) (k := 0) (met_X2_numberOfMark (z_l C) (z_g C) (z_ok_sd hx) (show 0 < 6 by decide) h41) (z_lt0 (z_ok_sd hx) (by decide)) (z_ka0 (z_ok_sd hx) (show 0 < 6 by decide) _) rfl rfl cv_X5_110 (z_room hR ⟨Nat.le_of_ble_eq_true rfl, Nat.le_of_ble_eq_true rfl⟩) ⟨rfl, rfl⟩ rfl rfl (Nat.le_of_ble_eq_true rfl) dX5_withMarks_41 ?_
    refine z_i2l hx dX5_withMarks_44 h (fun h => ?_)
    refine z_ladd hx dX5_withMarks_45 ?_
    refine z_lstore hx hn (lv' := [(4, .long (zl ((31 * y4) + r4))), (0, .ref (z_ad (z_g C) 62)), (3, .ref (z_ad (z_g C) 48)), (6, .int (zi x6)), (7, .int (zi x7))]) dX5_withMarks_46 (by decide) rfl ?_
    refine z_iinc hx hn 4 (lv' := [(7, .int (zi (x7 + 1))), (4, .long (zl ((31 * y4) + r4))), (0, .ref (z_ad (z_g C) 62)), (3, .ref (z_ad (z_g C) 48)), (6, .int (zi x6))]) dX5_withMarks_48 rfl (by decide) rfl ?_
    refine z_goto hx (tgt := 21) dX5_withMarks_51 (by decide) ?_
    refine z_sub [2, 3, 1, 4, 0] rfl ?_
    exact hK21 σ3 ((31 * y4) + r4) x6 (x7 + 1) h

theorem w_X5_withMarks_l21 {C : zC} (hx : z_ok C cX5_withMarks RX5 0) (hn : z_nL C = 8) (hR : z_R C = rm_X5_withMarks) {rr : Int × zS} (hq : z_fin C (some .long) (z_QL (z_g C) rr.1 rr.2)) {K6 : zS → Int → Int → Option (Int × zS)} (hK6 : ∀ (σ : zS) (y4 : Int) (x6 : Int) , K6 σ y4 x6 = some rr → z_W C σ 6 [(0, .ref (z_ad (z_g C) 62)), (3, .ref (z_ad (z_g C) 48)), (4, .long (zl y4)), (6, .int (zi x6))] []) : ∀ (n : Nat) (σ : zS) (y4 : Int) (x6 : Int) (x7 : Int) (_ : f_X5_withMarks_l21 K6 n σ y4 x6 x7 = some rr), z_W C σ 21 [(0, .ref (z_ad (z_g C) 62)), (3, .ref (z_ad (z_g C) 48)), (4, .long (zl y4)), (6, .int (zi x6)), (7, .int (zi x7))] [] := by
  intro n
  induction n with
  | zero => intro σ y4 x6 x7 h; cases h
  | succ n ih =>
    intro σ y4 x6 x7 h
    exact w_X5_withMarks_b21 hx hn hR hq hK6 ih σ y4 x6 x7 h
theorem w_X5_withMarks_b6 {C : zC} (hx : z_ok C cX5_withMarks RX5 0) (hn : z_nL C = 8) (hR : z_R C = rm_X5_withMarks) {rr : Int × zS} (hq : z_fin C (some .long) (z_QL (z_g C) rr.1 rr.2)) {K6 : zS → Int → Int → Option (Int × zS)} (hK6 : ∀ (σ : zS) (y4 : Int) (x6 : Int) , K6 σ y4 x6 = some rr → z_W C σ 6 [(0, .ref (z_ad (z_g C) 62)), (3, .ref (z_ad (z_g C) 48)), (4, .long (zl y4)), (6, .int (zi x6))] []) (σ : zS) (y4 : Int) (x6 : Int) (h : f_X5_withMarks_b6 K6 σ y4 x6 = some rr) : z_W C σ 6 [(0, .ref (z_ad (z_g C) 62)), (3, .ref (z_ad (z_g C) 48)), (4, .long (zl y4)), (6, .int (zi x6))] [] := by
  unfold f_X5_withMarks_b6 at h
  refine z_iload hx 3 dX5_withMarks_6 rfl ?_
  refine z_aload_n hx 0 dX5_withMarks_8 rfl ?_
  refine gf_X5_recording hx wf_X5_20 dX5_withMarks_9 ?_
  refine gf_X2_marks hx wf_X5_78 (show 0 < 6 by decide) dX5_withMarks_12 ?_
  refine z_icmp_ge hx (tgt := 76) dX5_withMarks_15 (by decide) h (fun h => h) (fun hc h => ?_) (fun hc h => ?_)
  · refine z_lload hx 2 dX5_withMarks_76 rfl ?_
    cases h
    exact z_lret hx hq dX5_withMarks_78
  · refine z_iconst hx (n := 0) dX5_withMarks_18 ?_
    refine z_istore hx hn (lv' := [(7, .int (zi 0)), (0, .ref (z_ad (z_g C) 62)), (3, .ref (z_ad (z_g C) 48)), (4, .long (zl y4)), (6, .int (zi x6))]) dX5_withMarks_19 (by decide) rfl ?_
    refine z_sub [1, 2, 3, 4, 0] rfl ?_
    exact w_X5_withMarks_l21 hx hn hR hq hK6 z_fuel σ y4 x6 0 h

theorem w_X5_withMarks_l6 {C : zC} (hx : z_ok C cX5_withMarks RX5 0) (hn : z_nL C = 8) (hR : z_R C = rm_X5_withMarks) {rr : Int × zS} (hq : z_fin C (some .long) (z_QL (z_g C) rr.1 rr.2)) : ∀ (n : Nat) (σ : zS) (y4 : Int) (x6 : Int) (_ : f_X5_withMarks_l6 n σ y4 x6 = some rr), z_W C σ 6 [(0, .ref (z_ad (z_g C) 62)), (3, .ref (z_ad (z_g C) 48)), (4, .long (zl y4)), (6, .int (zi x6))] [] := by
  intro n
  induction n with
  | zero => intro σ y4 x6 h; cases h
  | succ n ih =>
    intro σ y4 x6 h
    exact w_X5_withMarks_b6 hx hn hR hq ih σ y4 x6 h
theorem w_X5_withMarks {C : zC} (hx : z_ok C cX5_withMarks RX5 0) (hn : z_nL C = 8) (hR : z_R C = rm_X5_withMarks) {rr : Int × zS} (hq : z_fin C (some .long) (z_QL (z_g C) rr.1 rr.2)) (σ : zS) (y1 : Int) (h : f_X5_withMarks σ y1 = some rr) : z_W C σ 0 [(0, .ref (z_ad (z_g C) 62)), (1, .long (zl y1)), (3, .ref (z_ad (z_g C) 48))] [] := by
  unfold f_X5_withMarks at h
  refine z_lload_n hx 1 dX5_withMarks_0 rfl ?_
  refine z_lstore hx hn (lv' := [(4, .long (zl y1)), (0, .ref (z_ad (z_g C) 62)), (1, .long (zl y1)), (3, .ref (z_ad (z_g C) 48))]) dX5_withMarks_1 (by decide) rfl ?_
  refine z_iconst hx (n := 0) dX5_withMarks_3 ?_
  refine z_istore hx hn (lv' := [(6, .int (zi 0)), (4, .long (zl y1)), (0, .ref (z_ad (z_g C) 62)), (1, .long (zl y1)), (3, .ref (z_ad (z_g C) 48))]) dX5_withMarks_4 (by decide) rfl ?_
  refine z_sub [2, 4, 1, 0] rfl ?_
  exact w_X5_withMarks_l6 hx hn hR hq z_fuel σ y1 0 h

theorem met_X5_withMarks (l : Launch) (g : zG) (hg : g.1 = 0) {σ : zS} {y1 : Int} {rr : Int × zS} (h : f_X5_withMarks σ y1 = some rr) : z_Met l yX5_withMarks cX5_withMarks 8 (some .long) rm_X5_withMarks g [.ref (z_ad (g) 62), .long (zl y1), .ref (z_ad (g) 48)] σ (z_QL g rr.1 rr.2) := by
  refine z_enter (own := RX5) (sd := 0) (lv0 := [(0, .ref (z_ad (g) 62)), (1, .long (zl y1)), (3, .ref (z_ad (g) 48))]) (by decide) rfl (Nat.le_of_ble_eq_true rfl) hg rfl (fun C hx hl hgC hR hn hq => ?_)
  subst hgC
  refine z_sub [0, 1, 2] rfl ?_
  exact w_X5_withMarks hx hn hR hq σ y1 h
theorem dX5_withCuts_0 : decode cX5_withCuts 0 = .ok (.ldc2_w 172, 3) := by decide +kernel
theorem dX5_withCuts_3 : decode cX5_withCuts 3 = .ok (.lload_n 1, 1) := by decide +kernel
theorem dX5_withCuts_4 : decode cX5_withCuts 4 = .ok (.lmul, 1) := by decide +kernel
theorem dX5_withCuts_5 : decode cX5_withCuts 5 = .ok (.aload_n 3, 1) := by decide +kernel
theorem dX5_withCuts_6 : decode cX5_withCuts 6 = .ok (.getfield 120, 3) := by decide +kernel
theorem dX5_withCuts_9 : decode cX5_withCuts 9 = .ok (.i2l, 1) := by decide +kernel
theorem dX5_withCuts_10 : decode cX5_withCuts 10 = .ok (.ladd, 1) := by decide +kernel
theorem dX5_withCuts_11 : decode cX5_withCuts 11 = .ok (.lstore 4, 2) := by decide +kernel
theorem dX5_withCuts_13 : decode cX5_withCuts 13 = .ok (.iconst 0, 1) := by decide +kernel
theorem dX5_withCuts_14 : decode cX5_withCuts 14 = .ok (.istore 6, 2) := by decide +kernel
theorem dX5_withCuts_16 : decode cX5_withCuts 16 = .ok (.iload 6, 2) := by decide +kernel
theorem dX5_withCuts_18 : decode cX5_withCuts 18 = .ok (.aload_n 3, 1) := by decide +kernel
theorem dX5_withCuts_19 : decode cX5_withCuts 19 = .ok (.getfield 120, 3) := by decide +kernel
theorem dX5_withCuts_22 : decode cX5_withCuts 22 = .ok (.if_icmp .ge 42, 3) := by decide +kernel
theorem dX5_withCuts_25 : decode cX5_withCuts 25 = .ok (.iconst 0, 1) := by decide +kernel
theorem dX5_withCuts_26 : decode cX5_withCuts 26 = .ok (.istore 7, 2) := by decide +kernel
theorem dX5_withCuts_28 : decode cX5_withCuts 28 = .ok (.iload 7, 2) := by decide +kernel
theorem dX5_withCuts_30 : decode cX5_withCuts 30 = .ok (.iconst 5, 1) := by decide +kernel
theorem dX5_withCuts_31 : decode cX5_withCuts 31 = .ok (.if_icmp .ge 27, 3) := by decide +kernel
theorem dX5_withCuts_34 : decode cX5_withCuts 34 = .ok (.ldc2_w 172, 3) := by decide +kernel
theorem dX5_withCuts_37 : decode cX5_withCuts 37 = .ok (.lload 4, 2) := by decide +kernel
theorem dX5_withCuts_39 : decode cX5_withCuts 39 = .ok (.lmul, 1) := by decide +kernel
theorem dX5_withCuts_40 : decode cX5_withCuts 40 = .ok (.aload_n 3, 1) := by decide +kernel
theorem dX5_withCuts_41 : decode cX5_withCuts 41 = .ok (.iload 6, 2) := by decide +kernel
theorem dX5_withCuts_43 : decode cX5_withCuts 43 = .ok (.iload 7, 2) := by decide +kernel
theorem dX5_withCuts_45 : decode cX5_withCuts 45 = .ok (.invokevirtual 123, 3) := by decide +kernel
theorem dX5_withCuts_48 : decode cX5_withCuts 48 = .ok (.i2l, 1) := by decide +kernel
theorem dX5_withCuts_49 : decode cX5_withCuts 49 = .ok (.ladd, 1) := by decide +kernel
theorem dX5_withCuts_50 : decode cX5_withCuts 50 = .ok (.lstore 4, 2) := by decide +kernel
theorem dX5_withCuts_52 : decode cX5_withCuts 52 = .ok (.iinc 7 1, 3) := by decide +kernel
theorem dX5_withCuts_55 : decode cX5_withCuts 55 = .ok (.goto (-27), 3) := by decide +kernel
theorem dX5_withCuts_58 : decode cX5_withCuts 58 = .ok (.iinc 6 1, 3) := by decide +kernel
theorem dX5_withCuts_61 : decode cX5_withCuts 61 = .ok (.goto (-45), 3) := by decide +kernel
theorem dX5_withCuts_64 : decode cX5_withCuts 64 = .ok (.lload 4, 2) := by decide +kernel
theorem dX5_withCuts_66 : decode cX5_withCuts 66 = .ok (.lreturn, 1) := by decide +kernel
abbrev rm_X5_withCuts : Room := { frames := 1, cells := 0, slots := 0, locals := 22 }
theorem w_X5_withCuts_b28 {C : zC} (hx : z_ok C cX5_withCuts RX5 0) (hn : z_nL C = 8) (hR : z_R C = rm_X5_withCuts) {rr : Int × zS} (hq : z_fin C (some .long) (z_QL (z_g C) rr.1 rr.2)) {K16 : zS → Int → Int → Option (Int × zS)} (hK16 : ∀ (σ : zS) (y4 : Int) (x6 : Int) , K16 σ y4 x6 = some rr → z_W C σ 16 [(3, .ref (z_ad (z_g C) 48)), (4, .long (zl y4)), (6, .int (zi x6))] []) {K28 : zS → Int → Int → Int → Option (Int × zS)} (hK28 : ∀ (σ : zS) (y4 : Int) (x6 : Int) (x7 : Int) , K28 σ y4 x6 x7 = some rr → z_W C σ 28 [(3, .ref (z_ad (z_g C) 48)), (4, .long (zl y4)), (6, .int (zi x6)), (7, .int (zi x7))] []) (σ : zS) (y4 : Int) (x6 : Int) (x7 : Int) (h : f_X5_withCuts_b28 K16 K28 σ y4 x6 x7 = some rr) : z_W C σ 28 [(3, .ref (z_ad (z_g C) 48)), (4, .long (zl y4)), (6, .int (zi x6)), (7, .int (zi x7))] [] := by
  unfold f_X5_withCuts_b28 at h
  refine z_iload hx 3 dX5_withCuts_28 rfl ?_
  refine z_iconst hx (n := 5) dX5_withCuts_30 ?_
  refine z_icmp_ge hx (tgt := 58) dX5_withCuts_31 (by decide) h (fun h => ⟨h, by decide⟩) (fun hc h => ?_) (fun hc h => ?_)
  · refine z_iinc hx hn 2 (lv' := [(6, .int (zi (x6 + 1))), (3, .ref (z_ad (z_g C) 48)), (4, .long (zl y4)), (7, .int (zi x7))]) dX5_withCuts_58 rfl (by decide) rfl ?_
    refine z_goto hx (tgt := 16) dX5_withCuts_61 (by decide) ?_
    refine z_sub [1, 2, 0] rfl ?_
    exact hK16 σ y4 (x6 + 1) h
  · refine z_ldc2 hx (n := 31) wk_X5_172 dX5_withCuts_34 ?_
    refine z_lload hx 1 dX5_withCuts_37 rfl ?_
    refine z_lmul hx dX5_withCuts_39 ?_
    refine z_aload_n hx 0 dX5_withCuts_40 rfl ?_
    refine z_iload hx 2 dX5_withCuts_41 rfl ?_
    refine z_iload hx 3 dX5_withCuts_43 rfl ?_
    obtain ⟨r2, σ1, h45, h⟩ := z_bind_some h
    refine z_calli hx (As := [.int (zi x6), .int (zi x7)]) (k := 48) (met_X0_numberOfCut (z_l C) (z_g C) (z_ok_sd hx) h45) (z_lt0 (z_ok_sd hx) (by decide)) (z_kb48 (z_ok_sd hx) _) rfl rfl cv_X5_123 (z_room hR ⟨Nat.le_of_ble_eq_true rfl, Nat.le_of_ble_eq_true rfl⟩) ⟨rfl, rfl⟩ rfl rfl (Nat.le_of_ble_eq_true rfl) dX5_withCuts_45 ?_
    refine z_i2l hx dX5_withCuts_48 h (fun h => ?_)
    refine z_ladd hx dX5_withCuts_49 ?_
    refine z_lstore hx hn (lv' := [(4, .long (zl ((31 * y4) + r2))), (3, .ref (z_ad (z_g C) 48)), (6, .int (zi x6)), (7, .int (zi x7))]) dX5_withCuts_50 (by decide) rfl ?_
    refine z_iinc hx hn 3 (lv' := [(7, .int (zi (x7 + 1))), (4, .long (zl ((31 * y4) + r2))), (3, .ref (z_ad (z_g C) 48)), (6, .int (zi x6))]) dX5_withCuts_52 rfl (by decide) rfl ?_
    refine z_goto hx (tgt := 28) dX5_withCuts_55 (by decide) ?_
    refine z_sub [2, 1, 3, 0] rfl ?_
    exact hK28 σ1 ((31 * y4) + r2) x6 (x7 + 1) h

theorem w_X5_withCuts_l28 {C : zC} (hx : z_ok C cX5_withCuts RX5 0) (hn : z_nL C = 8) (hR : z_R C = rm_X5_withCuts) {rr : Int × zS} (hq : z_fin C (some .long) (z_QL (z_g C) rr.1 rr.2)) {K16 : zS → Int → Int → Option (Int × zS)} (hK16 : ∀ (σ : zS) (y4 : Int) (x6 : Int) , K16 σ y4 x6 = some rr → z_W C σ 16 [(3, .ref (z_ad (z_g C) 48)), (4, .long (zl y4)), (6, .int (zi x6))] []) : ∀ (n : Nat) (σ : zS) (y4 : Int) (x6 : Int) (x7 : Int) (_ : f_X5_withCuts_l28 K16 n σ y4 x6 x7 = some rr), z_W C σ 28 [(3, .ref (z_ad (z_g C) 48)), (4, .long (zl y4)), (6, .int (zi x6)), (7, .int (zi x7))] [] := by
  intro n
  induction n with
  | zero => intro σ y4 x6 x7 h; cases h
  | succ n ih =>
    intro σ y4 x6 x7 h
    exact w_X5_withCuts_b28 hx hn hR hq hK16 ih σ y4 x6 x7 h
theorem w_X5_withCuts_b16 {C : zC} (hx : z_ok C cX5_withCuts RX5 0) (hn : z_nL C = 8) (hR : z_R C = rm_X5_withCuts) {rr : Int × zS} (hq : z_fin C (some .long) (z_QL (z_g C) rr.1 rr.2)) {K16 : zS → Int → Int → Option (Int × zS)} (hK16 : ∀ (σ : zS) (y4 : Int) (x6 : Int) , K16 σ y4 x6 = some rr → z_W C σ 16 [(3, .ref (z_ad (z_g C) 48)), (4, .long (zl y4)), (6, .int (zi x6))] []) (σ : zS) (y4 : Int) (x6 : Int) (h : f_X5_withCuts_b16 K16 σ y4 x6 = some rr) : z_W C σ 16 [(3, .ref (z_ad (z_g C) 48)), (4, .long (zl y4)), (6, .int (zi x6))] [] := by
  unfold f_X5_withCuts_b16 at h
  refine z_iload hx 2 dX5_withCuts_16 rfl ?_
  refine z_aload_n hx 0 dX5_withCuts_18 rfl ?_
  refine gf_X0_count hx wf_X5_120 dX5_withCuts_19 ?_
  refine z_icmp_ge hx (tgt := 64) dX5_withCuts_22 (by decide) h (fun h => h) (fun hc h => ?_) (fun hc h => ?_)
  · refine z_lload hx 1 dX5_withCuts_64 rfl ?_
    cases h
    exact z_lret hx hq dX5_withCuts_66
  · refine z_iconst hx (n := 0) dX5_withCuts_25 ?_
    refine z_istore hx hn (lv' := [(7, .int (zi 0)), (3, .ref (z_ad (z_g C) 48)), (4, .long (zl y4)), (6, .int (zi x6))]) dX5_withCuts_26 (by decide) rfl ?_
    refine z_sub [1, 2, 3, 0] rfl ?_
    exact w_X5_withCuts_l28 hx hn hR hq hK16 z_fuel σ y4 x6 0 h

theorem w_X5_withCuts_l16 {C : zC} (hx : z_ok C cX5_withCuts RX5 0) (hn : z_nL C = 8) (hR : z_R C = rm_X5_withCuts) {rr : Int × zS} (hq : z_fin C (some .long) (z_QL (z_g C) rr.1 rr.2)) : ∀ (n : Nat) (σ : zS) (y4 : Int) (x6 : Int) (_ : f_X5_withCuts_l16 n σ y4 x6 = some rr), z_W C σ 16 [(3, .ref (z_ad (z_g C) 48)), (4, .long (zl y4)), (6, .int (zi x6))] [] := by
  intro n
  induction n with
  | zero => intro σ y4 x6 h; cases h
  | succ n ih =>
    intro σ y4 x6 h
    exact w_X5_withCuts_b16 hx hn hR hq ih σ y4 x6 h
theorem w_X5_withCuts {C : zC} (hx : z_ok C cX5_withCuts RX5 0) (hn : z_nL C = 8) (hR : z_R C = rm_X5_withCuts) {rr : Int × zS} (hq : z_fin C (some .long) (z_QL (z_g C) rr.1 rr.2)) (σ : zS) (y1 : Int) (h : f_X5_withCuts σ y1 = some rr) : z_W C σ 0 [(1, .long (zl y1)), (3, .ref (z_ad (z_g C) 48))] [] := by
  unfold f_X5_withCuts at h
  refine z_ldc2 hx (n := 31) wk_X5_172 dX5_withCuts_0 ?_
  refine z_lload_n hx 0 dX5_withCuts_3 rfl ?_
  refine z_lmul hx dX5_withCuts_4 ?_
  refine z_aload_n hx 1 dX5_withCuts_5 rfl ?_
  refine gf_X0_count hx wf_X5_120 dX5_withCuts_6 ?_
  refine z_i2l hx dX5_withCuts_9 h (fun h => ?_)
  refine z_ladd hx dX5_withCuts_10 ?_
  refine z_lstore hx hn (lv' := [(4, .long (zl ((31 * y1) + (σ 48 5)))), (1, .long (zl y1)), (3, .ref (z_ad (z_g C) 48))]) dX5_withCuts_11 (by decide) rfl ?_
  refine z_iconst hx (n := 0) dX5_withCuts_13 ?_
  refine z_istore hx hn (lv' := [(6, .int (zi 0)), (4, .long (zl ((31 * y1) + (σ 48 5)))), (1, .long (zl y1)), (3, .ref (z_ad (z_g C) 48))]) dX5_withCuts_14 (by decide) rfl ?_
  refine z_sub [3, 1, 0] rfl ?_
  exact w_X5_withCuts_l16 hx hn hR hq z_fuel σ ((31 * y1) + (σ 48 5)) 0 h

theorem met_X5_withCuts (l : Launch) (g : zG) (hg : g.1 = 0) {σ : zS} {y1 : Int} {rr : Int × zS} (h : f_X5_withCuts σ y1 = some rr) : z_Met l yX5_withCuts cX5_withCuts 8 (some .long) rm_X5_withCuts g [.ref (z_ad (g) 62), .long (zl y1), .ref (z_ad (g) 48)] σ (z_QL g rr.1 rr.2) := by
  refine z_enter (own := RX5) (sd := 0) (lv0 := [(0, .ref (z_ad (g) 62)), (1, .long (zl y1)), (3, .ref (z_ad (g) 48))]) (by decide) rfl (Nat.le_of_ble_eq_true rfl) hg rfl (fun C hx hl hgC hR hn hq => ?_)
  subst hgC
  refine z_sub [1, 2] rfl ?_
  exact w_X5_withCuts hx hn hR hq σ y1 h
theorem dX5_withResult_0 : decode cX5_withResult 0 = .ok (.ldc2_w 172, 3) := by decide +kernel
theorem dX5_withResult_3 : decode cX5_withResult 3 = .ok (.lload_n 1, 1) := by decide +kernel
theorem dX5_withResult_4 : decode cX5_withResult 4 = .ok (.lmul, 1) := by decide +kernel
theorem dX5_withResult_5 : decode cX5_withResult 5 = .ok (.aload_n 3, 1) := by decide +kernel
theorem dX5_withResult_6 : decode cX5_withResult 6 = .ok (.getfield 147, 3) := by decide +kernel
theorem dX5_withResult_9 : decode cX5_withResult 9 = .ok (.i2l, 1) := by decide +kernel
theorem dX5_withResult_10 : decode cX5_withResult 10 = .ok (.ladd, 1) := by decide +kernel
theorem dX5_withResult_11 : decode cX5_withResult 11 = .ok (.lstore 4, 2) := by decide +kernel
theorem dX5_withResult_13 : decode cX5_withResult 13 = .ok (.iconst 0, 1) := by decide +kernel
theorem dX5_withResult_14 : decode cX5_withResult 14 = .ok (.istore 6, 2) := by decide +kernel
theorem dX5_withResult_16 : decode cX5_withResult 16 = .ok (.iload 6, 2) := by decide +kernel
theorem dX5_withResult_18 : decode cX5_withResult 18 = .ok (.aload_n 3, 1) := by decide +kernel
theorem dX5_withResult_19 : decode cX5_withResult 19 = .ok (.getfield 147, 3) := by decide +kernel
theorem dX5_withResult_22 : decode cX5_withResult 22 = .ok (.if_icmp .ge 43, 3) := by decide +kernel
theorem dX5_withResult_25 : decode cX5_withResult 25 = .ok (.ldc2_w 172, 3) := by decide +kernel
theorem dX5_withResult_28 : decode cX5_withResult 28 = .ok (.lload 4, 2) := by decide +kernel
theorem dX5_withResult_30 : decode cX5_withResult 30 = .ok (.lmul, 1) := by decide +kernel
theorem dX5_withResult_31 : decode cX5_withResult 31 = .ok (.aload_n 3, 1) := by decide +kernel
theorem dX5_withResult_32 : decode cX5_withResult 32 = .ok (.getfield 148, 3) := by decide +kernel
theorem dX5_withResult_35 : decode cX5_withResult 35 = .ok (.iload 6, 2) := by decide +kernel
theorem dX5_withResult_37 : decode cX5_withResult 37 = .ok (.iaload, 1) := by decide +kernel
theorem dX5_withResult_38 : decode cX5_withResult 38 = .ok (.i2l, 1) := by decide +kernel
theorem dX5_withResult_39 : decode cX5_withResult 39 = .ok (.ladd, 1) := by decide +kernel
theorem dX5_withResult_40 : decode cX5_withResult 40 = .ok (.lstore 4, 2) := by decide +kernel
theorem dX5_withResult_42 : decode cX5_withResult 42 = .ok (.ldc2_w 172, 3) := by decide +kernel
theorem dX5_withResult_45 : decode cX5_withResult 45 = .ok (.lload 4, 2) := by decide +kernel
theorem dX5_withResult_47 : decode cX5_withResult 47 = .ok (.lmul, 1) := by decide +kernel
theorem dX5_withResult_48 : decode cX5_withResult 48 = .ok (.aload_n 3, 1) := by decide +kernel
theorem dX5_withResult_49 : decode cX5_withResult 49 = .ok (.getfield 151, 3) := by decide +kernel
theorem dX5_withResult_52 : decode cX5_withResult 52 = .ok (.iload 6, 2) := by decide +kernel
theorem dX5_withResult_54 : decode cX5_withResult 54 = .ok (.iaload, 1) := by decide +kernel
theorem dX5_withResult_55 : decode cX5_withResult 55 = .ok (.i2l, 1) := by decide +kernel
theorem dX5_withResult_56 : decode cX5_withResult 56 = .ok (.ladd, 1) := by decide +kernel
theorem dX5_withResult_57 : decode cX5_withResult 57 = .ok (.lstore 4, 2) := by decide +kernel
theorem dX5_withResult_59 : decode cX5_withResult 59 = .ok (.iinc 6 1, 3) := by decide +kernel
theorem dX5_withResult_62 : decode cX5_withResult 62 = .ok (.goto (-46), 3) := by decide +kernel
theorem dX5_withResult_65 : decode cX5_withResult 65 = .ok (.lload 4, 2) := by decide +kernel
theorem dX5_withResult_67 : decode cX5_withResult 67 = .ok (.lreturn, 1) := by decide +kernel
abbrev rm_X5_withResult : Room := { frames := 0, cells := 0, slots := 0, locals := 0 }
theorem w_X5_withResult_b16 {C : zC} (hx : z_ok C cX5_withResult RX5 0) (hn : z_nL C = 7) (hR : z_R C = rm_X5_withResult) {rr : Int × zS} (hq : z_fin C (some .long) (z_QL (z_g C) rr.1 rr.2)) {K16 : zS → Int → Int → Option (Int × zS)} (hK16 : ∀ (σ : zS) (y4 : Int) (x6 : Int) , K16 σ y4 x6 = some rr → z_W C σ 16 [(3, .ref (z_ad (z_g C) 54)), (4, .long (zl y4)), (6, .int (zi x6))] []) (σ : zS) (y4 : Int) (x6 : Int) (h : f_X5_withResult_b16 K16 σ y4 x6 = some rr) : z_W C σ 16 [(3, .ref (z_ad (z_g C) 54)), (4, .long (zl y4)), (6, .int (zi x6))] [] := by
  unfold f_X5_withResult_b16 at h
  refine z_iload hx 2 dX5_withResult_16 rfl ?_
  refine z_aload_n hx 0 dX5_withResult_18 rfl ?_
  refine gf_X3_count hx wf_X5_147 dX5_withResult_19 ?_
  refine z_icmp_ge hx (tgt := 65) dX5_withResult_22 (by decide) h (fun h => h) (fun hc h => ?_) (fun hc h => ?_)
  · refine z_lload hx 1 dX5_withResult_65 rfl ?_
    cases h
    exact z_lret hx hq dX5_withResult_67
  · refine z_ldc2 hx (n := 31) wk_X5_172 dX5_withResult_25 ?_
    refine z_lload hx 1 dX5_withResult_28 rfl ?_
    refine z_lmul hx dX5_withResult_30 ?_
    refine z_aload_n hx 0 dX5_withResult_31 rfl ?_
    refine gf_X3_sources hx wf_X5_148 dX5_withResult_32 ?_
    refine z_iload hx 2 dX5_withResult_35 rfl ?_
    refine z_iald hx (n := 200) (z_lt0 (z_ok_sd hx) (by decide)) (z_kb55 (z_ok_sd hx) _) rfl (by decide) dX5_withResult_37 h (fun h => ?_)
    refine z_i2l hx dX5_withResult_38 h (fun h => ?_)
    refine z_ladd hx dX5_withResult_39 ?_
    refine z_lstore hx hn (lv' := [(4, .long (zl ((31 * y4) + (σ 55 x6)))), (3, .ref (z_ad (z_g C) 54)), (6, .int (zi x6))]) dX5_withResult_40 (by decide) rfl ?_
    refine z_ldc2 hx (n := 31) wk_X5_172 dX5_withResult_42 ?_
    refine z_lload hx 0 dX5_withResult_45 rfl ?_
    refine z_lmul hx dX5_withResult_47 ?_
    refine z_aload_n hx 1 dX5_withResult_48 rfl ?_
    refine gf_X3_levels hx wf_X5_151 dX5_withResult_49 ?_
    refine z_iload hx 2 dX5_withResult_52 rfl ?_
    refine z_iald hx (n := 200) (z_lt0 (z_ok_sd hx) (by decide)) (z_kb56 (z_ok_sd hx) _) rfl (by decide) dX5_withResult_54 h (fun h => ?_)
    refine z_i2l hx dX5_withResult_55 h (fun h => ?_)
    refine z_ladd hx dX5_withResult_56 ?_
    refine z_lstore hx hn (lv' := [(4, .long (zl ((31 * ((31 * y4) + (σ 55 x6))) + (σ 56 x6)))), (3, .ref (z_ad (z_g C) 54)), (6, .int (zi x6))]) dX5_withResult_57 (by decide) rfl ?_
    refine z_iinc hx hn 2 (lv' := [(6, .int (zi (x6 + 1))), (4, .long (zl ((31 * ((31 * y4) + (σ 55 x6))) + (σ 56 x6)))), (3, .ref (z_ad (z_g C) 54))]) dX5_withResult_59 rfl (by decide) rfl ?_
    refine z_goto hx (tgt := 16) dX5_withResult_62 (by decide) ?_
    refine z_sub [2, 1, 0] rfl ?_
    exact hK16 σ ((31 * ((31 * y4) + (σ 55 x6))) + (σ 56 x6)) (x6 + 1) h

theorem w_X5_withResult_l16 {C : zC} (hx : z_ok C cX5_withResult RX5 0) (hn : z_nL C = 7) (hR : z_R C = rm_X5_withResult) {rr : Int × zS} (hq : z_fin C (some .long) (z_QL (z_g C) rr.1 rr.2)) : ∀ (n : Nat) (σ : zS) (y4 : Int) (x6 : Int) (_ : f_X5_withResult_l16 n σ y4 x6 = some rr), z_W C σ 16 [(3, .ref (z_ad (z_g C) 54)), (4, .long (zl y4)), (6, .int (zi x6))] [] := by
  intro n
  induction n with
  | zero => intro σ y4 x6 h; cases h
  | succ n ih =>
    intro σ y4 x6 h
    exact w_X5_withResult_b16 hx hn hR hq ih σ y4 x6 h
theorem w_X5_withResult {C : zC} (hx : z_ok C cX5_withResult RX5 0) (hn : z_nL C = 7) (hR : z_R C = rm_X5_withResult) {rr : Int × zS} (hq : z_fin C (some .long) (z_QL (z_g C) rr.1 rr.2)) (σ : zS) (y1 : Int) (h : f_X5_withResult σ y1 = some rr) : z_W C σ 0 [(1, .long (zl y1)), (3, .ref (z_ad (z_g C) 54))] [] := by
  unfold f_X5_withResult at h
  refine z_ldc2 hx (n := 31) wk_X5_172 dX5_withResult_0 ?_
  refine z_lload_n hx 0 dX5_withResult_3 rfl ?_
  refine z_lmul hx dX5_withResult_4 ?_
  refine z_aload_n hx 1 dX5_withResult_5 rfl ?_
  refine gf_X3_count hx wf_X5_147 dX5_withResult_6 ?_
  refine z_i2l hx dX5_withResult_9 h (fun h => ?_)
  refine z_ladd hx dX5_withResult_10 ?_
  refine z_lstore hx hn (lv' := [(4, .long (zl ((31 * y1) + (σ 54 2)))), (1, .long (zl y1)), (3, .ref (z_ad (z_g C) 54))]) dX5_withResult_11 (by decide) rfl ?_
  refine z_iconst hx (n := 0) dX5_withResult_13 ?_
  refine z_istore hx hn (lv' := [(6, .int (zi 0)), (4, .long (zl ((31 * y1) + (σ 54 2)))), (1, .long (zl y1)), (3, .ref (z_ad (z_g C) 54))]) dX5_withResult_14 (by decide) rfl ?_
  refine z_sub [3, 1, 0] rfl ?_
  exact w_X5_withResult_l16 hx hn hR hq z_fuel σ ((31 * y1) + (σ 54 2)) 0 h

theorem met_X5_withResult (l : Launch) (g : zG) (hg : g.1 = 0) {σ : zS} {y1 : Int} {rr : Int × zS} (h : f_X5_withResult σ y1 = some rr) : z_Met l yX5_withResult cX5_withResult 7 (some .long) rm_X5_withResult g [.ref (z_ad (g) 62), .long (zl y1), .ref (z_ad (g) 54)] σ (z_QL g rr.1 rr.2) := by
  refine z_enter (own := RX5) (sd := 0) (lv0 := [(0, .ref (z_ad (g) 62)), (1, .long (zl y1)), (3, .ref (z_ad (g) 54))]) (by decide) rfl (Nat.le_of_ble_eq_true rfl) hg rfl (fun C hx hl hgC hR hn hq => ?_)
  subst hgC
  refine z_sub [1, 2] rfl ?_
  exact w_X5_withResult hx hn hR hq σ y1 h
theorem dX5_fingerprint_0 : decode cX5_fingerprint 0 = .ok (.ldc2_w 170, 3) := by decide +kernel
theorem dX5_fingerprint_3 : decode cX5_fingerprint 3 = .ok (.lstore_n 1, 1) := by decide +kernel
theorem dX5_fingerprint_4 : decode cX5_fingerprint 4 = .ok (.iconst 0, 1) := by decide +kernel
theorem dX5_fingerprint_5 : decode cX5_fingerprint 5 = .ok (.istore_n 3, 1) := by decide +kernel
theorem dX5_fingerprint_6 : decode cX5_fingerprint 6 = .ok (.iload_n 3, 1) := by decide +kernel
theorem dX5_fingerprint_7 : decode cX5_fingerprint 7 = .ok (.bipush 8, 2) := by decide +kernel
theorem dX5_fingerprint_9 : decode cX5_fingerprint 9 = .ok (.if_icmp .gt 22, 3) := by decide +kernel
theorem dX5_fingerprint_12 : decode cX5_fingerprint 12 = .ok (.ldc2_w 172, 3) := by decide +kernel
theorem dX5_fingerprint_15 : decode cX5_fingerprint 15 = .ok (.lload_n 1, 1) := by decide +kernel
theorem dX5_fingerprint_16 : decode cX5_fingerprint 16 = .ok (.lmul, 1) := by decide +kernel
theorem dX5_fingerprint_17 : decode cX5_fingerprint 17 = .ok (.aload_n 0, 1) := by decide +kernel
theorem dX5_fingerprint_18 : decode cX5_fingerprint 18 = .ok (.iload_n 3, 1) := by decide +kernel
theorem dX5_fingerprint_19 : decode cX5_fingerprint 19 = .ok (.invokevirtual 174, 3) := by decide +kernel
theorem dX5_fingerprint_22 : decode cX5_fingerprint 22 = .ok (.i2l, 1) := by decide +kernel
theorem dX5_fingerprint_23 : decode cX5_fingerprint 23 = .ok (.ladd, 1) := by decide +kernel
theorem dX5_fingerprint_24 : decode cX5_fingerprint 24 = .ok (.lstore_n 1, 1) := by decide +kernel
theorem dX5_fingerprint_25 : decode cX5_fingerprint 25 = .ok (.iinc 3 1, 3) := by decide +kernel
theorem dX5_fingerprint_28 : decode cX5_fingerprint 28 = .ok (.goto (-22), 3) := by decide +kernel
theorem dX5_fingerprint_31 : decode cX5_fingerprint 31 = .ok (.iconst 0, 1) := by decide +kernel
theorem dX5_fingerprint_32 : decode cX5_fingerprint 32 = .ok (.istore_n 3, 1) := by decide +kernel
theorem dX5_fingerprint_33 : decode cX5_fingerprint 33 = .ok (.iload_n 3, 1) := by decide +kernel
theorem dX5_fingerprint_34 : decode cX5_fingerprint 34 = .ok (.aload_n 0, 1) := by decide +kernel
theorem dX5_fingerprint_35 : decode cX5_fingerprint 35 = .ok (.getfield 20, 3) := by decide +kernel
theorem dX5_fingerprint_38 : decode cX5_fingerprint 38 = .ok (.getfield 66, 3) := by decide +kernel
theorem dX5_fingerprint_41 : decode cX5_fingerprint 41 = .ok (.if_icmp .ge 26, 3) := by decide +kernel
theorem dX5_fingerprint_44 : decode cX5_fingerprint 44 = .ok (.ldc2_w 172, 3) := by decide +kernel
theorem dX5_fingerprint_47 : decode cX5_fingerprint 47 = .ok (.lload_n 1, 1) := by decide +kernel
theorem dX5_fingerprint_48 : decode cX5_fingerprint 48 = .ok (.lmul, 1) := by decide +kernel
theorem dX5_fingerprint_49 : decode cX5_fingerprint 49 = .ok (.aload_n 0, 1) := by decide +kernel
theorem dX5_fingerprint_50 : decode cX5_fingerprint 50 = .ok (.getfield 20, 3) := by decide +kernel
theorem dX5_fingerprint_53 : decode cX5_fingerprint 53 = .ok (.getfield 177, 3) := by decide +kernel
theorem dX5_fingerprint_56 : decode cX5_fingerprint 56 = .ok (.iload_n 3, 1) := by decide +kernel
theorem dX5_fingerprint_57 : decode cX5_fingerprint 57 = .ok (.iaload, 1) := by decide +kernel
theorem dX5_fingerprint_58 : decode cX5_fingerprint 58 = .ok (.i2l, 1) := by decide +kernel
theorem dX5_fingerprint_59 : decode cX5_fingerprint 59 = .ok (.ladd, 1) := by decide +kernel
theorem dX5_fingerprint_60 : decode cX5_fingerprint 60 = .ok (.lstore_n 1, 1) := by decide +kernel
theorem dX5_fingerprint_61 : decode cX5_fingerprint 61 = .ok (.iinc 3 1, 3) := by decide +kernel
theorem dX5_fingerprint_64 : decode cX5_fingerprint 64 = .ok (.goto (-31), 3) := by decide +kernel
theorem dX5_fingerprint_67 : decode cX5_fingerprint 67 = .ok (.aload_n 0, 1) := by decide +kernel
theorem dX5_fingerprint_68 : decode cX5_fingerprint 68 = .ok (.invokevirtual 102, 3) := by decide +kernel
theorem dX5_fingerprint_71 : decode cX5_fingerprint 71 = .ok (.astore_n 3, 1) := by decide +kernel
theorem dX5_fingerprint_72 : decode cX5_fingerprint 72 = .ok (.aload_n 0, 1) := by decide +kernel
theorem dX5_fingerprint_73 : decode cX5_fingerprint 73 = .ok (.lload_n 1, 1) := by decide +kernel
theorem dX5_fingerprint_74 : decode cX5_fingerprint 74 = .ok (.aload_n 3, 1) := by decide +kernel
theorem dX5_fingerprint_75 : decode cX5_fingerprint 75 = .ok (.invokevirtual 178, 3) := by decide +kernel
theorem dX5_fingerprint_78 : decode cX5_fingerprint 78 = .ok (.lstore_n 1, 1) := by decide +kernel
theorem dX5_fingerprint_79 : decode cX5_fingerprint 79 = .ok (.aload_n 0, 1) := by decide +kernel
theorem dX5_fingerprint_80 : decode cX5_fingerprint 80 = .ok (.lload_n 1, 1) := by decide +kernel
theorem dX5_fingerprint_81 : decode cX5_fingerprint 81 = .ok (.aload_n 3, 1) := by decide +kernel
theorem dX5_fingerprint_82 : decode cX5_fingerprint 82 = .ok (.invokevirtual 182, 3) := by decide +kernel
theorem dX5_fingerprint_85 : decode cX5_fingerprint 85 = .ok (.lstore_n 1, 1) := by decide +kernel
theorem dX5_fingerprint_86 : decode cX5_fingerprint 86 = .ok (.aload_n 0, 1) := by decide +kernel
theorem dX5_fingerprint_87 : decode cX5_fingerprint 87 = .ok (.lload_n 1, 1) := by decide +kernel
theorem dX5_fingerprint_88 : decode cX5_fingerprint 88 = .ok (.aload_n 0, 1) := by decide +kernel
theorem dX5_fingerprint_89 : decode cX5_fingerprint 89 = .ok (.invokevirtual 143, 3) := by decide +kernel
theorem dX5_fingerprint_92 : decode cX5_fingerprint 92 = .ok (.invokevirtual 185, 3) := by decide +kernel
theorem dX5_fingerprint_95 : decode cX5_fingerprint 95 = .ok (.lreturn, 1) := by decide +kernel
abbrev rm_X5_fingerprint : Room := { frames := 6, cells := 0, slots := 0, locals := 146 }
theorem w_X5_fingerprint_b33 {C : zC} (hx : z_ok C cX5_fingerprint RX5 0) (hn : z_nL C = 4) (hR : z_R C = rm_X5_fingerprint) {rr : Int × zS} (hq : z_fin C (some .long) (z_QL (z_g C) rr.1 rr.2)) {K33 : zS → Int → Int → Option (Int × zS)} (hK33 : ∀ (σ : zS) (y1 : Int) (x3 : Int) , K33 σ y1 x3 = some rr → z_W C σ 33 [(0, .ref (z_ad (z_g C) 62)), (1, .long (zl y1)), (3, .int (zi x3))] []) (σ : zS) (y1 : Int) (x3 : Int) (h : f_X5_fingerprint_b33 K33 σ y1 x3 = some rr) : z_W C σ 33 [(0, .ref (z_ad (z_g C) 62)), (1, .long (zl y1)), (3, .int (zi x3))] [] := by
  unfold f_X5_fingerprint_b33 at h
  refine z_iload_n hx 2 dX5_fingerprint_33 rfl ?_
  refine z_aload_n hx 0 dX5_fingerprint_34 rfl ?_
  refine gf_X5_recording hx wf_X5_20 dX5_fingerprint_35 ?_
  refine gf_X2_frames hx wf_X5_66 (show 0 < 6 by decide) dX5_fingerprint_38 ?_
  refine z_icmp_ge hx (tgt := 67) dX5_fingerprint_41 (by decide) h (fun h => h) (fun hc h => ?_) (fun hc h => ?_)
  · refine z_aload_n hx 0 dX5_fingerprint_67 rfl ?_
    obtain ⟨⟨⟩, σ1, h68, h⟩ := z_bind_some h
    refine z_callr hx (As := []) (k := 62) (met_X5_currentCuts (z_l C) (z_g C) (z_ok_sd hx) h68) (z_lt0 (z_ok_sd hx) (by decide)) (z_kb62 (z_ok_sd hx) _) rfl rfl cv_X5_102 (z_room hR ⟨Nat.le_of_ble_eq_true rfl, Nat.le_of_ble_eq_true rfl⟩) ⟨rfl, rfl⟩ rfl rfl (Nat.le_of_ble_eq_true rfl) dX5_fingerprint_68 ?_
    refine z_astore_n hx hn (lv' := [(3, .ref (z_ad (z_g C) 48)), (0, .ref (z_ad (z_g C) 62)), (1, .long (zl y1))]) dX5_fingerprint_71 (by decide) rfl ?_
    refine z_aload_n hx 1 dX5_fingerprint_72 rfl ?_
    refine z_lload_n hx 2 dX5_fingerprint_73 rfl ?_
    refine z_aload_n hx 0 dX5_fingerprint_74 rfl ?_
    obtain ⟨r3, σ2, h75, h⟩ := z_bind_some h
    refine z_calll hx (As := [.long (zl y1), .ref (z_ad (z_g C) 48)]) (k := 62) (met_X5_withMarks (z_l C) (z_g C) (z_ok_sd hx) h75) (z_lt0 (z_ok_sd hx) (by decide)) (z_kb62 (z_ok_sd hx) _) rfl rfl cv_X5_178 (z_room hR ⟨Nat.le_of_ble_eq_true rfl, Nat.le_of_ble_eq_true rfl⟩) ⟨rfl, rfl⟩ rfl rfl (Nat.le_of_ble_eq_true rfl) dX5_fingerprint_75 ?_
    refine z_lstore_n hx hn (lv' := [(1, .long (zl r3)), (3, .ref (z_ad (z_g C) 48)), (0, .ref (z_ad (z_g C) 62))]) dX5_fingerprint_78 (by decide) rfl ?_
    refine z_aload_n hx 2 dX5_fingerprint_79 rfl ?_
    refine z_lload_n hx 0 dX5_fingerprint_80 rfl ?_
    refine z_aload_n hx 1 dX5_fingerprint_81 rfl ?_
    obtain ⟨r5, σ4, h82, h⟩ := z_bind_some h
    refine z_calll hx (As := [.long (zl r3), .ref (z_ad (z_g C) 48)]) (k := 62) (met_X5_withCuts (z_l C) (z_g C) (z_ok_sd hx) h82) (z_lt0 (z_ok_sd hx) (by decide)) (z_kb62 (z_ok_sd hx) _) rfl rfl cv_X5_182 (z_room hR ⟨Nat.le_of_ble_eq_true rfl, Nat.le_of_ble_eq_true rfl⟩) ⟨rfl, rfl⟩ rfl rfl (Nat.le_of_ble_eq_true rfl) dX5_fingerprint_82 ?_
    refine z_lstore_n hx hn (lv' := [(1, .long (zl r5)), (3, .ref (z_ad (z_g C) 48)), (0, .ref (z_ad (z_g C) 62))]) dX5_fingerprint_85 (by decide) rfl ?_
    refine z_aload_n hx 2 dX5_fingerprint_86 rfl ?_
    refine z_lload_n hx 0 dX5_fingerprint_87 rfl ?_
    refine z_aload_n hx 2 dX5_fingerprint_88 rfl ?_
    obtain ⟨⟨⟩, σ6, h89, h⟩ := z_bind_some h
    refine z_callr hx (As := []) (k := 62) (met_X5_currentResult (z_l C) (z_g C) (z_ok_sd hx) h89) (z_lt0 (z_ok_sd hx) (by decide)) (z_kb62 (z_ok_sd hx) _) rfl rfl cv_X5_143 (z_room hR ⟨Nat.le_of_ble_eq_true rfl, Nat.le_of_ble_eq_true rfl⟩) ⟨rfl, rfl⟩ rfl rfl (Nat.le_of_ble_eq_true rfl) dX5_fingerprint_89 ?_
    obtain ⟨r8, σ7, h92, h⟩ := z_bind_some h
    refine z_calll hx (As := [.long (zl r5), .ref (z_ad (z_g C) 54)]) (k := 62) (met_X5_withResult (z_l C) (z_g C) (z_ok_sd hx) h92) (z_lt0 (z_ok_sd hx) (by decide)) (z_kb62 (z_ok_sd hx) _) rfl rfl cv_X5_185 (z_room hR ⟨Nat.le_of_ble_eq_true rfl, Nat.le_of_ble_eq_true rfl⟩) ⟨rfl, rfl⟩ rfl rfl (Nat.le_of_ble_eq_true rfl) dX5_fingerprint_92 ?_
    cases h
    exact z_lret hx hq dX5_fingerprint_95
  · refine z_ldc2 hx (n := 31) wk_X5_172 dX5_fingerprint_44 ?_
    refine z_lload_n hx 1 dX5_fingerprint_47 rfl ?_
    refine z_lmul hx dX5_fingerprint_48 ?_
    refine z_aload_n hx 0 dX5_fingerprint_49 rfl ?_
    refine gf_X5_recording hx wf_X5_20 dX5_fingerprint_50 ?_
    refine gf_X2_levels hx wf_X5_177 (show 0 < 6 by decide) dX5_fingerprint_53 ?_
    refine z_iload_n hx 2 dX5_fingerprint_56 rfl ?_
    refine z_iald hx (n := 200) (z_lt0 (z_ok_sd hx) (by decide)) (z_ka1 (z_ok_sd hx) (show 0 < 6 by decide) _) rfl (by decide) dX5_fingerprint_57 h (fun h => ?_)
    refine z_i2l hx dX5_fingerprint_58 h (fun h => ?_)
    refine z_ladd hx dX5_fingerprint_59 ?_
    refine z_lstore_n hx hn (lv' := [(1, .long (zl ((31 * y1) + (σ 1 x3)))), (0, .ref (z_ad (z_g C) 62)), (3, .int (zi x3))]) dX5_fingerprint_60 (by decide) rfl ?_
    refine z_iinc hx hn 2 (lv' := [(3, .int (zi (x3 + 1))), (1, .long (zl ((31 * y1) + (σ 1 x3)))), (0, .ref (z_ad (z_g C) 62))]) dX5_fingerprint_61 rfl (by decide) rfl ?_
    refine z_goto hx (tgt := 33) dX5_fingerprint_64 (by decide) ?_
    refine z_sub [2, 1, 0] rfl ?_
    exact hK33 σ ((31 * y1) + (σ 1 x3)) (x3 + 1) h

theorem w_X5_fingerprint_l33 {C : zC} (hx : z_ok C cX5_fingerprint RX5 0) (hn : z_nL C = 4) (hR : z_R C = rm_X5_fingerprint) {rr : Int × zS} (hq : z_fin C (some .long) (z_QL (z_g C) rr.1 rr.2)) : ∀ (n : Nat) (σ : zS) (y1 : Int) (x3 : Int) (_ : f_X5_fingerprint_l33 n σ y1 x3 = some rr), z_W C σ 33 [(0, .ref (z_ad (z_g C) 62)), (1, .long (zl y1)), (3, .int (zi x3))] [] := by
  intro n
  induction n with
  | zero => intro σ y1 x3 h; cases h
  | succ n ih =>
    intro σ y1 x3 h
    exact w_X5_fingerprint_b33 hx hn hR hq ih σ y1 x3 h
theorem w_X5_fingerprint_b6 {C : zC} (hx : z_ok C cX5_fingerprint RX5 0) (hn : z_nL C = 4) (hR : z_R C = rm_X5_fingerprint) {rr : Int × zS} (hq : z_fin C (some .long) (z_QL (z_g C) rr.1 rr.2)) {K6 : zS → Int → Int → Option (Int × zS)} (hK6 : ∀ (σ : zS) (y1 : Int) (x3 : Int) , K6 σ y1 x3 = some rr → z_W C σ 6 [(0, .ref (z_ad (z_g C) 62)), (1, .long (zl y1)), (3, .int (zi x3))] []) (σ : zS) (y1 : Int) (x3 : Int) (h : f_X5_fingerprint_b6 K6 σ y1 x3 = some rr) : z_W C σ 6 [(0, .ref (z_ad (z_g C) 62)), (1, .long (zl y1)), (3, .int (zi x3))] [] := by
  unfold f_X5_fingerprint_b6 at h
  refine z_iload_n hx 2 dX5_fingerprint_6 rfl ?_
  refine z_bipush hx (n := 8) dX5_fingerprint_7 rfl ?_
  refine z_icmp_gt hx (tgt := 31) dX5_fingerprint_9 (by decide) h (fun h => ⟨h, by decide⟩) (fun hc h => ?_) (fun hc h => ?_)
  · refine z_iconst hx (n := 0) dX5_fingerprint_31 ?_
    refine z_istore_n hx hn (lv' := [(3, .int (zi 0)), (0, .ref (z_ad (z_g C) 62)), (1, .long (zl y1))]) dX5_fingerprint_32 (by decide) rfl ?_
    refine z_sub [1, 2, 0] rfl ?_
    exact w_X5_fingerprint_l33 hx hn hR hq z_fuel σ y1 0 h
  · refine z_ldc2 hx (n := 31) wk_X5_172 dX5_fingerprint_12 ?_
    refine z_lload_n hx 1 dX5_fingerprint_15 rfl ?_
    refine z_lmul hx dX5_fingerprint_16 ?_
    refine z_aload_n hx 0 dX5_fingerprint_17 rfl ?_
    refine z_iload_n hx 2 dX5_fingerprint_18 rfl ?_
    obtain ⟨r2, σ1, h19, h⟩ := z_bind_some h
    refine z_calli hx (As := [.int (zi x3)]) (k := 62) (met_X5_setting (z_l C) (z_g C) (z_ok_sd hx) h19) (z_lt0 (z_ok_sd hx) (by decide)) (z_kb62 (z_ok_sd hx) _) rfl rfl cv_X5_174 (z_room hR ⟨Nat.le_of_ble_eq_true rfl, Nat.le_of_ble_eq_true rfl⟩) ⟨rfl, rfl⟩ rfl rfl (Nat.le_of_ble_eq_true rfl) dX5_fingerprint_19 ?_
    refine z_i2l hx dX5_fingerprint_22 h (fun h => ?_)
    refine z_ladd hx dX5_fingerprint_23 ?_
    refine z_lstore_n hx hn (lv' := [(1, .long (zl ((31 * y1) + r2))), (0, .ref (z_ad (z_g C) 62)), (3, .int (zi x3))]) dX5_fingerprint_24 (by decide) rfl ?_
    refine z_iinc hx hn 2 (lv' := [(3, .int (zi (x3 + 1))), (1, .long (zl ((31 * y1) + r2))), (0, .ref (z_ad (z_g C) 62))]) dX5_fingerprint_25 rfl (by decide) rfl ?_
    refine z_goto hx (tgt := 6) dX5_fingerprint_28 (by decide) ?_
    refine z_sub [2, 1, 0] rfl ?_
    exact hK6 σ1 ((31 * y1) + r2) (x3 + 1) h

theorem w_X5_fingerprint_l6 {C : zC} (hx : z_ok C cX5_fingerprint RX5 0) (hn : z_nL C = 4) (hR : z_R C = rm_X5_fingerprint) {rr : Int × zS} (hq : z_fin C (some .long) (z_QL (z_g C) rr.1 rr.2)) : ∀ (n : Nat) (σ : zS) (y1 : Int) (x3 : Int) (_ : f_X5_fingerprint_l6 n σ y1 x3 = some rr), z_W C σ 6 [(0, .ref (z_ad (z_g C) 62)), (1, .long (zl y1)), (3, .int (zi x3))] [] := by
  intro n
  induction n with
  | zero => intro σ y1 x3 h; cases h
  | succ n ih =>
    intro σ y1 x3 h
    exact w_X5_fingerprint_b6 hx hn hR hq ih σ y1 x3 h
theorem w_X5_fingerprint {C : zC} (hx : z_ok C cX5_fingerprint RX5 0) (hn : z_nL C = 4) (hR : z_R C = rm_X5_fingerprint) {rr : Int × zS} (hq : z_fin C (some .long) (z_QL (z_g C) rr.1 rr.2)) (σ : zS) (h : f_X5_fingerprint σ = some rr) : z_W C σ 0 [(0, .ref (z_ad (z_g C) 62))] [] := by
  unfold f_X5_fingerprint at h
  refine z_ldc2 hx (n := 151) wk_X5_170 dX5_fingerprint_0 ?_
  refine z_lstore_n hx hn (lv' := [(1, .long (zl 151)), (0, .ref (z_ad (z_g C) 62))]) dX5_fingerprint_3 (by decide) rfl ?_
  refine z_iconst hx (n := 0) dX5_fingerprint_4 ?_
  refine z_istore_n hx hn (lv' := [(3, .int (zi 0)), (1, .long (zl 151)), (0, .ref (z_ad (z_g C) 62))]) dX5_fingerprint_5 (by decide) rfl ?_
  refine z_sub [2, 1, 0] rfl ?_
  exact w_X5_fingerprint_l6 hx hn hR hq z_fuel σ 151 0 h

theorem met_X5_fingerprint (l : Launch) (g : zG) (hg : g.1 = 0) {σ : zS} {rr : Int × zS} (h : f_X5_fingerprint σ = some rr) : z_Met l yX5_fingerprint cX5_fingerprint 4 (some .long) rm_X5_fingerprint g [.ref (z_ad (g) 62)] σ (z_QL g rr.1 rr.2) := by
  refine z_enter (own := RX5) (sd := 0) (lv0 := [(0, .ref (z_ad (g) 62))]) (by decide) rfl (Nat.le_of_ble_eq_true rfl) hg rfl (fun C hx hl hgC hR hn hq => ?_)
  subst hgC
  refine z_sub [0] rfl ?_
  exact w_X5_fingerprint hx hn hR hq σ h
end
section
/-! THE METHODS THAT ANSWER FLOATS, AND set, by program -/
/-- the greatest values of the settings -/
def z_most (i : Int) : Int := if i = 0 then 100 else if i = 1 then 9 else if i = 2 then 20 else if i = 3 then 50 else if i = 4 then 100 else 50
def f_X5_set_b25 (σ : zS) : Option (Int × zS) :=
  some ((-1), σ)
def f_X5_set_b10 (σ : zS) : Option (Int × zS) :=
  some ((-1), σ)
def f_X5_set (σ : zS) (x1 : Int) (x2 : Int) : Option (Int × zS) :=
  if zr x1 then
    if x1 < 0 then
      f_X5_set_b10 σ
    else
      if zr x1 then
        if x1 < 7 then
          if zr x2 then
            if x2 < 0 then
              f_X5_set_b25 σ
            else
              if 0 ≤ x1 ∧ x1 < 7 then
                if zr x2 ∧ zr (z_most x1) then
                  if x2 ≤ (z_most x1) then
                    z_bind (f_X1_keep 0 σ) fun _ σ1 =>
                    if 0 ≤ x1 ∧ x1 < 7 then
                      if 0 ≤ x1 ∧ x1 < 7 then z_put σ1 7 x1 x2 fun σ2 =>
                        some (σ1 7 x1, σ2)
                      else none
                    else none
                  else
                    f_X5_set_b25 σ
                else none
              else none
          else none
        else
          f_X5_set_b10 σ
      else none
  else none
def f_X5_loudness (σ : zS) : Option ((Int × Int) × zS) :=
  z_bind (f_X5_currentResult σ) fun _ σ1 =>
  if zr (σ1 54 2) then
    if ¬ (σ1 54 2) = 0 then
      z_bind (f_X3_sumOfLevels σ1) fun r3 σ2 =>
      if (σ2 54 2) ≠ 0 then some ((r3, σ2 54 2), σ2) else none
    else
      some ((0, 0), σ1)
  else none
def f_X5_share (σ : zS) : Option ((Int × Int) × zS) :=
  if zr (σ 0 1) then
    if ¬ (σ 0 1) = 0 then
      z_bind (f_X5_currentCuts σ) fun _ σ1 =>
      z_bind (f_X0_cutFrames σ1) fun r3 σ2 =>
      if (σ2 0 1) ≠ 0 then some (((σ 0 1) - r3, σ2 0 1), σ2) else none
    else
      some ((0, 0), σ)
  else none
end
section
/-! ROWS OF A STATIC ROW OF NUMBERS, AND OF FLOATS -/
/-- the row of numbers behind a static field: outside of all that is written -/
def z_Sr (n : String) (f : Int → Int) (gs : Nat) (A : Nat → Prop) (U : State) : Prop := va_Z "SpeechCleaner" n "[I" (.ref gs) A U U.heap ∧ va_X gs 7 (fun j => zi (f (j : Int))) U U.heap ∧ gs < U.heap.size ∧ ¬ A gs
def z_St (C : zC) (gs : Nat) : Prop := match C with
  | (_, _, _, _, s, _, _, _, _, _, _, _, _, A, _, _, _) => z_Sr "GREATEST_SETTINGS" z_most gs A s
theorem z_gets {C : zC} {cc : ByteArray} {own : String} {sd : Nat} {σ : zS} {pc : Nat} {lv : List (Nat × Value)} {st : List Value} (hx : z_ok C cc own sd) {gs index : Nat} (hSt : z_St C gs) (hw : Cond.fieldLink own index RX5 "GREATEST_SETTINGS" "[I" ∈ z_ws) (hd : decode cc pc = .ok (.getstatic index, 3)) (kk : z_W C σ (pc + 3) lv (.ref gs :: st)) : z_W C σ pc lv st := by
  obtain ⟨p, l, e, R, s, m, args, below, meth, c, Q, cells, slots, A, H0, nL, g⟩ := C
  intro H locs ls hP hS hl
  obtain ⟨h1, h2, h3, h4, h5, h6, h7, h8, h9, h10, h11, rfl⟩ := hx
  exact va_gets h1 h2 hSt.1 hS h4 (h5 _ hw) (fun x h => h) hd (kk H locs ls hP hS hl)
theorem z_sald {C : zC} {cc : ByteArray} {own : String} {sd : Nat} {σ : zS} {pc : Nat} {lv : List (Nat × Value)} {st : List Value} {α : Type} {r : α} (hx : z_ok C cc own sd) {gs : Nat} (hSt : z_St C gs) {i : Int} {A : Option α} (hd : decode cc pc = .ok (.iaload, 1)) (h : (if 0 ≤ i ∧ i < 7 then A else none) = some r) (kk : A = some r → z_W C σ (pc + 1) lv (.int (zi (z_most i)) :: st)) : z_W C σ pc lv (.int (zi i) :: .ref gs :: st) := by
  obtain ⟨⟨i0, i1⟩, h⟩ := z_gd h
  have kk := kk h
  obtain ⟨p, l, e, R, s, m, args, below, meth, c, Q, cells, slots, A, H0, nL, g⟩ := C
  intro H locs ls hP hS hl
  obtain ⟨h1, h2, h3, h4, h5, h6, h7, h8, h9, h10, h11, rfl⟩ := hx
  refine va_sld h1 h2 hSt.2.1 hSt.2.2.1 hSt.2.2.2 hS (zi_in i0 (by omega) (by omega)) hd ?_
  have hee : zi (z_most (((zi i).toNatClampNeg : Nat) : Int)) = zi (z_most i) := by rw [zi_clamp i0 (by omega), Int.toNat_of_nonneg i0]
  show W p l e R s m args below meth c H locs cells slots Q (F0 m (pc + 1) ls (.int (zi (z_most (((zi i).toNatClampNeg : Nat) : Int))) :: st))
  rw [hee]
  exact kk H locs ls hP hS hl
def z_f (a : Int) : UInt32 := FP.i2f (zi a)
theorem z_i2f {C : zC} {cc : ByteArray} {own : String} {sd : Nat} {σ : zS} {pc : Nat} {lv : List (Nat × Value)} {st : List Value} (hx : z_ok C cc own sd) {a : Int} (hd : decode cc pc = .ok (.i2f, 1)) (kk : z_W C σ (pc + 1) lv (.float (z_f a) :: st)) : z_W C σ pc lv (.int (zi a) :: st) := by
  obtain ⟨p, l, e, R, s, m, args, below, meth, c, Q, cells, slots, A, H0, nL, g⟩ := C
  intro H locs ls hP hS hl
  exact lv_i2f hx.1 hx.2.1 hd (kk H locs ls hP hS hl)
-- what two floats' comparison comes to, when both are alike to one number
theorem z_nan64 (a : UInt64) : isNaN64 a = true ↔ FP.dIsNaN a = true := by
  rw [isNaN64_iff, FP.Core.isNaN_bits, show (0x7fffffffffffffff : Nat) = 2 ^ 63 - 1 by decide, Nat.and_two_pow_sub_one_eq_mod]
theorem z_nan32 (a : UInt32) : isNaN32 a = true ↔ FP.fIsNaN a = true := by
  rw [isNaN32_iff, FP.Core.isNaN_bits32, show (0x7fffffff : Nat) = 2 ^ 31 - 1 by decide, Nat.and_two_pow_sub_one_eq_mod]
theorem z_falike {r1 r2 X : UInt32} {d1 d2 : UInt64} (h1 : alike32 r1 X = true) (h2 : alike32 r2 X = true) (k1 : alike64 d1 (FP.f2d r1) = true) (k2 : alike64 d2 (FP.f2d r2) = true) : (Op.cmpValue (FP.dcmp d1 d2) .l = 0) ∨ (Op.cmpValue (FP.dcmp d1 d1) .l ≠ 0 ∧ Op.cmpValue (FP.dcmp d2 d2) .l ≠ 0) := by
  have hn : ∀ d : UInt64, FP.dIsNaN d = true → Op.cmpValue (FP.dcmp d d) .l ≠ 0 := fun d h => by
    rw [FP.dcmp_core, (FP.Core.dcmp_none d d).mpr (Or.inl ((FP.Core.dIsNaN_iff d).mp h))]
    decide
  have hs : ∀ d : UInt64, FP.dIsNaN d ≠ true → Op.cmpValue (FP.dcmp d d) .l = 0 := fun d h => by
    rw [FP.dcmp_core, FP.Core.dcmp_self (fun e => h ((FP.Core.dIsNaN_iff d).mpr e))]
    rfl
  have hc : ∀ {d : UInt64} {r : UInt32}, alike64 d (FP.f2d r) = true → FP.fIsNaN r = true → FP.dIsNaN d = true := fun {d r} h hr => by
    have hf : FP.dIsNaN (FP.f2d r) = true := by rw [FP.f2d_nan]; exact hr
    simp only [alike64, Bool.or_eq_true, decide_eq_true_eq, Bool.and_eq_true] at h
    rcases h with h | h
    · rw [h]; exact hf
    · exact (z_nan64 d).mp h.1
  simp only [alike32, Bool.or_eq_true, decide_eq_true_eq, Bool.and_eq_true] at h1 h2
  by_cases e : FP.fIsNaN X = true
  · have g1 : FP.fIsNaN r1 = true := by
      rcases h1 with h | h
      · rw [h]; exact e
      · exact (z_nan32 r1).mp h.1
    have g2 : FP.fIsNaN r2 = true := by
      rcases h2 with h | h
      · rw [h]; exact e
      · exact (z_nan32 r2).mp h.1
    exact Or.inr ⟨hn _ (hc k1 g1), hn _ (hc k2 g2)⟩
  · have g1 : r1 = X := by
      rcases h1 with h | h
      · exact h
      · exact absurd ((z_nan32 X).mp h.2) e
    have g2 : r2 = X := by
      rcases h2 with h | h
      · exact h
      · exact absurd ((z_nan32 X).mp h.2) e
    subst g1
    subst g2
    have hf : FP.dIsNaN (FP.f2d r2) ≠ true := by rw [FP.f2d_nan]; exact e
    have q : ∀ d : UInt64, alike64 d (FP.f2d r2) = true → d = FP.f2d r2 := fun d h => by
      simp only [alike64, Bool.or_eq_true, decide_eq_true_eq, Bool.and_eq_true] at h
      rcases h with h | h
      · exact h
      · exact absurd ((z_nan64 _).mp h.2) hf
    rw [q d1 k1, q d2 k2]
    exact Or.inl (hs _ hf)
end
section
/-! walks, by program: set, loudness, share -/
theorem wf_X5_96 : Cond.fieldLink RX5 96 RX5 "GREATEST_SETTINGS" "[I" ∈ z_ws := z_ws_t 265 (by decide +kernel) (by decide +kernel)
theorem wm_X5_160 : Cond.methodLink RX5 160 yX3_sumOfLevels ∈ z_ws := z_ws_t 402 (by decide +kernel) (by decide +kernel)
theorem wc_X3_sumOfLevels : Cond.code yX3_sumOfLevels cX3_sumOfLevels 3 (some .int) ∈ z_ws := z_ws_t 405 (by decide +kernel) (by decide +kernel)
theorem win_X3_sumOfLevels : Cond.instanceMethod yX3_sumOfLevels ∈ z_ws := z_ws_t 403 (by decide +kernel) (by decide +kernel)
theorem wse_X3_sumOfLevels : Cond.selects RX3 yX3_sumOfLevels yX3_sumOfLevels ∈ z_ws := z_ws_t 404 (by decide +kernel) (by decide +kernel)
theorem cv_X5_160 : z_cv RX5 160 yX3_sumOfLevels cX3_sumOfLevels 3 (some .int) 0 := z_cv_of wm_X5_160 win_X3_sumOfLevels wse_X3_sumOfLevels wi_X3 wc_X3_sumOfLevels (by decide +kernel)
theorem dX5_set_0 : decode cX5_set 0 = .ok (.iload_n 1, 1) := by decide +kernel
theorem dX5_set_1 : decode cX5_set 1 = .ok (.ifCond .lt 9, 3) := by decide +kernel
theorem dX5_set_4 : decode cX5_set 4 = .ok (.iload_n 1, 1) := by decide +kernel
theorem dX5_set_5 : decode cX5_set 5 = .ok (.bipush 7, 2) := by decide +kernel
theorem dX5_set_7 : decode cX5_set 7 = .ok (.if_icmp .lt 5, 3) := by decide +kernel
theorem dX5_set_10 : decode cX5_set 10 = .ok (.iconst (-1), 1) := by decide +kernel
theorem dX5_set_11 : decode cX5_set 11 = .ok (.ireturn, 1) := by decide +kernel
theorem dX5_set_12 : decode cX5_set 12 = .ok (.iload_n 2, 1) := by decide +kernel
theorem dX5_set_13 : decode cX5_set 13 = .ok (.ifCond .lt 12, 3) := by decide +kernel
theorem dX5_set_16 : decode cX5_set 16 = .ok (.iload_n 2, 1) := by decide +kernel
theorem dX5_set_17 : decode cX5_set 17 = .ok (.getstatic 96, 3) := by decide +kernel
theorem dX5_set_20 : decode cX5_set 20 = .ok (.iload_n 1, 1) := by decide +kernel
theorem dX5_set_21 : decode cX5_set 21 = .ok (.iaload, 1) := by decide +kernel
theorem dX5_set_22 : decode cX5_set 22 = .ok (.if_icmp .le 5, 3) := by decide +kernel
theorem dX5_set_25 : decode cX5_set 25 = .ok (.iconst (-1), 1) := by decide +kernel
theorem dX5_set_26 : decode cX5_set 26 = .ok (.ireturn, 1) := by decide +kernel
theorem dX5_set_27 : decode cX5_set 27 = .ok (.aload_n 0, 1) := by decide +kernel
theorem dX5_set_28 : decode cX5_set 28 = .ok (.getfield 27, 3) := by decide +kernel
theorem dX5_set_31 : decode cX5_set 31 = .ok (.aload_n 0, 1) := by decide +kernel
theorem dX5_set_32 : decode cX5_set 32 = .ok (.getfield 20, 3) := by decide +kernel
theorem dX5_set_35 : decode cX5_set 35 = .ok (.invokevirtual 56, 3) := by decide +kernel
theorem dX5_set_38 : decode cX5_set 38 = .ok (.aload_n 0, 1) := by decide +kernel
theorem dX5_set_39 : decode cX5_set 39 = .ok (.getfield 20, 3) := by decide +kernel
theorem dX5_set_42 : decode cX5_set 42 = .ok (.getfield 99, 3) := by decide +kernel
theorem dX5_set_45 : decode cX5_set 45 = .ok (.iload_n 1, 1) := by decide +kernel
theorem dX5_set_46 : decode cX5_set 46 = .ok (.iaload, 1) := by decide +kernel
theorem dX5_set_47 : decode cX5_set 47 = .ok (.istore_n 3, 1) := by decide +kernel
theorem dX5_set_48 : decode cX5_set 48 = .ok (.aload_n 0, 1) := by decide +kernel
theorem dX5_set_49 : decode cX5_set 49 = .ok (.getfield 20, 3) := by decide +kernel
theorem dX5_set_52 : decode cX5_set 52 = .ok (.getfield 99, 3) := by decide +kernel
theorem dX5_set_55 : decode cX5_set 55 = .ok (.iload_n 1, 1) := by decide +kernel
theorem dX5_set_56 : decode cX5_set 56 = .ok (.iload_n 2, 1) := by decide +kernel
theorem dX5_set_57 : decode cX5_set 57 = .ok (.iastore, 1) := by decide +kernel
theorem dX5_set_58 : decode cX5_set 58 = .ok (.iload_n 3, 1) := by decide +kernel
theorem dX5_set_59 : decode cX5_set 59 = .ok (.ireturn, 1) := by decide +kernel
abbrev rm_X5_set : Room := { frames := 4, cells := 0, slots := 0, locals := 124 }
theorem w_X5_set_b25 {C : zC} (hx : z_ok C cX5_set RX5 0) (hn : z_nL C = 4) (hR : z_R C = rm_X5_set) {rr : Int × zS} {gs : Nat} (hSt : z_St C gs) (hq : z_fin C (some .int) (z_QI (z_g C) rr.1 rr.2)) (σ : zS) (h : f_X5_set_b25 σ = some rr) : z_W C σ 25 [] [] := by
  unfold f_X5_set_b25 at h
  refine z_iconst hx (n := (-1)) dX5_set_25 ?_
  cases h
  exact z_iret hx hq dX5_set_26

theorem w_X5_set_b10 {C : zC} (hx : z_ok C cX5_set RX5 0) (hn : z_nL C = 4) (hR : z_R C = rm_X5_set) {rr : Int × zS} {gs : Nat} (hSt : z_St C gs) (hq : z_fin C (some .int) (z_QI (z_g C) rr.1 rr.2)) (σ : zS) (h : f_X5_set_b10 σ = some rr) : z_W C σ 10 [] [] := by
  unfold f_X5_set_b10 at h
  refine z_iconst hx (n := (-1)) dX5_set_10 ?_
  cases h
  exact z_iret hx hq dX5_set_11

theorem w_X5_set {C : zC} (hx : z_ok C cX5_set RX5 0) (hn : z_nL C = 4) (hR : z_R C = rm_X5_set) {rr : Int × zS} {gs : Nat} (hSt : z_St C gs) (hq : z_fin C (some .int) (z_QI (z_g C) rr.1 rr.2)) (σ : zS) (x1 : Int) (x2 : Int) (h : f_X5_set σ x1 x2 = some rr) : z_W C σ 0 [(0, .ref (z_ad (z_g C) 62)), (1, .int (zi x1)), (2, .int (zi x2))] [] := by
  unfold f_X5_set at h
  refine z_iload_n hx 1 dX5_set_0 rfl ?_
  refine z_if_lt hx (tgt := 10) dX5_set_1 (by decide) h (fun h => h) (fun hc h => ?_) (fun hc h => ?_)
  · refine z_sub [] rfl ?_
    exact w_X5_set_b10 hx hn hR hSt hq σ h
  · refine z_iload_n hx 1 dX5_set_4 rfl ?_
    refine z_bipush hx (n := 7) dX5_set_5 rfl ?_
    refine z_icmp_lt hx (tgt := 12) dX5_set_7 (by decide) h (fun h => ⟨h, by decide⟩) (fun hc h => ?_) (fun hc h => ?_)
    · refine z_iload_n hx 2 dX5_set_12 rfl ?_
      refine z_if_lt hx (tgt := 25) dX5_set_13 (by decide) h (fun h => h) (fun hc h => ?_) (fun hc h => ?_)
      · refine z_sub [] rfl ?_
        exact w_X5_set_b25 hx hn hR hSt hq σ h
      · refine z_iload_n hx 2 dX5_set_16 rfl ?_
        refine z_gets hx hSt wf_X5_96 dX5_set_17 ?_
        refine z_iload_n hx 1 dX5_set_20 rfl ?_
        refine z_sald hx hSt dX5_set_21 h (fun h => ?_)
        refine z_icmp_le hx (tgt := 27) dX5_set_22 (by decide) h (fun h => h) (fun hc h => ?_) (fun hc h => ?_)
        · refine z_aload_n hx 0 dX5_set_27 rfl ?_
          refine gf_X5_history hx wf_X5_27 dX5_set_28 ?_
          refine z_aload_n hx 0 dX5_set_31 rfl ?_
          refine gf_X5_recording hx wf_X5_20 dX5_set_32 ?_
          obtain ⟨⟨⟩, σ1, h35, h⟩ := z_bind_some h
          refine z_callv hx (As := [.ref (z_ad (z_g C) 0)]) (k := 60) (met_X1_keep (z_l C) (z_g C) (z_ok_sd hx) (show 0 < 6 by decide) h35) (z_lt0 (z_ok_sd hx) (by decide)) (z_kb60 (z_ok_sd hx) _) rfl rfl cv_X5_56 (z_room hR ⟨Nat.le_of_ble_eq_true rfl, Nat.le_of_ble_eq_true rfl⟩) ⟨rfl, rfl⟩ rfl rfl (Nat.le_of_ble_eq_true rfl) dX5_set_35 ?_
          refine z_aload_n hx 0 dX5_set_38 rfl ?_
          refine gf_X5_recording hx wf_X5_20 dX5_set_39 ?_
          refine gf_X2_settings hx wf_X5_99 (show 0 < 6 by decide) dX5_set_42 ?_
          refine z_iload_n hx 1 dX5_set_45 rfl ?_
          refine z_iald hx (n := 7) (z_lt0 (z_ok_sd hx) (by decide)) (z_ka7 (z_ok_sd hx) (show 0 < 6 by decide) _) rfl (by decide) dX5_set_46 h (fun h => ?_)
          refine z_istore_n hx hn (lv' := [(3, .int (zi (σ1 7 x1))), (0, .ref (z_ad (z_g C) 62)), (1, .int (zi x1)), (2, .int (zi x2))]) dX5_set_47 (by decide) rfl ?_
          refine z_aload_n hx 1 dX5_set_48 rfl ?_
          refine gf_X5_recording hx wf_X5_20 dX5_set_49 ?_
          refine gf_X2_settings hx wf_X5_99 (show 0 < 6 by decide) dX5_set_52 ?_
          refine z_iload_n hx 2 dX5_set_55 rfl ?_
          refine z_iload_n hx 3 dX5_set_56 rfl ?_
          refine z_iast hx (n := 7) (z_lt0 (z_ok_sd hx) (by decide)) (z_ka7 (z_ok_sd hx) (show 0 < 6 by decide)) rfl (by decide) dX5_set_57 h (fun σ2 h => ?_)
          refine z_iload_n hx 0 dX5_set_58 rfl ?_
          cases h
          exact z_iret hx hq dX5_set_59
        · refine z_sub [] rfl ?_
          exact w_X5_set_b25 hx hn hR hSt hq σ h
    · refine z_sub [] rfl ?_
      exact w_X5_set_b10 hx hn hR hSt hq σ h

theorem dX5_loudness_0 : decode cX5_loudness 0 = .ok (.aload_n 0, 1) := by decide +kernel
theorem dX5_loudness_1 : decode cX5_loudness 1 = .ok (.invokevirtual 143, 3) := by decide +kernel
theorem dX5_loudness_4 : decode cX5_loudness 4 = .ok (.astore_n 1, 1) := by decide +kernel
theorem dX5_loudness_5 : decode cX5_loudness 5 = .ok (.aload_n 1, 1) := by decide +kernel
theorem dX5_loudness_6 : decode cX5_loudness 6 = .ok (.getfield 147, 3) := by decide +kernel
theorem dX5_loudness_9 : decode cX5_loudness 9 = .ok (.ifCond .ne 5, 3) := by decide +kernel
theorem dX5_loudness_12 : decode cX5_loudness 12 = .ok (.fconst 0, 1) := by decide +kernel
theorem dX5_loudness_13 : decode cX5_loudness 13 = .ok (.freturn, 1) := by decide +kernel
theorem dX5_loudness_14 : decode cX5_loudness 14 = .ok (.aload_n 1, 1) := by decide +kernel
theorem dX5_loudness_15 : decode cX5_loudness 15 = .ok (.invokevirtual 160, 3) := by decide +kernel
theorem dX5_loudness_18 : decode cX5_loudness 18 = .ok (.i2f, 1) := by decide +kernel
theorem dX5_loudness_19 : decode cX5_loudness 19 = .ok (.aload_n 1, 1) := by decide +kernel
theorem dX5_loudness_20 : decode cX5_loudness 20 = .ok (.getfield 147, 3) := by decide +kernel
theorem dX5_loudness_23 : decode cX5_loudness 23 = .ok (.i2f, 1) := by decide +kernel
theorem dX5_loudness_24 : decode cX5_loudness 24 = .ok (.fdiv, 1) := by decide +kernel
theorem dX5_loudness_25 : decode cX5_loudness 25 = .ok (.freturn, 1) := by decide +kernel
abbrev rm_X5_loudness : Room := { frames := 6, cells := 0, slots := 0, locals := 146 }
theorem w_X5_loudness {C : zC} (hx : z_ok C cX5_loudness RX5 0) (hn : z_nL C = 2) (hR : z_R C = rm_X5_loudness) {rr : (Int × Int) × zS} (hq : (rr.1 = (0, 0) → ∀ lv, z_W C rr.2 12 lv []) ∧ (rr.1.2 ≠ 0 → ∀ lv, z_W C rr.2 24 lv [.float (z_f rr.1.2), .float (z_f rr.1.1)])) (σ : zS) (h : f_X5_loudness σ = some rr) : z_W C σ 0 [(0, .ref (z_ad (z_g C) 62))] [] := by
  unfold f_X5_loudness at h
  refine z_aload_n hx 0 dX5_loudness_0 rfl ?_
  obtain ⟨⟨⟩, σ1, h1, h⟩ := z_bind_some h
  refine z_callr hx (As := []) (k := 62) (met_X5_currentResult (z_l C) (z_g C) (z_ok_sd hx) h1) (z_lt0 (z_ok_sd hx) (by decide)) (z_kb62 (z_ok_sd hx) _) rfl rfl cv_X5_143 (z_room hR ⟨Nat.le_of_ble_eq_true rfl, Nat.le_of_ble_eq_true rfl⟩) ⟨rfl, rfl⟩ rfl rfl (Nat.le_of_ble_eq_true rfl) dX5_loudness_1 ?_
  refine z_astore_n hx hn (lv' := [(1, .ref (z_ad (z_g C) 54)), (0, .ref (z_ad (z_g C) 62))]) dX5_loudness_4 (by decide) rfl ?_
  refine z_aload_n hx 0 dX5_loudness_5 rfl ?_
  refine gf_X3_count hx wf_X5_147 dX5_loudness_6 ?_
  refine z_if_ne hx (tgt := 14) dX5_loudness_9 (by decide) h (fun h => h) (fun hc h => ?_) (fun hc h => ?_)
  · refine z_aload_n hx 0 dX5_loudness_14 rfl ?_
    obtain ⟨r3, σ2, h15, h⟩ := z_bind_some h
    refine z_calli hx (As := []) (k := 54) (met_X3_sumOfLevels (z_l C) (z_g C) (z_ok_sd hx) h15) (z_lt0 (z_ok_sd hx) (by decide)) (z_kb54 (z_ok_sd hx) _) rfl rfl cv_X5_160 (z_room hR ⟨Nat.le_of_ble_eq_true rfl, Nat.le_of_ble_eq_true rfl⟩) ⟨rfl, rfl⟩ rfl rfl (Nat.le_of_ble_eq_true rfl) dX5_loudness_15 ?_
    refine z_i2f hx dX5_loudness_18 ?_
    refine z_aload_n hx 0 dX5_loudness_19 rfl ?_
    refine gf_X3_count hx wf_X5_147 dX5_loudness_20 ?_
    refine z_i2f hx dX5_loudness_23 ?_
    obtain ⟨hz, h⟩ := z_gd h
    cases h
    exact hq.2 hz _
  · cases h
    exact hq.1 rfl _

theorem dX5_share_0 : decode cX5_share 0 = .ok (.aload_n 0, 1) := by decide +kernel
theorem dX5_share_1 : decode cX5_share 1 = .ok (.getfield 20, 3) := by decide +kernel
theorem dX5_share_4 : decode cX5_share 4 = .ok (.getfield 66, 3) := by decide +kernel
theorem dX5_share_7 : decode cX5_share 7 = .ok (.ifCond .ne 5, 3) := by decide +kernel
theorem dX5_share_10 : decode cX5_share 10 = .ok (.fconst 0, 1) := by decide +kernel
theorem dX5_share_11 : decode cX5_share 11 = .ok (.freturn, 1) := by decide +kernel
theorem dX5_share_12 : decode cX5_share 12 = .ok (.aload_n 0, 1) := by decide +kernel
theorem dX5_share_13 : decode cX5_share 13 = .ok (.getfield 20, 3) := by decide +kernel
theorem dX5_share_16 : decode cX5_share 16 = .ok (.getfield 66, 3) := by decide +kernel
theorem dX5_share_19 : decode cX5_share 19 = .ok (.aload_n 0, 1) := by decide +kernel
theorem dX5_share_20 : decode cX5_share 20 = .ok (.invokevirtual 102, 3) := by decide +kernel
theorem dX5_share_23 : decode cX5_share 23 = .ok (.invokevirtual 126, 3) := by decide +kernel
theorem dX5_share_26 : decode cX5_share 26 = .ok (.isub, 1) := by decide +kernel
theorem dX5_share_27 : decode cX5_share 27 = .ok (.istore_n 1, 1) := by decide +kernel
theorem dX5_share_28 : decode cX5_share 28 = .ok (.iload_n 1, 1) := by decide +kernel
theorem dX5_share_29 : decode cX5_share 29 = .ok (.i2f, 1) := by decide +kernel
theorem dX5_share_30 : decode cX5_share 30 = .ok (.aload_n 0, 1) := by decide +kernel
theorem dX5_share_31 : decode cX5_share 31 = .ok (.getfield 20, 3) := by decide +kernel
theorem dX5_share_34 : decode cX5_share 34 = .ok (.getfield 66, 3) := by decide +kernel
theorem dX5_share_37 : decode cX5_share 37 = .ok (.i2f, 1) := by decide +kernel
theorem dX5_share_38 : decode cX5_share 38 = .ok (.fdiv, 1) := by decide +kernel
theorem dX5_share_39 : decode cX5_share 39 = .ok (.freturn, 1) := by decide +kernel
abbrev rm_X5_share : Room := { frames := 6, cells := 0, slots := 0, locals := 146 }
theorem w_X5_share {C : zC} (hx : z_ok C cX5_share RX5 0) (hn : z_nL C = 2) (hR : z_R C = rm_X5_share) {rr : (Int × Int) × zS} (hq : (rr.1 = (0, 0) → ∀ lv, z_W C rr.2 10 lv []) ∧ (rr.1.2 ≠ 0 → ∀ lv, z_W C rr.2 38 lv [.float (z_f rr.1.2), .float (z_f rr.1.1)])) (σ : zS) (h : f_X5_share σ = some rr) : z_W C σ 0 [(0, .ref (z_ad (z_g C) 62))] [] := by
  unfold f_X5_share at h
  refine z_aload_n hx 0 dX5_share_0 rfl ?_
  refine gf_X5_recording hx wf_X5_20 dX5_share_1 ?_
  refine gf_X2_frames hx wf_X5_66 (show 0 < 6 by decide) dX5_share_4 ?_
  refine z_if_ne hx (tgt := 12) dX5_share_7 (by decide) h (fun h => h) (fun hc h => ?_) (fun hc h => ?_)
  · refine z_aload_n hx 0 dX5_share_12 rfl ?_
    refine gf_X5_recording hx wf_X5_20 dX5_share_13 ?_
    refine gf_X2_frames hx wf_X5_66 (show 0 < 6 by decide) dX5_share_16 ?_
    refine z_aload_n hx 0 dX5_share_19 rfl ?_
    obtain ⟨⟨⟩, σ1, h20, h⟩ := z_bind_some h
    refine z_callr hx (As := []) (k := 62) (met_X5_currentCuts (z_l C) (z_g C) (z_ok_sd hx) h20) (z_lt0 (z_ok_sd hx) (by decide)) (z_kb62 (z_ok_sd hx) _) rfl rfl cv_X5_102 (z_room hR ⟨Nat.le_of_ble_eq_true rfl, Nat.le_of_ble_eq_true rfl⟩) ⟨rfl, rfl⟩ rfl rfl (Nat.le_of_ble_eq_true rfl) dX5_share_20 ?_
    obtain ⟨r3, σ2, h23, h⟩ := z_bind_some h
    refine z_calli hx (As := []) (k := 48) (met_X0_cutFrames (z_l C) (z_g C) (z_ok_sd hx) h23) (z_lt0 (z_ok_sd hx) (by decide)) (z_kb48 (z_ok_sd hx) _) rfl rfl cv_X5_126 (z_room hR ⟨Nat.le_of_ble_eq_true rfl, Nat.le_of_ble_eq_true rfl⟩) ⟨rfl, rfl⟩ rfl rfl (Nat.le_of_ble_eq_true rfl) dX5_share_23 ?_
    refine z_isub hx dX5_share_26 ?_
    refine z_istore_n hx hn (lv' := [(1, .int (zi ((σ 0 1) - r3))), (0, .ref (z_ad (z_g C) 62))]) dX5_share_27 (by decide) rfl ?_
    refine z_iload_n hx 0 dX5_share_28 rfl ?_
    refine z_i2f hx dX5_share_29 ?_
    refine z_aload_n hx 1 dX5_share_30 rfl ?_
    refine gf_X5_recording hx wf_X5_20 dX5_share_31 ?_
    refine gf_X2_frames hx wf_X5_66 (show 0 < 6 by decide) dX5_share_34 ?_
    refine z_i2f hx dX5_share_37 ?_
    obtain ⟨hz, h⟩ := z_gd h
    cases h
    exact hq.2 hz _
  · cases h
    exact hq.1 rfl _
end
section
/-! CONTRACTS OF set AND OF THE METHODS THAT ANSWER FLOATS -/
def z_MetS (l : Launch) (y : MethodName) (cc : ByteArray) (nL : Nat) (ret : Option FieldType) (rm : Room) (g : zG) (av : List Value) (σ : zS) (gs : Nat) (Qk : (Nat → Prop) → Array Value → State → Outcome → State → Prop) : Prop :=
  ∀ sz : Nat, Met l y (.code y cc nL ret :: z_ws) rm (va_Pc av (fun U => z_Pre g σ sz U ∧ z_Sr "GREATEST_SETTINGS" z_most gs (va_A (z_w g σ) sz) U)) (Qk (va_A (z_w g σ) sz)) 0 0 (va_A (z_w g σ) sz)
theorem met_X5_set (l : Launch) (g : zG) (hg : g.1 = 0) {σ : zS} {x1 x2 : Int} {gs : Nat} {rr : Int × zS} (h : f_X5_set σ x1 x2 = some rr) : z_MetS l yX5_set cX5_set 4 (some .int) rm_X5_set g [.ref (z_ad g 62), .int (zi x1), .int (zi x2)] σ gs (z_QI g rr.1 rr.2) := by
  intro sz
  refine Met.ofW (cc := cX5_set) (maxL := 4) (ret := some .int) (by decide) rfl ?_
  intro p e s m args below meth c s₁ B hml hv
  obtain ⟨rfl, ⟨hsz, hP, hK, hD0⟩, hSr⟩ := hv
  have hx := B.exec
  have hb := B.bytes
  have hr := B.returns
  have hts := atoms_spec (ws := .code yX5_set cX5_set 4 (some .int) :: z_ws) B.pre
  have hown : s.vm.findClass RX5 = some m.cls := findClass_of_methodNamed B.named
  have hlocks := B.notSynchronized
  subst hsz
  have hD := hD0.self (sz := s.heap.size)
  have hl := lv_entry [.ref (z_ad g 62), .int (zi x1), .int (zi x2)] (n := 4) (Nat.le_of_ble_eq_true rfl)
  rw [lg_entry_eq]
  have hl : lv_has _ 4 [(0, .ref (z_ad g 62)), (1, .int (zi x1)), (2, .int (zi x2))] := hl
  exact w_X5_set (C := (p, l, e, rm_X5_set, s, m, ([.ref (z_ad g 62), .int (zi x1), .int (zi x2)] : List Value).toArray, below, meth, c, MQ below (z_QI g rr.1 rr.2 (va_A (z_w g σ) s.heap.size)) ([.ref (z_ad g 62), .int (zi x1), .int (zi x2)] : List Value).toArray s 0 0 (va_A (z_w g σ) s.heap.size), 0, 0, va_A (z_w g σ) s.heap.size, s.heap, 4, g)) ⟨hx, hb, hml, hown, fun w hw => hts w (List.mem_cons_of_mem _ hw), hK, fun τ => z_wd_D hD, fun q h => Or.inr h, hg, Nat.zero_le _, Nat.zero_le _, rfl⟩ rfl rfl hSr ⟨hr, hlocks, rfl⟩ σ x1 x2 h s.heap [] _ hP va_S.rf hl
/-- what a float that stands for a share is: a by b, or 0 where b is 0; any NaN where that were one -/
def z_flt (ab : Int × Int) (r : UInt32) : Prop := alike32 r (if ab.2 = 0 then FP.fconst0 else FP.fdiv (z_f ab.1) (z_f ab.2)) = true
def z_QF (g : zG) (ab : Int × Int) (σ' : zS) (A : Nat → Prop) : Array Value → State → Outcome → State → Prop := va_Qf (fun (x : UInt32) (u : zS) => z_flt ab x ∧ u = σ') (z_B g A) A
def z_MetF (l : Launch) (y : MethodName) (cc : ByteArray) (nL : Nat) (rm : Room) (g : zG) (av : List Value) (σ : zS) (ab : Int × Int) (σ' : zS) : Prop :=
  ∀ sz : Nat, MetD lw_cs l y (.code y cc nL (some .float) :: z_ws) rm (va_Pc av (z_Pre g σ sz)) (z_QF g ab σ' (va_A (z_w g σ) sz)) 0 0 (va_A (z_w g σ) sz)
theorem z_enterF {l : Launch} {y : MethodName} {cc : ByteArray} {nL : Nat} {rm : Room} {g : zG} {av : List Value} {σ : zS} {ab : Int × Int} {σ' : zS} {own : String} {sd : Nat} {lv0 : List (Nat × Value)} {pz pd : Nat} (hy : plainName y.cls = true) (hown : y.cls = own) (hlen : (lg_sl av).length ≤ nL) (hg : g.1 = sd) (hlv : lv_args 0 av = lv0)
    (dz : decode cc pz = .ok (.fconst 0, 1)) (dr : decode cc (pz + 1) = .ok (.freturn, 1) ∨ ∃ (off : Int) (tgt : Nat), decode cc (pz + 1) = .ok (.goto off, 3) ∧ ((pz + 1 : Nat) : Int) + off = (tgt : Int) ∧ decode cc tgt = .ok (.freturn, 1)) (dd : decode cc pd = .ok (.fdiv, 1)) (de : decode cc (pd + 1) = .ok (.freturn, 1))
    (body : ∀ C : zC, z_ok C cc own sd → z_l C = l → z_g C = g → z_R C = rm → z_nL C = nL → ((ab = (0, 0) → ∀ lv, z_W C σ' pz lv []) ∧ (ab.2 ≠ 0 → ∀ lv, z_W C σ' pd lv [.float (z_f ab.2), .float (z_f ab.1)])) → z_W C σ 0 lv0 []) : z_MetF l y cc nL rm g av σ ab σ' := by
  intro sz
  refine MetD.ofW (cc := cc) (maxL := nL) (ret := some .float) hy rfl ?_
  intro p e s m args below meth c s₁ B hml hv hd0
  obtain ⟨rfl, hsz, hP, hK, hD0⟩ := hv
  have hx := B.exec
  have hb := B.bytes
  have hr := B.returns
  have hts := atoms_spec (ws := .code y cc nL (some .float) :: z_ws) B.pre
  have hown2 : s.vm.findClass y.cls = some m.cls := findClass_of_methodNamed B.named
  have hlocks := B.notSynchronized
  subst hsz
  have hD := hD0.self (sz := s.heap.size)
  have hl := lv_entry av (n := nL) hlen
  rw [lg_entry_eq]
  rw [hlv] at hl
  have hend : ∀ (r : UInt32) (d1 : Drawn) (H : Heap) (locs : List Loc) (ls : Array Slot) (pc : Nat), z_flt ab r → s.drawn.sameBut d1 lw_cs → va_P g.2.2.2.2.2 vwCl (z_w g σ') H → va_S (va_A (z_w g σ) s.heap.size) s.heap H locs → decode cc pc = .ok (.freturn, 1) → W p l e rm (s.setDrawn d1) m av.toArray below meth c H locs 0 0 (MQD lw_cs below (z_QF g ab σ' (va_A (z_w g σ) s.heap.size)) av.toArray s 0 0 (va_A (z_w g σ) s.heap.size)) (F0 m pc ls [.float r]) := by
    intro r d1 H locs ls pc hfl hd1 hP1 hS1 hdc
    refine W.endD hd1 ?_
    exact W.fret hx hb hr (fun t ht hW => ⟨⟨r, σ', rfl, ⟨hfl, rfl⟩, by rw [ht]; exact hP1, va_K.moved (u := s) hW.alike hK, z_wd_D hD⟩, hS1.F ht⟩) hS1.2.2 hdc
  refine body (p, l, e, rm, s.setDrawn s.drawn, m, av.toArray, below, meth, c, MQD lw_cs below (z_QF g ab σ' (va_A (z_w g σ) s.heap.size)) av.toArray s 0 0 (va_A (z_w g σ) s.heap.size), 0, 0, va_A (z_w g σ) s.heap.size, s.heap, nL, g) ⟨hx, hb, hml, hown ▸ hown2, fun w hw => dr_words hts _ w (List.mem_cons_of_mem _ hw), hK, fun τ => z_wd_D hD, fun q h => Or.inr h, hg, Nat.zero_le _, Nat.zero_le _, rfl⟩ rfl rfl rfl rfl ⟨fun h0 lv => ?_, fun hz lv => ?_⟩ s.heap [] _ hP va_S.rf hl
  · intro H locs ls hP1 hS1 hl1
    have hfl : z_flt ab FP.fconst0 := by
      unfold z_flt
      rw [h0]
      show alike32 FP.fconst0 (if (0 : Int) = 0 then FP.fconst0 else _) = true
      rw [if_pos rfl]
      exact alike32_refl _
    refine lv_fconst0 hx hb dz ?_
    rcases dr with dr | ⟨off, tgt, dr1, dr2, dr3⟩
    · exact hend _ _ _ _ _ _ hfl hd0 hP1 hS1 dr
    · refine lv_goto hx hb dr1 dr2 ?_
      exact hend _ _ _ _ _ _ hfl hd0 hP1 hS1 dr3
  · intro H locs ls hP1 hS1 hl1
    refine lv_fdiv_any hd0 lw_bits hx hb dd (fun r d1 hal hd1 => ?_)
    refine hend _ _ _ _ _ _ ?_ hd1 hP1 hS1 de
    unfold z_flt
    rw [if_neg hz]
    exact hal
theorem met_X5_loudness (l : Launch) (g : zG) (hg : g.1 = 0) {σ : zS} {rr : (Int × Int) × zS} (h : f_X5_loudness σ = some rr) : z_MetF l yX5_loudness cX5_loudness 2 rm_X5_loudness g [.ref (z_ad g 62)] σ rr.1 rr.2 := by
  refine z_enterF (own := RX5) (sd := 0) (lv0 := [(0, .ref (z_ad g 62))]) (by decide) rfl (Nat.le_of_ble_eq_true rfl) hg rfl dX5_loudness_12 (Or.inl dX5_loudness_13) dX5_loudness_24 dX5_loudness_25 (fun C hx hl hgC hR hn hq => ?_)
  subst hgC
  exact w_X5_loudness hx hn hR hq σ h
theorem met_X5_share (l : Launch) (g : zG) (hg : g.1 = 0) {σ : zS} {rr : (Int × Int) × zS} (h : f_X5_share σ = some rr) : z_MetF l yX5_share cX5_share 2 rm_X5_share g [.ref (z_ad g 62)] σ rr.1 rr.2 := by
  refine z_enterF (own := RX5) (sd := 0) (lv0 := [(0, .ref (z_ad g 62))]) (by decide) rfl (Nat.le_of_ble_eq_true rfl) hg rfl dX5_share_10 (Or.inl dX5_share_11) dX5_share_38 dX5_share_39 (fun C hx hl hgC hR hn hq => ?_)
  subst hgC
  exact w_X5_share hx hn hR hq σ h
end
