section
/-! THE METHODS AS FUNCTIONS OF NUMBERS. zS: what the cells hold, by the cell's place and the index in it; zr: the range of an int. -/
abbrev zS : Type := Nat → Int → Int
abbrev zr (z : Int) : Prop := -2147483648 ≤ z ∧ z < 2147483648
def z_up (σ : zS) (k : Nat) (i v : Int) : zS := fun a b => if a = k ∧ b = i then v else σ a b
def z_put {α : Type} (σ : zS) (k : Nat) (i v : Int) (K : zS → Option α) : Option α := K (z_up σ k i v)
def z_bind {α β : Type} (o : Option (α × zS)) (K : α → zS → Option β) : Option β := match o with
  | some (a, s) => K a s
  | none => none
/-- an int shifted right by n without its sign -/
def z_ushr (x : Int) (n : Nat) : Int := (x % 4294967296) / (2 ^ n : Nat)
/-- n values of a row to another -/
def z_cpy (σ : zS) (k1 : Nat) (i1 : Int) (k2 : Nat) (i2 n : Int) : zS := fun a b => if a = k2 ∧ i2 ≤ b ∧ b < i2 + n then σ k1 (i1 + (b - i2)) else σ a b
def z_copy {α : Type} (σ : zS) (k1 : Nat) (i1 : Int) (k2 : Nat) (i2 n : Int) (K : zS → Option α) : Option α := K (z_cpy σ k1 i1 k2 i2 n)
/-- the turns that a loop is given: more than any takes -/
def z_fuel : Nat := 100000
theorem z_bind_some {α β : Type} {o : Option (α × zS)} {K : α → zS → Option β} {r : β} (h : z_bind o K = some r) : ∃ a s, o = some (a, s) ∧ K a s = some r := by
  match o, h with
  | some (a, s), h => exact ⟨a, s, rfl, h⟩
theorem z_if {α : Type} {g c : Prop} [Decidable g] [Decidable c] {A B : Option α} {r : α} (h : (if g then (if c then A else B) else none) = some r) : g ∧ ((c ∧ A = some r) ∨ (¬ c ∧ B = some r)) := by
  by_cases hg : g
  · rw [if_pos hg] at h
    by_cases hc : c
    · rw [if_pos hc] at h; exact ⟨hg, Or.inl ⟨hc, h⟩⟩
    · rw [if_neg hc] at h; exact ⟨hg, Or.inr ⟨hc, h⟩⟩
  · rw [if_neg hg] at h; cases h
theorem z_gd {α : Type} {g : Prop} [Decidable g] {A : Option α} {r : α} (h : (if g then A else none) = some r) : g ∧ A = some r := by
  by_cases hg : g
  · rw [if_pos hg] at h; exact ⟨hg, h⟩
  · rw [if_neg hg] at h; cases h
end
section
/-! THE METHODS, by program out of the listing of the class and of the reference -/
def f_X2_copyMark (j : Nat) (k : Nat) (σ : zS) (x2 : Int) (x3 : Int) : Option (Unit × zS) :=
  if 0 ≤ x2 ∧ x2 < 20 then
    if 0 ≤ x3 ∧ x3 < 20 then z_put σ (8 * j + 2) x3 (σ (8 * k + 2) x2) fun σ1 =>
      if 0 ≤ x2 ∧ x2 < 20 then
        if 0 ≤ x3 ∧ x3 < 20 then z_put σ1 (8 * j + 3) x3 (σ1 (8 * k + 3) x2) fun σ2 =>
          if 0 ≤ x2 ∧ x2 < 20 then
            if 0 ≤ x3 ∧ x3 < 20 then z_put σ2 (8 * j + 4) x3 (σ2 (8 * k + 4) x2) fun σ3 =>
              if 0 ≤ x2 ∧ x2 < 20 then
                if 0 ≤ x3 ∧ x3 < 20 then z_put σ3 (8 * j + 5) x3 (σ3 (8 * k + 5) x2) fun σ4 =>
                  if 0 ≤ x2 ∧ x2 < 20 then
                    if (0 ≤ x3 ∧ x3 < 20) ∧ 0 ≤ (σ4 (8 * k + 6) x2) ∧ (σ4 (8 * k + 6) x2) ≤ 1 then z_put σ4 (8 * j + 6) x3 (σ4 (8 * k + 6) x2) fun σ5 =>
                      some ((), σ5)
                    else none
                  else none
                else none
              else none
            else none
          else none
        else none
      else none
    else none
  else none
def f_X2_copySound_b34 (j : Nat) (k : Nat) (K34 : zS → Int → Option (Unit × zS)) (σ : zS) (x2 : Int) : Option (Unit × zS) :=
  if zr x2 ∧ zr (σ (8 * j) 7) then
    if (σ (8 * j) 7) ≤ x2 then
      some ((), σ)
    else
      z_bind (f_X2_copyMark j k σ x2 x2) fun _ σ1 =>
      K34 σ1 (x2 + 1)
  else none
def f_X2_copySound_l34 (j : Nat) (k : Nat) : Nat → zS → Int → Option (Unit × zS)
  | 0, _, _ => none
  | n + 1, σ, x2 => f_X2_copySound_b34 j k (f_X2_copySound_l34 j k n) σ x2
def f_X2_copySound (j : Nat) (k : Nat) (σ : zS) : Option (Unit × zS) :=
  z_put σ (8 * j) 1 (σ (8 * k) 1) fun σ1 =>
  if 0 ≤ (0 : Int) ∧ 0 ≤ (0 : Int) ∧ 0 ≤ (200 : Int) ∧ (0 : Int) + (200 : Int) ≤ 200 ∧ (0 : Int) + (200 : Int) ≤ 200 then z_copy σ1 (8 * k + 1) (0 : Int) (8 * j + 1) (0 : Int) (200 : Int) fun σ2 =>
    z_put σ2 (8 * j) 7 (σ2 (8 * k) 7) fun σ3 =>
    f_X2_copySound_l34 j k z_fuel σ3 0
  else none
def f_X2_copyAll (j : Nat) (k : Nat) (σ : zS) : Option (Unit × zS) :=
  z_bind (f_X2_copySound j k σ) fun _ σ1 =>
  if 0 ≤ (0 : Int) ∧ 0 ≤ (0 : Int) ∧ 0 ≤ (7 : Int) ∧ (0 : Int) + (7 : Int) ≤ 7 ∧ (0 : Int) + (7 : Int) ≤ 7 then z_copy σ1 (8 * k + 7) (0 : Int) (8 * j + 7) (0 : Int) (7 : Int) fun σ2 =>
    some ((), σ2)
  else none
def f_X2_removeSound (j : Nat) (σ : zS) : Option (Unit × zS) :=
  z_put σ (8 * j) 1 0 fun σ1 =>
  z_put σ1 (8 * j) 7 0 fun σ2 =>
  some ((), σ2)
def f_X2_addFrame_b30 (j : Nat) (σ : zS) : Option (Unit × zS) :=
  some ((), σ)
def f_X2_addFrame (j : Nat) (σ : zS) (x1 : Int) : Option (Unit × zS) :=
  if zr (σ (8 * j) 1) then
    if 200 ≤ (σ (8 * j) 1) then
      f_X2_addFrame_b30 j σ
    else
      if 0 ≤ (σ (8 * j) 1) ∧ (σ (8 * j) 1) < 200 then z_put σ (8 * j + 1) (σ (8 * j) 1) x1 fun σ1 =>
        z_put σ1 (8 * j) 1 ((σ1 (8 * j) 1) + 1) fun σ2 =>
        f_X2_addFrame_b30 j σ2
      else none
  else none
def f_X2_hasFrame_b17 (j : Nat) (σ : zS) (s0 : Int) : Option (Int × zS) :=
  if 0 ≤ s0 ∧ s0 ≤ 1 then some (s0, σ) else none
def f_X2_hasFrame_b16 (j : Nat) (σ : zS) : Option (Int × zS) :=
  f_X2_hasFrame_b17 j σ 0
def f_X2_hasFrame (j : Nat) (σ : zS) (x1 : Int) : Option (Int × zS) :=
  if zr x1 then
    if x1 < 0 then
      f_X2_hasFrame_b16 j σ
    else
      if zr x1 ∧ zr (σ (8 * j) 1) then
        if (σ (8 * j) 1) ≤ x1 then
          f_X2_hasFrame_b16 j σ
        else
          f_X2_hasFrame_b17 j σ 1
      else none
  else none
def f_X2_levelAt_b22 (j : Nat) (σ : zS) (s0 : Int) : Option (Int × zS) :=
  some (s0, σ)
def f_X2_levelAt_b21 (j : Nat) (σ : zS) : Option (Int × zS) :=
  f_X2_levelAt_b22 j σ 0
def f_X2_levelAt (j : Nat) (σ : zS) (x1 : Int) : Option (Int × zS) :=
  if zr x1 then
    if x1 < 0 then
      f_X2_levelAt_b21 j σ
    else
      if zr x1 ∧ zr (σ (8 * j) 1) then
        if (σ (8 * j) 1) ≤ x1 then
          f_X2_levelAt_b21 j σ
        else
          if 0 ≤ x1 ∧ x1 < 200 then
            f_X2_levelAt_b22 j σ (σ (8 * j + 1) x1)
          else none
      else none
  else none
def f_X2_hasMark_b17 (j : Nat) (σ : zS) (s0 : Int) : Option (Int × zS) :=
  if 0 ≤ s0 ∧ s0 ≤ 1 then some (s0, σ) else none
def f_X2_hasMark_b16 (j : Nat) (σ : zS) : Option (Int × zS) :=
  f_X2_hasMark_b17 j σ 0
def f_X2_hasMark (j : Nat) (σ : zS) (x1 : Int) : Option (Int × zS) :=
  if zr x1 then
    if x1 < 0 then
      f_X2_hasMark_b16 j σ
    else
      if zr x1 ∧ zr (σ (8 * j) 7) then
        if (σ (8 * j) 7) ≤ x1 then
          f_X2_hasMark_b16 j σ
        else
          f_X2_hasMark_b17 j σ 1
      else none
  else none
def f_X2_overlaps_b32 (j : Nat) (K2 : zS → Int → Int → Int → Option (Int × zS)) (σ : zS) (x1 : Int) (x2 : Int) (x3 : Int) : Option (Int × zS) :=
  K2 σ x1 x2 (x3 + 1)
def f_X2_overlaps_b2 (j : Nat) (K2 : zS → Int → Int → Int → Option (Int × zS)) (σ : zS) (x1 : Int) (x2 : Int) (x3 : Int) : Option (Int × zS) :=
  if zr x3 ∧ zr (σ (8 * j) 7) then
    if (σ (8 * j) 7) ≤ x3 then
      some (0, σ)
    else
      if 0 ≤ x3 ∧ x3 < 20 then
        if zr x1 ∧ zr (σ (8 * j + 4) x3) then
          if (σ (8 * j + 4) x3) ≤ x1 then
            f_X2_overlaps_b32 j K2 σ x1 x2 x3
          else
            if 0 ≤ x3 ∧ x3 < 20 then
              if zr (σ (8 * j + 3) x3) ∧ zr x2 then
                if x2 ≤ (σ (8 * j + 3) x3) then
                  f_X2_overlaps_b32 j K2 σ x1 x2 x3
                else
                  some (1, σ)
              else none
            else none
        else none
      else none
  else none
def f_X2_overlaps_l2 (j : Nat) : Nat → zS → Int → Int → Int → Option (Int × zS)
  | 0, _, _, _, _ => none
  | n + 1, σ, x1, x2, x3 => f_X2_overlaps_b2 j (f_X2_overlaps_l2 j n) σ x1 x2 x3
def f_X2_overlaps (j : Nat) (σ : zS) (x1 : Int) (x2 : Int) : Option (Int × zS) :=
  f_X2_overlaps_l2 j z_fuel σ x1 x2 0
def f_X2_addMark_b53 (j : Nat) (σ : zS) (x1 : Int) (x2 : Int) (x3 : Int) (x4 : Int) (x5 : Int) : Option (Int × zS) :=
  if 0 ≤ x5 ∧ x5 < 20 then z_put σ (8 * j + 2) x5 x1 fun σ1 =>
    if 0 ≤ x5 ∧ x5 < 20 then z_put σ1 (8 * j + 3) x5 x2 fun σ2 =>
      if 0 ≤ x5 ∧ x5 < 20 then z_put σ2 (8 * j + 4) x5 x3 fun σ3 =>
        if 0 ≤ x5 ∧ x5 < 20 then z_put σ3 (8 * j + 5) x5 x4 fun σ4 =>
          if (0 ≤ x5 ∧ x5 < 20) ∧ 0 ≤ (0 : Int) ∧ (0 : Int) ≤ 1 then z_put σ4 (8 * j + 6) x5 0 fun σ5 =>
            z_put σ5 (8 * j) 7 ((σ5 (8 * j) 7) + 1) fun σ6 =>
            some (x5, σ6)
          else none
        else none
      else none
    else none
  else none
def f_X2_addMark_b18 (j : Nat) (K18 : zS → Int → Int → Int → Int → Int → Option (Int × zS)) (σ : zS) (x1 : Int) (x2 : Int) (x3 : Int) (x4 : Int) (x5 : Int) : Option (Int × zS) :=
  if zr x5 then
    if x5 ≤ 0 then
      f_X2_addMark_b53 j σ x1 x2 x3 x4 x5
    else
      if 0 ≤ (x5 - 1) ∧ (x5 - 1) < 20 then
        if zr (σ (8 * j + 3) (x5 - 1)) ∧ zr x2 then
          if (σ (8 * j + 3) (x5 - 1)) ≤ x2 then
            f_X2_addMark_b53 j σ x1 x2 x3 x4 x5
          else
            z_bind (f_X2_copyMark j j σ (x5 - 1) x5) fun _ σ1 =>
            K18 σ1 x1 x2 x3 x4 (x5 + (-1))
        else none
      else none
  else none
def f_X2_addMark_l18 (j : Nat) : Nat → zS → Int → Int → Int → Int → Int → Option (Int × zS)
  | 0, _, _, _, _, _, _ => none
  | n + 1, σ, x1, x2, x3, x4, x5 => f_X2_addMark_b18 j (f_X2_addMark_l18 j n) σ x1 x2 x3 x4 x5
def f_X2_addMark (j : Nat) (σ : zS) (x1 : Int) (x2 : Int) (x3 : Int) (x4 : Int) : Option (Int × zS) :=
  if zr (σ (8 * j) 7) then
    if (σ (8 * j) 7) < 20 then
      f_X2_addMark_l18 j z_fuel σ x1 x2 x3 x4 (σ (8 * j) 7)
    else
      some ((-3), σ)
  else none
def f_X2_removeMark_b11 (j : Nat) (K11 : zS → Int → Option (Unit × zS)) (σ : zS) (x2 : Int) : Option (Unit × zS) :=
  if zr (x2 + 1) ∧ zr (σ (8 * j) 7) then
    if (σ (8 * j) 7) ≤ (x2 + 1) then
      z_put σ (8 * j) 7 ((σ (8 * j) 7) - 1) fun σ1 =>
      some ((), σ1)
    else
      z_bind (f_X2_copyMark j j σ (x2 + 1) x2) fun _ σ2 =>
      K11 σ2 (x2 + 1)
  else none
def f_X2_removeMark_l11 (j : Nat) : Nat → zS → Int → Option (Unit × zS)
  | 0, _, _ => none
  | n + 1, σ, x2 => f_X2_removeMark_b11 j (f_X2_removeMark_l11 j n) σ x2
def f_X2_removeMark (j : Nat) (σ : zS) (x1 : Int) : Option (Unit × zS) :=
  z_bind (f_X2_hasMark j σ x1) fun r2 σ1 =>
  if zr r2 then
    if ¬ r2 = 0 then
      f_X2_removeMark_l11 j z_fuel σ1 x1
    else
      some ((), σ1)
  else none
def f_X2_numberOfMark_b86 (j : Nat) (σ : zS) (s0 : Int) : Option (Int × zS) :=
  some (s0, σ)
def f_X2_numberOfMark (j : Nat) (σ : zS) (x1 : Int) (x2 : Int) : Option (Int × zS) :=
  z_bind (f_X2_hasMark j σ x1) fun r2 σ1 =>
  if zr r2 then
    if ¬ r2 = 0 then
      if zr x2 then
        if x2 = 0 then
          if 0 ≤ x1 ∧ x1 < 20 then
            some (σ1 (8 * j + 2) x1, σ1)
          else none
        else
          if x2 = 1 then
            if 0 ≤ x1 ∧ x1 < 20 then
              some (σ1 (8 * j + 3) x1, σ1)
            else none
          else
            if x2 = 2 then
              if 0 ≤ x1 ∧ x1 < 20 then
                some (σ1 (8 * j + 4) x1, σ1)
              else none
            else
              if x2 = 3 then
                if 0 ≤ x1 ∧ x1 < 20 then
                  some (σ1 (8 * j + 5) x1, σ1)
                else none
              else
                if x2 = 4 then
                  if 0 ≤ x1 ∧ x1 < 20 then
                    if zr (σ1 (8 * j + 6) x1) then
                      if (σ1 (8 * j + 6) x1) = 0 then
                        f_X2_numberOfMark_b86 j σ1 0
                      else
                        f_X2_numberOfMark_b86 j σ1 1
                    else none
                  else none
                else
                  some ((-1), σ1)
      else none
    else
      some ((-1), σ1)
  else none
def f_X2_hasFillerOfDoubt_b31 (j : Nat) (K2 : zS → Int → Int → Option (Int × zS)) (σ : zS) (x1 : Int) (x2 : Int) : Option (Int × zS) :=
  K2 σ x1 (x2 + 1)
def f_X2_hasFillerOfDoubt_b2 (j : Nat) (K2 : zS → Int → Int → Option (Int × zS)) (σ : zS) (x1 : Int) (x2 : Int) : Option (Int × zS) :=
  if zr x2 ∧ zr (σ (8 * j) 7) then
    if (σ (8 * j) 7) ≤ x2 then
      some (0, σ)
    else
      if 0 ≤ x2 ∧ x2 < 20 then
        if zr (σ (8 * j + 2) x2) then
          if ¬ (σ (8 * j + 2) x2) = 0 then
            f_X2_hasFillerOfDoubt_b31 j K2 σ x1 x2
          else
            if 0 ≤ x2 ∧ x2 < 20 then
              if zr (σ (8 * j + 5) x2) ∧ zr x1 then
                if ¬ (σ (8 * j + 5) x2) = x1 then
                  f_X2_hasFillerOfDoubt_b31 j K2 σ x1 x2
                else
                  some (1, σ)
              else none
            else none
        else none
      else none
  else none
def f_X2_hasFillerOfDoubt_l2 (j : Nat) : Nat → zS → Int → Int → Option (Int × zS)
  | 0, _, _, _ => none
  | n + 1, σ, x1, x2 => f_X2_hasFillerOfDoubt_b2 j (f_X2_hasFillerOfDoubt_l2 j n) σ x1 x2
def f_X2_hasFillerOfDoubt (j : Nat) (σ : zS) (x1 : Int) : Option (Int × zS) :=
  f_X2_hasFillerOfDoubt_l2 j z_fuel σ x1 0
def f_X2_endOfMarkBefore_b22 (j : Nat) (σ : zS) (s0 : Int) : Option (Int × zS) :=
  some (s0, σ)
def f_X2_endOfMarkBefore (j : Nat) (σ : zS) (x1 : Int) : Option (Int × zS) :=
  z_bind (f_X2_hasMark j σ (x1 - 1)) fun r2 σ1 =>
  if zr r2 then
    if r2 = 0 then
      f_X2_endOfMarkBefore_b22 j σ1 0
    else
      if 0 ≤ (x1 - 1) ∧ (x1 - 1) < 20 then
        f_X2_endOfMarkBefore_b22 j σ1 (σ1 (8 * j + 4) (x1 - 1))
      else none
  else none
def f_X2_firstOfMarkAfter_b25 (j : Nat) (σ : zS) (s0 : Int) : Option (Int × zS) :=
  some (s0, σ)
def f_X2_firstOfMarkAfter (j : Nat) (σ : zS) (x1 : Int) : Option (Int × zS) :=
  z_bind (f_X2_hasMark j σ (x1 + 1)) fun r2 σ1 =>
  if zr r2 then
    if r2 = 0 then
      f_X2_firstOfMarkAfter_b25 j σ1 (σ1 (8 * j) 1)
    else
      if 0 ≤ (x1 + 1) ∧ (x1 + 1) < 20 then
        f_X2_firstOfMarkAfter_b25 j σ1 (σ1 (8 * j + 3) (x1 + 1))
      else none
  else none
def f_X2_isQuiet_b32 (j : Nat) (σ : zS) (s0 : Int) : Option (Int × zS) :=
  if 0 ≤ s0 ∧ s0 ≤ 1 then some (s0, σ) else none
def f_X2_isQuiet_b31 (j : Nat) (σ : zS) : Option (Int × zS) :=
  f_X2_isQuiet_b32 j σ 0
def f_X2_isQuiet (j : Nat) (σ : zS) (x1 : Int) : Option (Int × zS) :=
  if 0 ≤ (1 : Int) ∧ (1 : Int) < 7 then
    z_bind (f_X2_levelAt j σ (x1 - 1)) fun r2 σ1 =>
    if zr r2 ∧ zr (σ (8 * j + 7) 1) then
      if (σ (8 * j + 7) 1) < r2 then
        f_X2_isQuiet_b31 j σ1
      else
        z_bind (f_X2_levelAt j σ1 x1) fun r4 σ3 =>
        if zr r4 ∧ zr (σ (8 * j + 7) 1) then
          if (σ (8 * j + 7) 1) < r4 then
            f_X2_isQuiet_b31 j σ3
          else
            f_X2_isQuiet_b32 j σ3 1
        else none
    else none
  else none
def f_X2_nearestQuietSeam_b71 (j : Nat) (K3 : zS → Int → Int → Int → Int → Int → Option (Int × zS)) (σ : zS) (x1 : Int) (x2 : Int) (x3 : Int) (x4 : Int) (x5 : Int) : Option (Int × zS) :=
  K3 σ x1 x2 x3 x4 (x5 + 1)
def f_X2_nearestQuietSeam_b40 (j : Nat) (K3 : zS → Int → Int → Int → Int → Int → Option (Int × zS)) (σ : zS) (x1 : Int) (x2 : Int) (x3 : Int) (x4 : Int) (x5 : Int) : Option (Int × zS) :=
  if zr (x1 + x5) ∧ zr x3 then
    if (x1 + x5) < x3 then
      f_X2_nearestQuietSeam_b71 j K3 σ x1 x2 x3 x4 x5
    else
      if zr (x1 + x5) ∧ zr x4 then
        if x4 < (x1 + x5) then
          f_X2_nearestQuietSeam_b71 j K3 σ x1 x2 x3 x4 x5
        else
          z_bind (f_X2_isQuiet j σ (x1 + x5)) fun r2 σ1 =>
          if zr r2 then
            if r2 = 0 then
              f_X2_nearestQuietSeam_b71 j K3 σ1 x1 x2 x3 x4 x5
            else
              some (x1 + x5, σ1)
          else none
      else none
  else none
def f_X2_nearestQuietSeam_b3 (j : Nat) (K3 : zS → Int → Int → Int → Int → Int → Option (Int × zS)) (σ : zS) (x1 : Int) (x2 : Int) (x3 : Int) (x4 : Int) (x5 : Int) : Option (Int × zS) :=
  if zr x5 ∧ zr x2 then
    if x2 < x5 then
      some ((-1), σ)
    else
      if zr (x1 - x5) ∧ zr x3 then
        if (x1 - x5) < x3 then
          f_X2_nearestQuietSeam_b40 j K3 σ x1 x2 x3 x4 x5
        else
          if zr (x1 - x5) ∧ zr x4 then
            if x4 < (x1 - x5) then
              f_X2_nearestQuietSeam_b40 j K3 σ x1 x2 x3 x4 x5
            else
              z_bind (f_X2_isQuiet j σ (x1 - x5)) fun r2 σ1 =>
              if zr r2 then
                if r2 = 0 then
                  f_X2_nearestQuietSeam_b40 j K3 σ1 x1 x2 x3 x4 x5
                else
                  some (x1 - x5, σ1)
              else none
          else none
      else none
  else none
def f_X2_nearestQuietSeam_l3 (j : Nat) : Nat → zS → Int → Int → Int → Int → Int → Option (Int × zS)
  | 0, _, _, _, _, _, _ => none
  | n + 1, σ, x1, x2, x3, x4, x5 => f_X2_nearestQuietSeam_b3 j (f_X2_nearestQuietSeam_l3 j n) σ x1 x2 x3 x4 x5
def f_X2_nearestQuietSeam (j : Nat) (σ : zS) (x1 : Int) (x2 : Int) (x3 : Int) (x4 : Int) : Option (Int × zS) :=
  f_X2_nearestQuietSeam_l3 j z_fuel σ x1 x2 x3 x4 0
def f_X0_endOfLastCut_b31 (σ : zS) (s0 : Int) : Option (Int × zS) :=
  some (s0, σ)
def f_X0_endOfLastCut_b30 (σ : zS) : Option (Int × zS) :=
  f_X0_endOfLastCut_b31 σ 0
def f_X0_endOfLastCut (σ : zS) : Option (Int × zS) :=
  if zr (σ 48 5) then
    if (σ 48 5) ≤ 0 then
      f_X0_endOfLastCut_b30 σ
    else
      if zr (σ 48 5) then
        if 20 < (σ 48 5) then
          f_X0_endOfLastCut_b30 σ
        else
          if 0 ≤ ((σ 48 5) - 1) ∧ ((σ 48 5) - 1) < 20 then
            f_X0_endOfLastCut_b31 σ (σ 50 ((σ 48 5) - 1))
          else none
      else none
  else none
def f_X0_addCut (σ : zS) (x1 : Int) (x2 : Int) (x3 : Int) (x4 : Int) (x5 : Int) : Option (Unit × zS) :=
  if zr (σ 48 5) then
    if (σ 48 5) < 20 then
      if 0 ≤ (σ 48 5) ∧ (σ 48 5) < 20 then z_put σ 49 (σ 48 5) x1 fun σ1 =>
        if 0 ≤ (σ1 48 5) ∧ (σ1 48 5) < 20 then z_put σ1 50 (σ1 48 5) x2 fun σ2 =>
          if 0 ≤ (σ2 48 5) ∧ (σ2 48 5) < 20 then z_put σ2 51 (σ2 48 5) x3 fun σ3 =>
            if (0 ≤ (σ3 48 5) ∧ (σ3 48 5) < 20) ∧ 0 ≤ x4 ∧ x4 ≤ 1 then z_put σ3 52 (σ3 48 5) x4 fun σ4 =>
              if 0 ≤ (σ4 48 5) ∧ (σ4 48 5) < 20 then z_put σ4 53 (σ4 48 5) x5 fun σ5 =>
                z_put σ5 48 5 ((σ5 48 5) + 1) fun σ6 =>
                some ((), σ6)
              else none
            else none
          else none
        else none
      else none
    else
      some ((), σ)
  else none
def f_X0_addFillerCut_b163 (σ : zS) (x2 : Int) (s1 : Int) (s2 : Int) (s3 : Int) (s4 : Int) : Option (Unit × zS) :=
  z_bind (f_X0_addCut σ s1 s2 s3 s4 x2) fun _ σ1 =>
  some ((), σ1)
def f_X0_addFillerCut_b158 (σ : zS) (x2 : Int) (s1 : Int) (s2 : Int) (s3 : Int) : Option (Unit × zS) :=
  f_X0_addFillerCut_b163 σ x2 s1 s2 s3 1
def f_X0_addFillerCut_b111 (σ : zS) (x2 : Int) (x6 : Int) (x7 : Int) (x9 : Int) (x10 : Int) : Option (Unit × zS) :=
  if 0 ≤ (4 : Int) ∧ (4 : Int) < 7 then
    if zr ((x9 - x6) * (σ (8 * 0 + 7) 4)) ∧ zr 100 ∧ (100 : Int) ≠ 0 then
      if 0 ≤ (3 : Int) ∧ (3 : Int) < 7 then
        if zr (σ (8 * 0 + 7) 3) ∧ zr (((x9 - x6) * (σ (8 * 0 + 7) 4)).tdiv 100) then
          if zr x7 then
            if ¬ x7 = 0 then
              f_X0_addFillerCut_b158 σ x2 x6 x9 (if (((x9 - x6) * (σ (8 * 0 + 7) 4)).tdiv 100) < (σ (8 * 0 + 7) 3) then (((x9 - x6) * (σ (8 * 0 + 7) 4)).tdiv 100) else (σ (8 * 0 + 7) 3))
            else
              if zr x10 then
                if x10 = 0 then
                  f_X0_addFillerCut_b163 σ x2 x6 x9 (if (((x9 - x6) * (σ (8 * 0 + 7) 4)).tdiv 100) < (σ (8 * 0 + 7) 3) then (((x9 - x6) * (σ (8 * 0 + 7) 4)).tdiv 100) else (σ (8 * 0 + 7) 3)) 0
                else
                  f_X0_addFillerCut_b158 σ x2 x6 x9 (if (((x9 - x6) * (σ (8 * 0 + 7) 4)).tdiv 100) < (σ (8 * 0 + 7) 3) then (((x9 - x6) * (σ (8 * 0 + 7) 4)).tdiv 100) else (σ (8 * 0 + 7) 3))
              else none
          else none
        else none
      else none
    else none
  else none
def f_X0_addFillerCut_b100 (σ : zS) (x2 : Int) (x4 : Int) (x6 : Int) (x7 : Int) (x9 : Int) (s0 : Int) : Option (Unit × zS) :=
  if zr s0 then
    if s0 = 0 then
      f_X0_addFillerCut_b111 σ x2 x6 x7 x9 s0
    else
      f_X0_addFillerCut_b111 σ x2 x6 x7 x4 s0
  else none
def f_X0_addFillerCut_b67 (σ : zS) (x2 : Int) (x3 : Int) (x4 : Int) (x6 : Int) (x7 : Int) : Option (Unit × zS) :=
  z_bind (f_X2_firstOfMarkAfter 0 σ x2) fun r2 σ1 =>
  z_bind (f_X2_nearestQuietSeam 0 σ1 x4 x3 (x6 + 1) r2) fun r4 σ3 =>
  if zr r4 then
    if ¬ r4 = (-1) then
      f_X0_addFillerCut_b100 σ3 x2 x4 x6 x7 r4 0
    else
      f_X0_addFillerCut_b100 σ3 x2 x4 x6 x7 r4 1
  else none
def f_X0_addFillerCut_b52 (σ : zS) (x2 : Int) (x3 : Int) (x4 : Int) (x6 : Int) (s0 : Int) : Option (Unit × zS) :=
  if zr s0 then
    if s0 = 0 then
      f_X0_addFillerCut_b67 σ x2 x3 x4 x6 s0
    else
      if 0 ≤ x2 ∧ x2 < 20 then
        f_X0_addFillerCut_b67 σ x2 x3 x4 (σ (8 * 0 + 3) x2) s0
      else none
  else none
def f_X0_addFillerCut (σ : zS) (x2 : Int) (x3 : Int) : Option (Unit × zS) :=
  if 0 ≤ x2 ∧ x2 < 20 then
    z_bind (f_X0_endOfLastCut σ) fun r2 σ1 =>
    z_bind (f_X2_endOfMarkBefore 0 σ1 x2) fun r4 σ3 =>
    if zr r2 ∧ zr r4 then
      if 0 ≤ x2 ∧ x2 < 20 then
        z_bind (f_X2_nearestQuietSeam 0 σ3 (σ3 (8 * 0 + 3) x2) x3 (if r2 < r4 then r4 else r2) ((σ (8 * 0 + 4) x2) - 1)) fun r6 σ5 =>
        if zr r6 then
          if ¬ r6 = (-1) then
            f_X0_addFillerCut_b52 σ5 x2 x3 (σ (8 * 0 + 4) x2) r6 0
          else
            f_X0_addFillerCut_b52 σ5 x2 x3 (σ (8 * 0 + 4) x2) r6 1
        else none
      else none
    else none
  else none
def f_X0_addBreathCut_b81 (σ : zS) : Option (Unit × zS) :=
  some ((), σ)
def f_X0_addBreathCut (σ : zS) (x2 : Int) : Option (Unit × zS) :=
  if 0 ≤ x2 ∧ x2 < 20 then
    if 0 ≤ x2 ∧ x2 < 20 then
      if 0 ≤ (5 : Int) ∧ (5 : Int) < 7 then
        if 0 ≤ (6 : Int) ∧ (6 : Int) < 7 then
          if zr ((σ (8 * 0 + 4) x2) - (σ (8 * 0 + 3) x2)) ∧ zr (σ (8 * 0 + 7) 6) then
            if (σ (8 * 0 + 7) 6) ≤ ((σ (8 * 0 + 4) x2) - (σ (8 * 0 + 3) x2)) then
              if zr ((σ (8 * 0 + 4) x2) - (σ (8 * 0 + 3) x2)) ∧ zr (σ (8 * 0 + 7) 5) then
                if ((σ (8 * 0 + 4) x2) - (σ (8 * 0 + 3) x2)) ≤ (σ (8 * 0 + 7) 5) then
                  f_X0_addBreathCut_b81 σ
                else
                  if zr ((σ (8 * 0 + 7) 5) + 1) ∧ zr 2 ∧ (2 : Int) ≠ 0 then
                    if zr (σ (8 * 0 + 7) 5) ∧ zr 2 ∧ (2 : Int) ≠ 0 then
                      z_bind (f_X0_addCut σ ((σ (8 * 0 + 3) x2) + (((σ (8 * 0 + 7) 5) + 1).tdiv 2)) ((σ (8 * 0 + 4) x2) - ((σ (8 * 0 + 7) 5).tdiv 2)) 0 0 x2) fun _ σ1 =>
                      f_X0_addBreathCut_b81 σ1
                    else none
                  else none
              else none
            else
              z_bind (f_X0_addCut σ (σ (8 * 0 + 3) x2) (σ (8 * 0 + 4) x2) 0 0 x2) fun _ σ2 =>
              f_X0_addBreathCut_b81 σ2
          else none
        else none
      else none
    else none
  else none
def f_X0_find_b80 (K8 : zS → Int → Int → Int → Option (Unit × zS)) (σ : zS) (x2 : Int) (x3 : Int) (x4 : Int) : Option (Unit × zS) :=
  K8 σ x2 x3 (x4 + 1)
def f_X0_find_b62 (K8 : zS → Int → Int → Int → Option (Unit × zS)) (σ : zS) (x2 : Int) (x3 : Int) (x4 : Int) : Option (Unit × zS) :=
  if 0 ≤ x4 ∧ x4 < 20 then
    if zr (σ (8 * 0 + 2) x4) then
      if ¬ (σ (8 * 0 + 2) x4) = 1 then
        f_X0_find_b80 K8 σ x2 x3 x4
      else
        z_bind (f_X0_addBreathCut σ x4) fun _ σ1 =>
        f_X0_find_b80 K8 σ1 x2 x3 x4
    else none
  else none
def f_X0_find_b8 (K8 : zS → Int → Int → Int → Option (Unit × zS)) (σ : zS) (x2 : Int) (x3 : Int) (x4 : Int) : Option (Unit × zS) :=
  if zr x4 ∧ zr (σ (8 * 0) 7) then
    if (σ (8 * 0) 7) ≤ x4 then
      some ((), σ)
    else
      if 0 ≤ x4 ∧ x4 < 20 then
        if zr (σ (8 * 0 + 6) x4) then
          if (σ (8 * 0 + 6) x4) = 0 then
            if 0 ≤ x4 ∧ x4 < 20 then
              if zr (σ (8 * 0 + 2) x4) then
                if ¬ (σ (8 * 0 + 2) x4) = 0 then
                  f_X0_find_b62 K8 σ x2 x3 x4
                else
                  if 0 ≤ x4 ∧ x4 < 20 then
                    if zr (σ (8 * 0 + 5) x4) ∧ zr x2 then
                      if x2 < (σ (8 * 0 + 5) x4) then
                        f_X0_find_b62 K8 σ x2 x3 x4
                      else
                        z_bind (f_X0_addFillerCut σ x4 x3) fun _ σ1 =>
                        f_X0_find_b80 K8 σ1 x2 x3 x4
                    else none
                  else none
              else none
            else none
          else
            f_X0_find_b80 K8 σ x2 x3 x4
        else none
      else none
  else none
def f_X0_find_l8 : Nat → zS → Int → Int → Int → Option (Unit × zS)
  | 0, _, _, _, _ => none
  | n + 1, σ, x2, x3, x4 => f_X0_find_b8 (f_X0_find_l8 n) σ x2 x3 x4
def f_X0_find (σ : zS) (x2 : Int) (x3 : Int) : Option (Unit × zS) :=
  z_put σ 48 5 0 fun σ1 =>
  f_X0_find_l8 z_fuel σ1 x2 x3 0
def f_X0_cutOfMark_b2 (K2 : zS → Int → Int → Option (Int × zS)) (σ : zS) (x1 : Int) (x2 : Int) : Option (Int × zS) :=
  if zr x2 ∧ zr (σ 48 5) then
    if (σ 48 5) ≤ x2 then
      some ((-9), σ)
    else
      if 0 ≤ x2 ∧ x2 < 20 then
        if zr (σ 53 x2) ∧ zr x1 then
          if ¬ (σ 53 x2) = x1 then
            K2 σ x1 (x2 + 1)
          else
            some (x2, σ)
        else none
      else none
  else none
def f_X0_cutOfMark_l2 : Nat → zS → Int → Int → Option (Int × zS)
  | 0, _, _, _ => none
  | n + 1, σ, x1, x2 => f_X0_cutOfMark_b2 (f_X0_cutOfMark_l2 n) σ x1 x2
def f_X0_cutOfMark (σ : zS) (x1 : Int) : Option (Int × zS) :=
  f_X0_cutOfMark_l2 z_fuel σ x1 0
def f_X0_numberOfCut_b83 (σ : zS) (s0 : Int) : Option (Int × zS) :=
  some (s0, σ)
def f_X0_numberOfCut_b12 (σ : zS) : Option (Int × zS) :=
  some ((-1), σ)
def f_X0_numberOfCut (σ : zS) (x1 : Int) (x2 : Int) : Option (Int × zS) :=
  if zr x1 then
    if x1 < 0 then
      f_X0_numberOfCut_b12 σ
    else
      if zr x1 ∧ zr (σ 48 5) then
        if x1 < (σ 48 5) then
          if zr x2 then
            if x2 = 0 then
              if 0 ≤ x1 ∧ x1 < 20 then
                some (σ 49 x1, σ)
              else none
            else
              if x2 = 1 then
                if 0 ≤ x1 ∧ x1 < 20 then
                  some (σ 50 x1, σ)
                else none
              else
                if x2 = 2 then
                  if 0 ≤ x1 ∧ x1 < 20 then
                    some (σ 51 x1, σ)
                  else none
                else
                  if x2 = 3 then
                    if 0 ≤ x1 ∧ x1 < 20 then
                      if zr (σ 52 x1) then
                        if (σ 52 x1) = 0 then
                          f_X0_numberOfCut_b83 σ 0
                        else
                          f_X0_numberOfCut_b83 σ 1
                      else none
                    else none
                  else
                    if x2 = 4 then
                      if 0 ≤ x1 ∧ x1 < 20 then
                        some (σ 53 x1, σ)
                      else none
                    else
                      some ((-1), σ)
          else none
        else
          f_X0_numberOfCut_b12 σ
      else none
  else none
def f_X0_cutFrames_b4 (K4 : zS → Int → Int → Option (Int × zS)) (σ : zS) (x1 : Int) (x2 : Int) : Option (Int × zS) :=
  if zr x2 ∧ zr (σ 48 5) then
    if (σ 48 5) ≤ x2 then
      some (x1, σ)
    else
      if 0 ≤ x2 ∧ x2 < 20 then
        if 0 ≤ x2 ∧ x2 < 20 then
          K4 σ (x1 + ((σ 50 x2) - (σ 49 x2))) (x2 + 1)
        else none
      else none
  else none
def f_X0_cutFrames_l4 : Nat → zS → Int → Int → Option (Int × zS)
  | 0, _, _, _ => none
  | n + 1, σ, x1, x2 => f_X0_cutFrames_b4 (f_X0_cutFrames_l4 n) σ x1 x2
def f_X0_cutFrames (σ : zS) : Option (Int × zS) :=
  f_X0_cutFrames_l4 z_fuel σ 0 0
def f_X0_pauseFrames_b4 (K4 : zS → Int → Int → Option (Int × zS)) (σ : zS) (x1 : Int) (x2 : Int) : Option (Int × zS) :=
  if zr x2 ∧ zr (σ 48 5) then
    if (σ 48 5) ≤ x2 then
      some (x1, σ)
    else
      if 0 ≤ x2 ∧ x2 < 20 then
        K4 σ (x1 + (σ 51 x2)) (x2 + 1)
      else none
  else none
def f_X0_pauseFrames_l4 : Nat → zS → Int → Int → Option (Int × zS)
  | 0, _, _, _ => none
  | n + 1, σ, x1, x2 => f_X0_pauseFrames_b4 (f_X0_pauseFrames_l4 n) σ x1 x2
def f_X0_pauseFrames (σ : zS) : Option (Int × zS) :=
  f_X0_pauseFrames_l4 z_fuel σ 0 0
def f_X0_roughCuts_b27 (K4 : zS → Int → Int → Option (Int × zS)) (σ : zS) (x2 : Int) (s0 : Int) (s1 : Int) : Option (Int × zS) :=
  K4 σ (s0 + s1) (x2 + 1)
def f_X0_roughCuts_b4 (K4 : zS → Int → Int → Option (Int × zS)) (σ : zS) (x1 : Int) (x2 : Int) : Option (Int × zS) :=
  if zr x2 ∧ zr (σ 48 5) then
    if (σ 48 5) ≤ x2 then
      some (x1, σ)
    else
      if 0 ≤ x2 ∧ x2 < 20 then
        if zr (σ 52 x2) then
          if (σ 52 x2) = 0 then
            f_X0_roughCuts_b27 K4 σ x2 x1 0
          else
            f_X0_roughCuts_b27 K4 σ x2 x1 1
        else none
      else none
  else none
def f_X0_roughCuts_l4 : Nat → zS → Int → Int → Option (Int × zS)
  | 0, _, _, _ => none
  | n + 1, σ, x1, x2 => f_X0_roughCuts_b4 (f_X0_roughCuts_l4 n) σ x1 x2
def f_X0_roughCuts (σ : zS) : Option (Int × zS) :=
  f_X0_roughCuts_l4 z_fuel σ 0 0
def f_X1_dropOldest_b9 (K9 : zS → Nat → Int → Option (Unit × zS)) (σ : zS) (n1 : Nat) (x2 : Int) : Option (Unit × zS) :=
  if zr x2 then
    if 4 ≤ x2 then
      if 0 ≤ (3 : Int) ∧ (3 : Int) < 4 then z_put σ 61 3 (n1 : Nat) fun σ1 =>
        z_put σ1 60 1 3 fun σ2 =>
        some ((), σ2)
      else none
    else
      if (0 ≤ x2 ∧ x2 < 4) ∧ 0 ≤ σ 61 x2 ∧ σ 61 x2 < 6 then
        if 0 ≤ (x2 - 1) ∧ (x2 - 1) < 4 then z_put σ 61 (x2 - 1) (((σ 61 x2).toNat) : Nat) fun σ3 =>
          K9 σ3 n1 (x2 + 1)
        else none
      else none
  else none
def f_X1_dropOldest_l9 : Nat → zS → Nat → Int → Option (Unit × zS)
  | 0, _, _, _ => none
  | n + 1, σ, n1, x2 => f_X1_dropOldest_b9 (f_X1_dropOldest_l9 n) σ n1 x2
def f_X1_dropOldest (σ : zS) : Option (Unit × zS) :=
  if (0 ≤ (0 : Int) ∧ (0 : Int) < 4) ∧ 0 ≤ σ 61 0 ∧ σ 61 0 < 6 then
    f_X1_dropOldest_l9 z_fuel σ ((σ 61 0).toNat) 1
  else none
def f_X1_keep_b12 (k : Nat) (σ : zS) : Option (Unit × zS) :=
  if (0 ≤ (σ 60 1) ∧ (σ 60 1) < 4) ∧ 0 ≤ σ 61 (σ 60 1) ∧ σ 61 (σ 60 1) < 6 then
    z_bind (f_X2_copyAll ((σ 61 (σ 60 1)).toNat) k σ) fun _ σ1 =>
    z_put σ1 60 1 ((σ1 60 1) + 1) fun σ2 =>
    some ((), σ2)
  else none
def f_X1_keep (k : Nat) (σ : zS) : Option (Unit × zS) :=
  if zr (σ 60 1) then
    if (σ 60 1) < 4 then
      f_X1_keep_b12 k σ
    else
      z_bind (f_X1_dropOldest σ) fun _ σ1 =>
      f_X1_keep_b12 k σ1
  else none
def f_X1_restoreLatest_b30 (k : Nat) (σ : zS) : Option (Unit × zS) :=
  some ((), σ)
def f_X1_restoreLatest (k : Nat) (σ : zS) : Option (Unit × zS) :=
  if zr (σ 60 1) then
    if (σ 60 1) ≤ 0 then
      f_X1_restoreLatest_b30 k σ
    else
      z_put σ 60 1 ((σ 60 1) - 1) fun σ1 =>
      if (0 ≤ (σ1 60 1) ∧ (σ1 60 1) < 4) ∧ 0 ≤ σ1 61 (σ1 60 1) ∧ σ1 61 (σ1 60 1) < 6 then
        z_bind (f_X2_copyAll k ((σ1 61 (σ1 60 1)).toNat) σ1) fun _ σ2 =>
        f_X1_restoreLatest_b30 k σ2
      else none
  else none
def f_X3_gatherFrame_b58 (σ : zS) : Option (Unit × zS) :=
  some ((), σ)
def f_X3_gatherFrame_b35 (σ : zS) (x1 : Int) (x2 : Int) : Option (Unit × zS) :=
  if zr x2 then
    if ¬ x2 = 3 then
      f_X3_gatherFrame_b58 σ
    else
      if zr x1 then
        if x1 < 0 then
          f_X3_gatherFrame_b58 σ
        else
          if zr x1 then
            if 200 ≤ x1 then
              f_X3_gatherFrame_b58 σ
            else
              if (0 ≤ x1 ∧ x1 < 200) ∧ 0 ≤ (1 : Int) ∧ (1 : Int) ≤ 1 then z_put σ 58 x1 1 fun σ1 =>
                f_X3_gatherFrame_b58 σ1
              else none
          else none
      else none
  else none
def f_X3_gatherFrame (σ : zS) (x1 : Int) (x2 : Int) : Option (Unit × zS) :=
  if zr x2 then
    if ¬ x2 = 2 then
      f_X3_gatherFrame_b35 σ x1 x2
    else
      if zr (σ 54 4) then
        if 200 ≤ (σ 54 4) then
          f_X3_gatherFrame_b35 σ x1 x2
        else
          if 0 ≤ (σ 54 4) ∧ (σ 54 4) < 200 then z_put σ 57 (σ 54 4) x1 fun σ1 =>
            z_put σ1 54 4 ((σ1 54 4) + 1) fun σ2 =>
            f_X3_gatherFrame_b35 σ2 x1 x2
          else none
      else none
  else none
def f_X3_gatherRoomAndNoise_b49 (K34 : zS → Int → Option (Unit × zS)) (K49 : zS → Int → Int → Option (Unit × zS)) (σ : zS) (x2 : Int) (x3 : Int) : Option (Unit × zS) :=
  if 0 ≤ x2 ∧ x2 < 20 then
    if zr x3 ∧ zr (σ (8 * 0 + 4) x2) then
      if (σ (8 * 0 + 4) x2) ≤ x3 then
        K34 σ (x2 + 1)
      else
        if 0 ≤ x2 ∧ x2 < 20 then
          z_bind (f_X3_gatherFrame σ x3 (σ (8 * 0 + 2) x2)) fun _ σ1 =>
          K49 σ1 x2 (x3 + 1)
        else none
    else none
  else none
def f_X3_gatherRoomAndNoise_l49 (K34 : zS → Int → Option (Unit × zS)) : Nat → zS → Int → Int → Option (Unit × zS)
  | 0, _, _, _ => none
  | n + 1, σ, x2, x3 => f_X3_gatherRoomAndNoise_b49 K34 (f_X3_gatherRoomAndNoise_l49 K34 n) σ x2 x3
def f_X3_gatherRoomAndNoise_b34 (K34 : zS → Int → Option (Unit × zS)) (σ : zS) (x2 : Int) : Option (Unit × zS) :=
  if zr x2 ∧ zr (σ (8 * 0) 7) then
    if (σ (8 * 0) 7) ≤ x2 then
      some ((), σ)
    else
      if 0 ≤ x2 ∧ x2 < 20 then
        f_X3_gatherRoomAndNoise_l49 K34 z_fuel σ x2 (σ (8 * 0 + 3) x2)
      else none
  else none
def f_X3_gatherRoomAndNoise_l34 : Nat → zS → Int → Option (Unit × zS)
  | 0, _, _ => none
  | n + 1, σ, x2 => f_X3_gatherRoomAndNoise_b34 (f_X3_gatherRoomAndNoise_l34 n) σ x2
def f_X3_gatherRoomAndNoise_b12 (K12 : zS → Int → Option (Unit × zS)) (σ : zS) (x2 : Int) : Option (Unit × zS) :=
  if zr x2 then
    if 200 ≤ x2 then
      f_X3_gatherRoomAndNoise_l34 z_fuel σ 0
    else
      if (0 ≤ x2 ∧ x2 < 200) ∧ 0 ≤ (0 : Int) ∧ (0 : Int) ≤ 1 then z_put σ 58 x2 0 fun σ1 =>
        K12 σ1 (x2 + 1)
      else none
  else none
def f_X3_gatherRoomAndNoise_l12 : Nat → zS → Int → Option (Unit × zS)
  | 0, _, _ => none
  | n + 1, σ, x2 => f_X3_gatherRoomAndNoise_b12 (f_X3_gatherRoomAndNoise_l12 n) σ x2
def f_X3_gatherRoomAndNoise (σ : zS) : Option (Unit × zS) :=
  z_put σ 54 4 0 fun σ1 =>
  z_put σ1 54 5 0 fun σ2 =>
  f_X3_gatherRoomAndNoise_l12 z_fuel σ2 0
def f_X3_add_b40 (σ : zS) : Option (Unit × zS) :=
  some ((), σ)
def f_X3_add (σ : zS) (x1 : Int) (x2 : Int) : Option (Unit × zS) :=
  if zr (σ 54 2) then
    if 200 ≤ (σ 54 2) then
      f_X3_add_b40 σ
    else
      if 0 ≤ (σ 54 2) ∧ (σ 54 2) < 200 then z_put σ 55 (σ 54 2) x1 fun σ1 =>
        if 0 ≤ (σ1 54 2) ∧ (σ1 54 2) < 200 then z_put σ1 56 (σ1 54 2) x2 fun σ2 =>
          z_put σ2 54 2 ((σ2 54 2) + 1) fun σ3 =>
          f_X3_add_b40 σ3
        else none
      else none
  else none
def f_X3_addRecorded_b51 (K3 : zS → Int → Int → Option (Unit × zS)) (σ : zS) (x3 : Int) (x4 : Int) : Option (Unit × zS) :=
  K3 σ x3 (x4 + 1)
def f_X3_addRecorded_b48 (K3 : zS → Int → Int → Option (Unit × zS)) (σ : zS) (x3 : Int) (x4 : Int) (s1 : Int) (s2 : Int) : Option (Unit × zS) :=
  z_bind (f_X3_add σ s1 s2) fun _ σ1 =>
  f_X3_addRecorded_b51 K3 σ1 x3 x4
def f_X3_addRecorded_b3 (K3 : zS → Int → Int → Option (Unit × zS)) (σ : zS) (x3 : Int) (x4 : Int) : Option (Unit × zS) :=
  if zr x4 ∧ zr x3 then
    if x3 ≤ x4 then
      some ((), σ)
    else
      z_bind (f_X2_hasFrame 0 σ x4) fun r2 σ1 =>
      if zr r2 then
        if r2 = 0 then
          f_X3_addRecorded_b51 K3 σ1 x3 x4
        else
          z_bind (f_X2_levelAt 0 σ1 x4) fun r4 σ3 =>
          if 0 ≤ x4 ∧ x4 < 200 then
            if zr (σ3 58 x4) then
              if (σ3 58 x4) = 0 then
                f_X3_addRecorded_b48 K3 σ3 x3 x4 x4 r4
              else
                if zr r4 ∧ zr 2 ∧ (2 : Int) ≠ 0 then
                  f_X3_addRecorded_b48 K3 σ3 x3 x4 x4 (r4.tdiv 2)
                else none
            else none
          else none
      else none
  else none
def f_X3_addRecorded_l3 : Nat → zS → Int → Int → Option (Unit × zS)
  | 0, _, _, _ => none
  | n + 1, σ, x3, x4 => f_X3_addRecorded_b3 (f_X3_addRecorded_l3 n) σ x3 x4
def f_X3_addRecorded (σ : zS) (x2 : Int) (x3 : Int) : Option (Unit × zS) :=
  f_X3_addRecorded_l3 z_fuel σ x3 x2
def f_X3_nextRoomFrame_b16 (σ : zS) : Option (Int × zS) :=
  if 0 ≤ (σ 54 5) ∧ (σ 54 5) < 200 then
    z_put σ 54 5 ((σ 54 5) + 1) fun σ1 =>
    some (σ 57 (σ 54 5), σ1)
  else none
def f_X3_nextRoomFrame (σ : zS) : Option (Int × zS) :=
  if zr (σ 54 5) ∧ zr (σ 54 4) then
    if (σ 54 5) < (σ 54 4) then
      f_X3_nextRoomFrame_b16 σ
    else
      z_put σ 54 5 0 fun σ1 =>
      f_X3_nextRoomFrame_b16 σ1
  else none
def f_X3_addPause_b47 (K2 : zS → Int → Int → Option (Unit × zS)) (σ : zS) (x2 : Int) (x3 : Int) : Option (Unit × zS) :=
  K2 σ x2 (x3 + 1)
def f_X3_addPause_b2 (K2 : zS → Int → Int → Option (Unit × zS)) (σ : zS) (x2 : Int) (x3 : Int) : Option (Unit × zS) :=
  if zr x3 ∧ zr x2 then
    if x2 ≤ x3 then
      some ((), σ)
    else
      if zr (σ 54 4) then
        if ¬ (σ 54 4) = 0 then
          z_bind (f_X3_nextRoomFrame σ) fun r2 σ1 =>
          z_bind (f_X2_levelAt 0 σ1 r2) fun r4 σ3 =>
          z_bind (f_X3_add σ3 (1000 + r2) r4) fun _ σ5 =>
          f_X3_addPause_b47 K2 σ5 x2 x3
        else
          z_bind (f_X3_add σ 2000 0) fun _ σ6 =>
          f_X3_addPause_b47 K2 σ6 x2 x3
      else none
  else none
def f_X3_addPause_l2 : Nat → zS → Int → Int → Option (Unit × zS)
  | 0, _, _, _ => none
  | n + 1, σ, x2, x3 => f_X3_addPause_b2 (f_X3_addPause_l2 n) σ x2 x3
def f_X3_addPause (σ : zS) (x2 : Int) : Option (Unit × zS) :=
  f_X3_addPause_l2 z_fuel σ x2 0
def f_X3_build_b15 (K15 : zS → Int → Int → Option (Unit × zS)) (σ : zS) (x3 : Int) (x4 : Int) : Option (Unit × zS) :=
  if zr x4 ∧ zr (σ 48 5) then
    if (σ 48 5) ≤ x4 then
      z_bind (f_X3_addRecorded σ x3 (σ (8 * 0) 1)) fun _ σ1 =>
      some ((), σ1)
    else
      if 0 ≤ x4 ∧ x4 < 20 then
        z_bind (f_X3_addRecorded σ x3 (σ 49 x4)) fun _ σ2 =>
        if 0 ≤ x4 ∧ x4 < 20 then
          z_bind (f_X3_addPause σ2 (σ2 51 x4)) fun _ σ3 =>
          if 0 ≤ x4 ∧ x4 < 20 then
            K15 σ3 (σ3 50 x4) (x4 + 1)
          else none
        else none
      else none
  else none
def f_X3_build_l15 : Nat → zS → Int → Int → Option (Unit × zS)
  | 0, _, _, _ => none
  | n + 1, σ, x3, x4 => f_X3_build_b15 (f_X3_build_l15 n) σ x3 x4
def f_X3_build (σ : zS) : Option (Unit × zS) :=
  z_put σ 54 2 0 fun σ1 =>
  z_bind (f_X3_gatherRoomAndNoise σ1) fun _ σ2 =>
  f_X3_build_l15 z_fuel σ2 0 0
def f_X3_placeOfSource_b2 (K2 : zS → Int → Int → Option (Int × zS)) (σ : zS) (x1 : Int) (x2 : Int) : Option (Int × zS) :=
  if zr x2 ∧ zr (σ 54 2) then
    if (σ 54 2) ≤ x2 then
      some ((-9), σ)
    else
      if 0 ≤ x2 ∧ x2 < 200 then
        if zr (σ 55 x2) ∧ zr x1 then
          if ¬ (σ 55 x2) = x1 then
            K2 σ x1 (x2 + 1)
          else
            some (x2, σ)
        else none
      else none
  else none
def f_X3_placeOfSource_l2 : Nat → zS → Int → Int → Option (Int × zS)
  | 0, _, _, _ => none
  | n + 1, σ, x1, x2 => f_X3_placeOfSource_b2 (f_X3_placeOfSource_l2 n) σ x1 x2
def f_X3_placeOfSource (σ : zS) (x1 : Int) : Option (Int × zS) :=
  f_X3_placeOfSource_l2 z_fuel σ x1 0
def f_X3_stepsGreaterThan_b37 (K4 : zS → Int → Int → Int → Option (Int × zS)) (σ : zS) (x1 : Int) (x2 : Int) (x3 : Int) : Option (Int × zS) :=
  K4 σ x1 x2 (x3 + 1)
def f_X3_stepsGreaterThan_b4 (K4 : zS → Int → Int → Int → Option (Int × zS)) (σ : zS) (x1 : Int) (x2 : Int) (x3 : Int) : Option (Int × zS) :=
  if zr x3 ∧ zr (σ 54 2) then
    if (σ 54 2) ≤ x3 then
      some (x2, σ)
    else
      if 0 ≤ x3 ∧ x3 < 200 then
        if 0 ≤ (x3 - 1) ∧ (x3 - 1) < 200 then
          if zr ((σ 56 x3) - (σ 56 (x3 - 1))) then
            if zr (if 0 ≤ ((σ 56 x3) - (σ 56 (x3 - 1))) then ((σ 56 x3) - (σ 56 (x3 - 1))) else 0 - ((σ 56 x3) - (σ 56 (x3 - 1)))) ∧ zr x1 then
              if (if 0 ≤ ((σ 56 x3) - (σ 56 (x3 - 1))) then ((σ 56 x3) - (σ 56 (x3 - 1))) else 0 - ((σ 56 x3) - (σ 56 (x3 - 1)))) ≤ x1 then
                f_X3_stepsGreaterThan_b37 K4 σ x1 x2 x3
              else
                f_X3_stepsGreaterThan_b37 K4 σ x1 (x2 + 1) x3
            else none
          else none
        else none
      else none
  else none
def f_X3_stepsGreaterThan_l4 : Nat → zS → Int → Int → Int → Option (Int × zS)
  | 0, _, _, _, _ => none
  | n + 1, σ, x1, x2, x3 => f_X3_stepsGreaterThan_b4 (f_X3_stepsGreaterThan_l4 n) σ x1 x2 x3
def f_X3_stepsGreaterThan (σ : zS) (x1 : Int) : Option (Int × zS) :=
  f_X3_stepsGreaterThan_l4 z_fuel σ x1 0 1
def f_X3_sumOfLevels_b4 (K4 : zS → Int → Int → Option (Int × zS)) (σ : zS) (x1 : Int) (x2 : Int) : Option (Int × zS) :=
  if zr x2 ∧ zr (σ 54 2) then
    if (σ 54 2) ≤ x2 then
      some (x1, σ)
    else
      if 0 ≤ x2 ∧ x2 < 200 then
        K4 σ (x1 + (σ 56 x2)) (x2 + 1)
      else none
  else none
def f_X3_sumOfLevels_l4 : Nat → zS → Int → Int → Option (Int × zS)
  | 0, _, _, _ => none
  | n + 1, σ, x1, x2 => f_X3_sumOfLevels_b4 (f_X3_sumOfLevels_l4 n) σ x1 x2
def f_X3_sumOfLevels (σ : zS) : Option (Int × zS) :=
  f_X3_sumOfLevels_l4 z_fuel σ 0 0
def f_X3_longestStretchUpTo_b34 (K7 : zS → Int → Int → Int → Int → Option (Int × zS)) (σ : zS) (x1 : Int) (x2 : Int) (x4 : Int) (s0 : Int) : Option (Int × zS) :=
  if zr x2 ∧ zr s0 then
    K7 σ x1 (if x2 < s0 then s0 else x2) s0 (x4 + 1)
  else none
def f_X3_longestStretchUpTo_b7 (K7 : zS → Int → Int → Int → Int → Option (Int × zS)) (σ : zS) (x1 : Int) (x2 : Int) (x3 : Int) (x4 : Int) : Option (Int × zS) :=
  if zr x4 ∧ zr (σ 54 2) then
    if (σ 54 2) ≤ x4 then
      some (x2, σ)
    else
      if 0 ≤ x4 ∧ x4 < 200 then
        if zr (σ 56 x4) ∧ zr x1 then
          if x1 < (σ 56 x4) then
            f_X3_longestStretchUpTo_b34 K7 σ x1 x2 x4 0
          else
            f_X3_longestStretchUpTo_b34 K7 σ x1 x2 x4 (x3 + 1)
        else none
      else none
  else none
def f_X3_longestStretchUpTo_l7 : Nat → zS → Int → Int → Int → Int → Option (Int × zS)
  | 0, _, _, _, _, _ => none
  | n + 1, σ, x1, x2, x3, x4 => f_X3_longestStretchUpTo_b7 (f_X3_longestStretchUpTo_l7 n) σ x1 x2 x3 x4
def f_X3_longestStretchUpTo (σ : zS) (x1 : Int) : Option (Int × zS) :=
  f_X3_longestStretchUpTo_l7 z_fuel σ x1 0 0 0
def f_X4_isDigit_b17 (σ : zS) (s0 : Int) : Option (Int × zS) :=
  if 0 ≤ s0 ∧ s0 ≤ 1 then some (s0, σ) else none
def f_X4_isDigit_b16 (σ : zS) : Option (Int × zS) :=
  f_X4_isDigit_b17 σ 0
def f_X4_isDigit (σ : zS) (x0 : Int) : Option (Int × zS) :=
  if zr x0 then
    if x0 < 48 then
      f_X4_isDigit_b16 σ
    else
      if zr x0 then
        if 57 < x0 then
          f_X4_isDigit_b16 σ
        else
          f_X4_isDigit_b17 σ 1
      else none
  else none
def f_X4_takesOutside_b38 (σ : zS) : Option (Int × zS) :=
  some (0, σ)
def f_X4_takesOutside (σ : zS) (x1 : Int) : Option (Int × zS) :=
  z_bind (f_X4_isDigit σ x1) fun r2 σ1 =>
  if zr r2 then
    if r2 = 0 then
      if zr x1 then
        if ¬ x1 = 91 then
          f_X4_takesOutside_b38 σ1
        else
          if zr (σ1 (8 * 5) 7) then
            if (σ1 (8 * 5) 7) < 20 then
              z_put σ1 59 1 1 fun σ3 =>
              some (1, σ3)
            else
              f_X4_takesOutside_b38 σ1
          else none
      else none
    else
      z_bind (f_X2_addFrame 5 σ1 (x1 - 48)) fun _ σ4 =>
      some (1, σ4)
  else none
def f_X4_takesKind (σ : zS) (x1 : Int) : Option (Int × zS) :=
  z_put σ 59 4 0 fun σ1 =>
  z_put σ1 59 5 0 fun σ2 =>
  z_put σ2 59 1 3 fun σ3 =>
  if zr x1 then
    if x1 = 98 then
      z_put σ3 59 2 1 fun σ8 =>
      some (1, σ8)
    else
      if x1 = 102 then
        z_put σ3 59 2 0 fun σ6 =>
        z_put σ6 59 1 2 fun σ7 =>
        some (1, σ7)
      else
        if x1 = 110 then
          z_put σ3 59 2 3 fun σ5 =>
          some (1, σ5)
        else
          if x1 = 114 then
            z_put σ3 59 2 2 fun σ4 =>
            some (1, σ4)
          else
            some (0, σ3)
  else none
def f_X4_takesColon (σ : zS) (x1 : Int) : Option (Int × zS) :=
  if zr x1 then
    if x1 = 58 then
      z_put σ 59 3 (σ (8 * 5) 1) fun σ1 =>
      z_put σ1 59 1 4 fun σ2 =>
      some (1, σ2)
    else
      some (0, σ)
  else none
def f_X4_takesDoubt_b87 (σ : zS) : Option (Int × zS) :=
  some (1, σ)
def f_X4_takesDoubt_b58 (σ : zS) : Option (Int × zS) :=
  some (0, σ)
def f_X4_takesDoubt_b43 (σ : zS) (x1 : Int) (x2 : Int) : Option (Int × zS) :=
  if zr (σ 59 5) then
    if (σ 59 5) = 0 then
      f_X4_takesDoubt_b58 σ
    else
      z_bind (f_X4_takesColon σ x1) fun r2 σ1 =>
      if zr r2 then
        if ¬ r2 = 0 then
          if zr (σ1 59 4) then
            if (σ1 59 4) ≤ 100 then
              f_X4_takesDoubt_b87 σ1
            else
              if zr (σ1 59 6) then
                if ¬ (σ1 59 6) = (-1) then
                  f_X4_takesDoubt_b87 σ1
                else
                  z_put σ1 59 6 (x2 - (σ1 59 5)) fun σ3 =>
                  f_X4_takesDoubt_b87 σ3
              else none
          else none
        else
          f_X4_takesDoubt_b58 σ1
      else none
  else none
def f_X4_takesDoubt (σ : zS) (x1 : Int) (x2 : Int) : Option (Int × zS) :=
  z_bind (f_X4_isDigit σ x1) fun r2 σ1 =>
  if zr r2 then
    if r2 = 0 then
      f_X4_takesDoubt_b43 σ1 x1 x2
    else
      if zr (σ1 59 5) then
        if 3 ≤ (σ1 59 5) then
          f_X4_takesDoubt_b43 σ1 x1 x2
        else
          z_put σ1 59 4 ((10 * (σ1 59 4)) + (x1 - 48)) fun σ3 =>
          z_put σ3 59 5 ((σ3 59 5) + 1) fun σ4 =>
          some (1, σ4)
      else none
  else none
def f_X4_takesInside_b40 (σ : zS) : Option (Int × zS) :=
  some (0, σ)
def f_X4_takesInside (σ : zS) (x1 : Int) : Option (Int × zS) :=
  z_bind (f_X4_isDigit σ x1) fun r2 σ1 =>
  if zr r2 then
    if r2 = 0 then
      if zr x1 then
        if ¬ x1 = 93 then
          f_X4_takesInside_b40 σ1
        else
          if zr (σ1 (8 * 5) 1) ∧ zr (σ1 59 3) then
            if ¬ (σ1 (8 * 5) 1) = (σ1 59 3) then
              z_bind (f_X2_addMark 5 σ1 (σ1 59 2) (σ1 59 3) (σ1 (8 * 5) 1) (σ1 59 4)) fun r4 σ3 =>
              z_put σ3 59 1 0 fun σ5 =>
              some (1, σ5)
            else
              f_X4_takesInside_b40 σ1
          else none
      else none
    else
      z_bind (f_X2_addFrame 5 σ1 (x1 - 48)) fun _ σ6 =>
      some (1, σ6)
  else none
def f_X4_takes (σ : zS) (x1 : Int) (x2 : Int) : Option (Int × zS) :=
  if zr (σ 59 1) then
    if (σ 59 1) = 0 then
      z_bind (f_X4_takesOutside σ x1) fun r10 σ9 =>
      if 0 ≤ r10 ∧ r10 ≤ 1 then some (r10, σ9) else none
    else
      if (σ 59 1) = 1 then
        z_bind (f_X4_takesKind σ x1) fun r8 σ7 =>
        if 0 ≤ r8 ∧ r8 ≤ 1 then some (r8, σ7) else none
      else
        if (σ 59 1) = 2 then
          z_bind (f_X4_takesDoubt σ x1 x2) fun r6 σ5 =>
          if 0 ≤ r6 ∧ r6 ≤ 1 then some (r6, σ5) else none
        else
          if (σ 59 1) = 3 then
            z_bind (f_X4_takesColon σ x1) fun r4 σ3 =>
            if 0 ≤ r4 ∧ r4 ≤ 1 then some (r4, σ3) else none
          else
            z_bind (f_X4_takesInside σ x1) fun r2 σ1 =>
            if 0 ≤ r2 ∧ r2 ≤ 1 then some (r2, σ1) else none
  else none
def f_X4_parse_b75 (σ : zS) (s0 : Int) : Option (Int × zS) :=
  some (s0, σ)
def f_X4_parse_b49 (σ : zS) (x2 : Int) : Option (Int × zS) :=
  if zr (σ 59 1) then
    if (σ 59 1) = 0 then
      if zr (σ 59 6) then
        if ¬ (σ 59 6) = (-1) then
          f_X4_parse_b75 σ (σ 59 6)
        else
          f_X4_parse_b75 σ (-9)
      else none
    else
      some (x2, σ)
  else none
def f_X4_parse_b19 (K19 : zS → Int → Int → Option (Int × zS)) (σ : zS) (x2 : Int) (x3 : Int) : Option (Int × zS) :=
  if zr x3 ∧ zr x2 then
    if x2 ≤ x3 then
      f_X4_parse_b49 σ x2
    else
      if zr x3 then
        if 120 ≤ x3 then
          f_X4_parse_b49 σ x2
        else
          if 0 ≤ x3 ∧ x3 < 120 then
            z_bind (f_X4_takes σ (σ 63 x3) x3) fun r2 σ1 =>
            if zr r2 then
              if ¬ r2 = 0 then
                K19 σ1 x2 (x3 + 1)
              else
                some (x3, σ1)
            else none
          else none
      else none
  else none
def f_X4_parse_l19 : Nat → zS → Int → Int → Option (Int × zS)
  | 0, _, _, _ => none
  | n + 1, σ, x2, x3 => f_X4_parse_b19 (f_X4_parse_l19 n) σ x2 x3
def f_X4_parse (σ : zS) (x2 : Int) : Option (Int × zS) :=
  z_bind (f_X2_removeSound 5 σ) fun _ σ1 =>
  z_put σ1 59 1 0 fun σ2 =>
  z_put σ2 59 6 (-1) fun σ3 =>
  f_X4_parse_l19 z_fuel σ3 x2 0
def f_X5_type_b12 (σ : zS) : Option (Int × zS) :=
  some ((-1), σ)
def f_X5_type (σ : zS) (x1 : Int) : Option (Int × zS) :=
  if zr x1 then
    if x1 < 32 then
      f_X5_type_b12 σ
    else
      if zr x1 then
        if x1 ≤ 126 then
          if zr (σ 62 1) then
            if (σ 62 1) < 120 then
              if 0 ≤ (σ 62 1) ∧ (σ 62 1) < 120 then z_put σ 63 (σ 62 1) x1 fun σ1 =>
                z_put σ1 62 1 ((σ1 62 1) + 1) fun σ2 =>
                some (σ2 62 1, σ2)
              else none
            else
              some ((-3), σ)
          else none
        else
          f_X5_type_b12 σ
      else none
  else none
def f_X5_clear (σ : zS) : Option (Int × zS) :=
  z_put σ 62 1 0 fun σ1 =>
  some (σ 62 1, σ1)
def f_X5_read (σ : zS) : Option (Int × zS) :=
  z_bind (f_X4_parse σ (σ 62 1)) fun r2 σ1 =>
  if zr r2 then
    if r2 = (-9) then
      z_bind (f_X1_keep 0 σ1) fun _ σ3 =>
      z_bind (f_X2_copySound 0 5 σ3) fun _ σ4 =>
      z_put σ4 62 1 0 fun σ5 =>
      some (σ5 (8 * 0) 1, σ5)
    else
      some ((-100) - r2, σ1)
  else none
def f_X5_append_b55 (K55 : zS → Int → Int → Int → Option (Int × zS)) (σ : zS) (x1 : Int) (x2 : Int) (x3 : Int) : Option (Int × zS) :=
  if zr x3 ∧ zr x2 then
    if x2 ≤ x3 then
      some (σ (8 * 0) 1, σ)
    else
      z_bind (f_X2_addFrame 0 σ x1) fun _ σ1 =>
      K55 σ1 x1 x2 (x3 + 1)
  else none
def f_X5_append_l55 : Nat → zS → Int → Int → Int → Option (Int × zS)
  | 0, _, _, _, _ => none
  | n + 1, σ, x1, x2, x3 => f_X5_append_b55 (f_X5_append_l55 n) σ x1 x2 x3
def f_X5_append_b22 (σ : zS) : Option (Int × zS) :=
  some ((-1), σ)
def f_X5_append (σ : zS) (x1 : Int) (x2 : Int) : Option (Int × zS) :=
  if zr x1 then
    if x1 < 0 then
      f_X5_append_b22 σ
    else
      if zr x1 then
        if 9 < x1 then
          f_X5_append_b22 σ
        else
          if zr x2 then
            if x2 < 1 then
              f_X5_append_b22 σ
            else
              if zr x2 then
                if x2 ≤ 200 then
                  if zr ((σ (8 * 0) 1) + x2) then
                    if ((σ (8 * 0) 1) + x2) ≤ 200 then
                      z_bind (f_X1_keep 0 σ) fun _ σ1 =>
                      f_X5_append_l55 z_fuel σ1 x1 x2 0
                    else
                      some ((-3), σ)
                  else none
                else
                  f_X5_append_b22 σ
              else none
          else none
      else none
  else none
def f_X5_babble_b48 (K48 : zS → Int → Int → Int → Option (Int × zS)) (σ : zS) (x2 : Int) (x3 : Int) (x4 : Int) : Option (Int × zS) :=
  if zr x4 ∧ zr x2 then
    if x2 ≤ x4 then
      some (σ (8 * 0) 1, σ)
    else
      if zr (z_ushr ((1103515245 * x3) + 12345) 16) ∧ zr 10 ∧ (10 : Int) ≠ 0 then
        z_bind (f_X2_addFrame 0 σ ((z_ushr ((1103515245 * x3) + 12345) 16).tmod 10)) fun _ σ1 =>
        K48 σ1 x2 ((1103515245 * x3) + 12345) (x4 + 1)
      else none
  else none
def f_X5_babble_l48 : Nat → zS → Int → Int → Int → Option (Int × zS)
  | 0, _, _, _, _ => none
  | n + 1, σ, x2, x3, x4 => f_X5_babble_b48 (f_X5_babble_l48 n) σ x2 x3 x4
def f_X5_babble_b12 (σ : zS) : Option (Int × zS) :=
  some ((-1), σ)
def f_X5_babble (σ : zS) (x1 : Int) (x2 : Int) : Option (Int × zS) :=
  if zr x2 then
    if x2 < 1 then
      f_X5_babble_b12 σ
    else
      if zr x2 then
        if x2 ≤ 200 then
          if zr ((σ (8 * 0) 1) + x2) then
            if ((σ (8 * 0) 1) + x2) ≤ 200 then
              z_bind (f_X1_keep 0 σ) fun _ σ1 =>
              f_X5_babble_l48 z_fuel σ1 x2 x1 0
            else
              some ((-3), σ)
          else none
        else
          f_X5_babble_b12 σ
      else none
  else none
def f_X5_mark_b43 (σ : zS) : Option (Int × zS) :=
  some ((-1), σ)
def f_X5_mark_b21 (σ : zS) : Option (Int × zS) :=
  some ((-1), σ)
def f_X5_mark (σ : zS) (x1 : Int) (x2 : Int) (x3 : Int) (x4 : Int) : Option (Int × zS) :=
  if zr x1 then
    if x1 < 0 then
      f_X5_mark_b21 σ
    else
      if zr x1 then
        if 3 < x1 then
          f_X5_mark_b21 σ
        else
          if zr x4 then
            if x4 < 0 then
              f_X5_mark_b21 σ
            else
              if zr x4 then
                if x4 ≤ 100 then
                  if zr x2 then
                    if x2 < 0 then
                      f_X5_mark_b43 σ
                    else
                      if zr x3 ∧ zr (σ (8 * 0) 1) then
                        if (σ (8 * 0) 1) < x3 then
                          f_X5_mark_b43 σ
                        else
                          if zr x3 ∧ zr x2 then
                            if x2 < x3 then
                              z_bind (f_X2_overlaps 0 σ x2 x3) fun r2 σ1 =>
                              if zr r2 then
                                if r2 = 0 then
                                  if zr (σ1 (8 * 0) 7) then
                                    if (σ1 (8 * 0) 7) < 20 then
                                      z_bind (f_X1_keep 0 σ1) fun _ σ3 =>
                                      z_bind (f_X2_addMark 0 σ3 x1 x2 x3 x4) fun r5 σ4 =>
                                      some (r5, σ4)
                                    else
                                      some ((-3), σ1)
                                  else none
                                else
                                  some ((-2), σ1)
                              else none
                            else
                              f_X5_mark_b43 σ
                          else none
                      else none
                  else none
                else
                  f_X5_mark_b21 σ
              else none
          else none
      else none
  else none
def f_X5_unmark (σ : zS) (x1 : Int) : Option (Int × zS) :=
  z_bind (f_X2_hasMark 0 σ x1) fun r2 σ1 =>
  if zr r2 then
    if ¬ r2 = 0 then
      z_bind (f_X1_keep 0 σ1) fun _ σ3 =>
      z_bind (f_X2_removeMark 0 σ3 x1) fun _ σ4 =>
      some (σ4 (8 * 0) 7, σ4)
    else
      some ((-1), σ1)
  else none
def f_X5_hold_b41 (σ : zS) (x1 : Int) (x2 : Int) (s0 : Int) : Option (Int × zS) :=
  if (0 ≤ x1 ∧ x1 < 20) ∧ 0 ≤ x2 ∧ x2 ≤ 1 then z_put σ (8 * 0 + 6) x1 x2 fun σ1 =>
    some (s0, σ1)
  else none
def f_X5_hold (σ : zS) (x1 : Int) (x2 : Int) : Option (Int × zS) :=
  z_bind (f_X2_hasMark 0 σ x1) fun r2 σ1 =>
  if zr r2 then
    if ¬ r2 = 0 then
      z_bind (f_X1_keep 0 σ1) fun _ σ3 =>
      if 0 ≤ x1 ∧ x1 < 20 then
        if zr (σ3 (8 * 0 + 6) x1) then
          if (σ3 (8 * 0 + 6) x1) = 0 then
            f_X5_hold_b41 σ3 x1 x2 0
          else
            f_X5_hold_b41 σ3 x1 x2 1
        else none
      else none
    else
      some ((-1), σ1)
  else none
def f_X5_setting_b51 (σ : zS) (s0 : Int) : Option (Int × zS) :=
  some (s0, σ)
def f_X5_setting_b10 (σ : zS) : Option (Int × zS) :=
  some ((-1), σ)
def f_X5_setting (σ : zS) (x1 : Int) : Option (Int × zS) :=
  if zr x1 then
    if x1 < 0 then
      f_X5_setting_b10 σ
    else
      if zr x1 then
        if x1 ≤ 8 then
          if zr x1 then
            if 7 ≤ x1 then
              if zr x1 then
                if ¬ x1 = 7 then
                  f_X5_setting_b51 σ (σ (8 * 0) 7)
                else
                  f_X5_setting_b51 σ (σ (8 * 0) 1)
              else none
            else
              if 0 ≤ x1 ∧ x1 < 7 then
                some (σ (8 * 0 + 7) x1, σ)
              else none
          else none
        else
          f_X5_setting_b10 σ
      else none
  else none
def f_X5_currentCuts (σ : zS) : Option (Unit × zS) :=
  if 0 ≤ (0 : Int) ∧ (0 : Int) < 7 then
    if 0 ≤ (2 : Int) ∧ (2 : Int) < 7 then
      z_bind (f_X0_find σ (σ (8 * 0 + 7) 0) (σ (8 * 0 + 7) 2)) fun _ σ1 =>
      some ((), σ1)
    else none
  else none
def f_X5_about_b20 (σ : zS) : Option (Int × zS) :=
  some ((-1), σ)
def f_X5_about (σ : zS) (x1 : Int) (x2 : Int) : Option (Int × zS) :=
  z_bind (f_X2_hasMark 0 σ x1) fun r2 σ1 =>
  if zr r2 then
    if r2 = 0 then
      f_X5_about_b20 σ1
    else
      if zr x2 then
        if x2 < 0 then
          f_X5_about_b20 σ1
        else
          if zr x2 then
            if x2 ≤ 5 then
              if zr x2 then
                if ¬ x2 = 5 then
                  z_bind (f_X2_numberOfMark 0 σ1 x1 x2) fun r4 σ3 =>
                  some (r4, σ3)
                else
                  z_bind (f_X5_currentCuts σ1) fun _ σ5 =>
                  z_bind (f_X0_cutOfMark σ5 x1) fun r7 σ6 =>
                  some (r7, σ6)
              else none
            else
              f_X5_about_b20 σ1
          else none
      else none
  else none
def f_X5_level (σ : zS) (x1 : Int) : Option (Int × zS) :=
  z_bind (f_X2_hasFrame 0 σ x1) fun r2 σ1 =>
  if zr r2 then
    if ¬ r2 = 0 then
      z_bind (f_X2_levelAt 0 σ1 x1) fun r4 σ3 =>
      some (r4, σ3)
    else
      some ((-1), σ1)
  else none
def f_X5_cuts (σ : zS) : Option (Int × zS) :=
  z_bind (f_X5_currentCuts σ) fun _ σ1 =>
  some (σ1 48 5, σ1)
def f_X5_cut_b26 (σ : zS) : Option (Int × zS) :=
  some ((-1), σ)
def f_X5_cut (σ : zS) (x1 : Int) (x2 : Int) : Option (Int × zS) :=
  z_bind (f_X5_currentCuts σ) fun _ σ1 =>
  if zr x1 then
    if x1 < 0 then
      f_X5_cut_b26 σ1
    else
      if zr x1 ∧ zr (σ1 48 5) then
        if (σ1 48 5) ≤ x1 then
          f_X5_cut_b26 σ1
        else
          if zr x2 then
            if x2 < 0 then
              f_X5_cut_b26 σ1
            else
              if zr x2 then
                if x2 ≤ 4 then
                  z_bind (f_X0_numberOfCut σ1 x1 x2) fun r3 σ2 =>
                  some (r3, σ2)
                else
                  f_X5_cut_b26 σ1
              else none
          else none
      else none
  else none
def f_X5_sum (σ : zS) (x1 : Int) : Option (Int × zS) :=
  z_bind (f_X5_currentCuts σ) fun _ σ1 =>
  if zr x1 then
    if x1 = 0 then
      z_bind (f_X0_cutFrames σ1) fun r7 σ6 =>
      some (r7, σ6)
    else
      if x1 = 1 then
        z_bind (f_X0_pauseFrames σ1) fun r5 σ4 =>
        some (r5, σ4)
      else
        if x1 = 2 then
          z_bind (f_X0_roughCuts σ1) fun r3 σ2 =>
          some (r3, σ2)
        else
          some ((-1), σ1)
  else none
def f_X5_bestWindow_b54 (K7 : zS → Int → Int → Int → Option (Int × zS)) (σ : zS) (x1 : Int) (x2 : Int) (x3 : Int) : Option (Int × zS) :=
  K7 σ x1 x2 (x3 + 1)
def f_X5_bestWindow_b7 (K7 : zS → Int → Int → Int → Option (Int × zS)) (σ : zS) (x1 : Int) (x2 : Int) (x3 : Int) : Option (Int × zS) :=
  if zr x3 then
    if 20 < x3 then
      some (x1, σ)
    else
      if 0 ≤ (0 : Int) ∧ (0 : Int) < 7 then
        z_bind (f_X0_find σ (σ (8 * 0 + 7) 0) x3) fun _ σ1 =>
        z_bind (f_X0_roughCuts σ1) fun r3 σ2 =>
        if zr r3 ∧ zr x2 then
          if x2 ≤ r3 then
            f_X5_bestWindow_b54 K7 σ2 x1 x2 x3
          else
            f_X5_bestWindow_b54 K7 σ2 x3 r3 x3
        else none
      else none
  else none
def f_X5_bestWindow_l7 : Nat → zS → Int → Int → Int → Option (Int × zS)
  | 0, _, _, _, _ => none
  | n + 1, σ, x1, x2, x3 => f_X5_bestWindow_b7 (f_X5_bestWindow_l7 n) σ x1 x2 x3
def f_X5_bestWindow (σ : zS) : Option (Int × zS) :=
  f_X5_bestWindow_l7 z_fuel σ 0 21 0
def f_X5_greatestDoubt_b53 (K9 : zS → Int → Int → Option (Int × zS)) (σ : zS) (x1 : Int) (x2 : Int) : Option (Int × zS) :=
  z_bind (f_X0_cutFrames σ) fun r2 σ1 =>
  if zr r2 ∧ zr x1 then
    if x1 < r2 then
      K9 σ1 x1 (x2 + (-1))
    else
      some (x2, σ1)
  else none
def f_X5_greatestDoubt_b32 (K9 : zS → Int → Int → Option (Int × zS)) (σ : zS) (x1 : Int) (x2 : Int) : Option (Int × zS) :=
  if 0 ≤ (2 : Int) ∧ (2 : Int) < 7 then
    z_bind (f_X0_find σ x2 (σ (8 * 0 + 7) 2)) fun _ σ1 =>
    f_X5_greatestDoubt_b53 K9 σ1 x1 x2
  else none
def f_X5_greatestDoubt_b9 (K9 : zS → Int → Int → Option (Int × zS)) (σ : zS) (x1 : Int) (x2 : Int) : Option (Int × zS) :=
  if zr x2 then
    if x2 < 0 then
      some ((-9), σ)
    else
      if zr x2 then
        if x2 = 100 then
          f_X5_greatestDoubt_b32 K9 σ x1 x2
        else
          z_bind (f_X2_hasFillerOfDoubt 0 σ (x2 + 1)) fun r2 σ1 =>
          if zr r2 then
            if r2 = 0 then
              f_X5_greatestDoubt_b53 K9 σ1 x1 x2
            else
              f_X5_greatestDoubt_b32 K9 σ1 x1 x2
          else none
      else none
  else none
def f_X5_greatestDoubt_l9 : Nat → zS → Int → Int → Option (Int × zS)
  | 0, _, _, _ => none
  | n + 1, σ, x1, x2 => f_X5_greatestDoubt_b9 (f_X5_greatestDoubt_l9 n) σ x1 x2
def f_X5_greatestDoubt (σ : zS) (x1 : Int) : Option (Int × zS) :=
  if zr x1 then
    if 0 ≤ x1 then
      f_X5_greatestDoubt_l9 z_fuel σ x1 100
    else
      some ((-1), σ)
  else none
def f_X5_currentResult (σ : zS) : Option (Unit × zS) :=
  if 0 ≤ (0 : Int) ∧ (0 : Int) < 7 then
    if 0 ≤ (2 : Int) ∧ (2 : Int) < 7 then
      z_bind (f_X0_find σ (σ (8 * 0 + 7) 0) (σ (8 * 0 + 7) 2)) fun _ σ1 =>
      z_bind (f_X3_build σ1) fun _ σ2 =>
      some ((), σ2)
    else none
  else none
def f_X5_length (σ : zS) : Option (Int × zS) :=
  z_bind (f_X5_currentResult σ) fun _ σ1 =>
  some (σ1 54 2, σ1)
def f_X5_heard_b47 (σ : zS) (s0 : Int) : Option (Int × zS) :=
  some (s0, σ)
def f_X5_heard_b26 (σ : zS) : Option (Int × zS) :=
  some ((-1), σ)
def f_X5_heard (σ : zS) (x1 : Int) (x2 : Int) : Option (Int × zS) :=
  z_bind (f_X5_currentResult σ) fun _ σ1 =>
  if zr x1 then
    if x1 < 0 then
      f_X5_heard_b26 σ1
    else
      if zr x1 ∧ zr (σ1 54 2) then
        if (σ1 54 2) ≤ x1 then
          f_X5_heard_b26 σ1
        else
          if zr x2 then
            if x2 < 0 then
              f_X5_heard_b26 σ1
            else
              if zr x2 then
                if x2 ≤ 1 then
                  if zr x2 then
                    if ¬ x2 = 0 then
                      if 0 ≤ x1 ∧ x1 < 200 then
                        f_X5_heard_b47 σ1 (σ1 56 x1)
                      else none
                    else
                      if 0 ≤ x1 ∧ x1 < 200 then
                        f_X5_heard_b47 σ1 (σ1 55 x1)
                      else none
                  else none
                else
                  f_X5_heard_b26 σ1
              else none
          else none
      else none
  else none
def f_X5_where (σ : zS) (x1 : Int) : Option (Int × zS) :=
  z_bind (f_X2_hasFrame 0 σ x1) fun r2 σ1 =>
  if zr r2 then
    if ¬ r2 = 0 then
      z_bind (f_X5_currentResult σ1) fun _ σ3 =>
      z_bind (f_X3_placeOfSource σ3 x1) fun r5 σ4 =>
      some (r5, σ4)
    else
      some ((-1), σ1)
  else none
def f_X5_clicks_b10 (σ : zS) : Option (Int × zS) :=
  some ((-1), σ)
def f_X5_clicks (σ : zS) (x1 : Int) : Option (Int × zS) :=
  if zr x1 then
    if x1 < 0 then
      f_X5_clicks_b10 σ
    else
      if zr x1 then
        if x1 ≤ 9 then
          z_bind (f_X5_currentResult σ) fun _ σ1 =>
          z_bind (f_X3_stepsGreaterThan σ1 x1) fun r3 σ2 =>
          some (r3, σ2)
        else
          f_X5_clicks_b10 σ
      else none
  else none
def f_X5_silence (σ : zS) : Option (Int × zS) :=
  z_bind (f_X5_currentResult σ) fun _ σ1 =>
  if 0 ≤ (1 : Int) ∧ (1 : Int) < 7 then
    z_bind (f_X3_longestStretchUpTo σ1 (σ1 (8 * 0 + 7) 1)) fun r3 σ2 =>
    some (r3, σ2)
  else none
def f_X5_undo (σ : zS) : Option (Int × zS) :=
  if zr (σ 60 1) then
    if ¬ (σ 60 1) = 0 then
      z_bind (f_X1_restoreLatest 0 σ) fun _ σ1 =>
      some (σ1 60 1, σ1)
    else
      some ((-9), σ)
  else none
def f_X5_withMarks_b21 (K6 : zS → Int → Int → Option (Int × zS)) (K21 : zS → Int → Int → Int → Option (Int × zS)) (σ : zS) (y4 : Int) (x6 : Int) (x7 : Int) : Option (Int × zS) :=
  if zr x7 then
    if 5 ≤ x7 then
      z_bind (f_X0_cutOfMark σ x6) fun r2 σ1 =>
      if zr r2 then
        K6 σ1 ((31 * y4) + r2) (x6 + 1)
      else none
    else
      z_bind (f_X2_numberOfMark 0 σ x6 x7) fun r4 σ3 =>
      if zr r4 then
        K21 σ3 ((31 * y4) + r4) x6 (x7 + 1)
      else none
  else none
def f_X5_withMarks_l21 (K6 : zS → Int → Int → Option (Int × zS)) : Nat → zS → Int → Int → Int → Option (Int × zS)
  | 0, _, _, _, _ => none
  | n + 1, σ, y4, x6, x7 => f_X5_withMarks_b21 K6 (f_X5_withMarks_l21 K6 n) σ y4 x6 x7
def f_X5_withMarks_b6 (K6 : zS → Int → Int → Option (Int × zS)) (σ : zS) (y4 : Int) (x6 : Int) : Option (Int × zS) :=
  if zr x6 ∧ zr (σ (8 * 0) 7) then
    if (σ (8 * 0) 7) ≤ x6 then
      some (y4, σ)
    else
      f_X5_withMarks_l21 K6 z_fuel σ y4 x6 0
  else none
def f_X5_withMarks_l6 : Nat → zS → Int → Int → Option (Int × zS)
  | 0, _, _, _ => none
  | n + 1, σ, y4, x6 => f_X5_withMarks_b6 (f_X5_withMarks_l6 n) σ y4 x6
def f_X5_withMarks (σ : zS) (y1 : Int) : Option (Int × zS) :=
  f_X5_withMarks_l6 z_fuel σ y1 0
def f_X5_withCuts_b28 (K16 : zS → Int → Int → Option (Int × zS)) (K28 : zS → Int → Int → Int → Option (Int × zS)) (σ : zS) (y4 : Int) (x6 : Int) (x7 : Int) : Option (Int × zS) :=
  if zr x7 then
    if 5 ≤ x7 then
      K16 σ y4 (x6 + 1)
    else
      z_bind (f_X0_numberOfCut σ x6 x7) fun r2 σ1 =>
      if zr r2 then
        K28 σ1 ((31 * y4) + r2) x6 (x7 + 1)
      else none
  else none
def f_X5_withCuts_l28 (K16 : zS → Int → Int → Option (Int × zS)) : Nat → zS → Int → Int → Int → Option (Int × zS)
  | 0, _, _, _, _ => none
  | n + 1, σ, y4, x6, x7 => f_X5_withCuts_b28 K16 (f_X5_withCuts_l28 K16 n) σ y4 x6 x7
def f_X5_withCuts_b16 (K16 : zS → Int → Int → Option (Int × zS)) (σ : zS) (y4 : Int) (x6 : Int) : Option (Int × zS) :=
  if zr x6 ∧ zr (σ 48 5) then
    if (σ 48 5) ≤ x6 then
      some (y4, σ)
    else
      f_X5_withCuts_l28 K16 z_fuel σ y4 x6 0
  else none
def f_X5_withCuts_l16 : Nat → zS → Int → Int → Option (Int × zS)
  | 0, _, _, _ => none
  | n + 1, σ, y4, x6 => f_X5_withCuts_b16 (f_X5_withCuts_l16 n) σ y4 x6
def f_X5_withCuts (σ : zS) (y1 : Int) : Option (Int × zS) :=
  if zr (σ 48 5) then
    f_X5_withCuts_l16 z_fuel σ ((31 * y1) + (σ 48 5)) 0
  else none
def f_X5_withResult_b16 (K16 : zS → Int → Int → Option (Int × zS)) (σ : zS) (y4 : Int) (x6 : Int) : Option (Int × zS) :=
  if zr x6 ∧ zr (σ 54 2) then
    if (σ 54 2) ≤ x6 then
      some (y4, σ)
    else
      if 0 ≤ x6 ∧ x6 < 200 then
        if zr (σ 55 x6) then
          if 0 ≤ x6 ∧ x6 < 200 then
            if zr (σ 56 x6) then
              K16 σ ((31 * ((31 * y4) + (σ 55 x6))) + (σ 56 x6)) (x6 + 1)
            else none
          else none
        else none
      else none
  else none
def f_X5_withResult_l16 : Nat → zS → Int → Int → Option (Int × zS)
  | 0, _, _, _ => none
  | n + 1, σ, y4, x6 => f_X5_withResult_b16 (f_X5_withResult_l16 n) σ y4 x6
def f_X5_withResult (σ : zS) (y1 : Int) : Option (Int × zS) :=
  if zr (σ 54 2) then
    f_X5_withResult_l16 z_fuel σ ((31 * y1) + (σ 54 2)) 0
  else none
def f_X5_fingerprint_b33 (K33 : zS → Int → Int → Option (Int × zS)) (σ : zS) (y1 : Int) (x3 : Int) : Option (Int × zS) :=
  if zr x3 ∧ zr (σ (8 * 0) 1) then
    if (σ (8 * 0) 1) ≤ x3 then
      z_bind (f_X5_currentCuts σ) fun _ σ1 =>
      z_bind (f_X5_withMarks σ1 y1) fun r3 σ2 =>
      z_bind (f_X5_withCuts σ2 r3) fun r5 σ4 =>
      z_bind (f_X5_currentResult σ4) fun _ σ6 =>
      z_bind (f_X5_withResult σ6 r5) fun r8 σ7 =>
      some (r8, σ7)
    else
      if 0 ≤ x3 ∧ x3 < 200 then
        if zr (σ (8 * 0 + 1) x3) then
          K33 σ ((31 * y1) + (σ (8 * 0 + 1) x3)) (x3 + 1)
        else none
      else none
  else none
def f_X5_fingerprint_l33 : Nat → zS → Int → Int → Option (Int × zS)
  | 0, _, _, _ => none
  | n + 1, σ, y1, x3 => f_X5_fingerprint_b33 (f_X5_fingerprint_l33 n) σ y1 x3
def f_X5_fingerprint_b6 (K6 : zS → Int → Int → Option (Int × zS)) (σ : zS) (y1 : Int) (x3 : Int) : Option (Int × zS) :=
  if zr x3 then
    if 8 < x3 then
      f_X5_fingerprint_l33 z_fuel σ y1 0
    else
      z_bind (f_X5_setting σ x3) fun r2 σ1 =>
      if zr r2 then
        K6 σ1 ((31 * y1) + r2) (x3 + 1)
      else none
  else none
def f_X5_fingerprint_l6 : Nat → zS → Int → Int → Option (Int × zS)
  | 0, _, _, _ => none
  | n + 1, σ, y1, x3 => f_X5_fingerprint_b6 (f_X5_fingerprint_l6 n) σ y1 x3
def f_X5_fingerprint (σ : zS) : Option (Int × zS) :=
  f_X5_fingerprint_l6 z_fuel σ 151 0
def f_X6_in_b15 (σ : zS) (s0 : Int) : Option (Int × zS) :=
  if 0 ≤ s0 ∧ s0 ≤ 1 then some (s0, σ) else none
def f_X6_in_b14 (σ : zS) : Option (Int × zS) :=
  f_X6_in_b15 σ 0
def f_X6_in (σ : zS) (x0 : Int) (x1 : Int) (x2 : Int) : Option (Int × zS) :=
  if zr x0 ∧ zr x1 then
    if x0 < x1 then
      f_X6_in_b14 σ
    else
      if zr x0 ∧ zr x2 then
        if x2 < x0 then
          f_X6_in_b14 σ
        else
          f_X6_in_b15 σ 1
      else none
  else none
def f_X6_act_b51 (K51 : zS → Int → Option (Unit × zS)) (σ : zS) (x1 : Int) : Option (Unit × zS) :=
  if zr x1 then
    if 320 ≤ x1 then
      z_put σ 0 2 ((σ 0 2) + 1) fun σ1 =>
      some ((), σ1)
    else
      if 0 ≤ x1 ∧ x1 < 320 then
        if 0 ≤ ((320 * (σ 0 2)) + x1) ∧ ((320 * (σ 0 2)) + x1) < 1280 then z_put σ 2 ((320 * (σ 0 2)) + x1) (σ 1 x1) fun σ2 =>
          K51 σ2 (x1 + 1)
        else none
      else none
  else none
def f_X6_act_l51 : Nat → zS → Int → Option (Unit × zS)
  | 0, _, _ => none
  | n + 1, σ, x1 => f_X6_act_b51 (f_X6_act_l51 n) σ x1
def f_X6_act_b49 (σ : zS) : Option (Unit × zS) :=
  f_X6_act_l51 z_fuel σ 0
def f_X6_act_b10 (K10 : zS → Int → Option (Unit × zS)) (σ : zS) (x1 : Int) : Option (Unit × zS) :=
  if zr x1 then
    if 960 ≤ x1 then
      z_put σ 0 2 ((σ 0 2) - 1) fun σ1 =>
      f_X6_act_b49 σ1
    else
      if 0 ≤ (x1 + 320) ∧ (x1 + 320) < 1280 then
        if 0 ≤ x1 ∧ x1 < 1280 then z_put σ 2 x1 (σ 2 (x1 + 320)) fun σ2 =>
          K10 σ2 (x1 + 1)
        else none
      else none
  else none
def f_X6_act_l10 : Nat → zS → Int → Option (Unit × zS)
  | 0, _, _ => none
  | n + 1, σ, x1 => f_X6_act_b10 (f_X6_act_l10 n) σ x1
def f_X6_act (σ : zS) : Option (Unit × zS) :=
  if zr (σ 0 2) then
    if ¬ (σ 0 2) = 4 then
      f_X6_act_b49 σ
    else
      f_X6_act_l10 z_fuel σ 0
  else none
def f_X6_levelAt_b30 (σ : zS) (s0 : Int) : Option (Int × zS) :=
  some (s0, σ)
def f_X6_levelAt (σ : zS) (x1 : Int) : Option (Int × zS) :=
  if 0 ≤ (7 : Int) ∧ (7 : Int) < 320 then
    z_bind (f_X6_in σ x1 0 ((σ 1 7) - 1)) fun r2 σ1 =>
    if zr r2 then
      if r2 = 0 then
        f_X6_levelAt_b30 σ1 0
      else
        if 0 ≤ (10 + x1) ∧ (10 + x1) < 320 then
          f_X6_levelAt_b30 σ1 (σ1 1 (10 + x1))
        else none
    else none
  else none
def f_X6_isQuiet_b35 (σ : zS) (s0 : Int) : Option (Int × zS) :=
  if 0 ≤ s0 ∧ s0 ≤ 1 then some (s0, σ) else none
def f_X6_isQuiet_b34 (σ : zS) : Option (Int × zS) :=
  f_X6_isQuiet_b35 σ 0
def f_X6_isQuiet (σ : zS) (x1 : Int) : Option (Int × zS) :=
  z_bind (f_X6_levelAt σ (x1 - 1)) fun r2 σ1 =>
  if 0 ≤ (1 : Int) ∧ (1 : Int) < 320 then
    if zr r2 ∧ zr (σ1 1 1) then
      if (σ1 1 1) < r2 then
        f_X6_isQuiet_b34 σ1
      else
        z_bind (f_X6_levelAt σ1 x1) fun r4 σ3 =>
        if 0 ≤ (1 : Int) ∧ (1 : Int) < 320 then
          if zr r4 ∧ zr (σ3 1 1) then
            if (σ3 1 1) < r4 then
              f_X6_isQuiet_b34 σ3
            else
              f_X6_isQuiet_b35 σ3 1
          else none
        else none
    else none
  else none
def f_X6_of (σ : zS) (x1 : Int) (x2 : Int) : Option (Int × zS) :=
  if 0 ≤ ((210 + (5 * x1)) + x2) ∧ ((210 + (5 * x1)) + x2) < 320 then
    some (σ 1 ((210 + (5 * x1)) + x2), σ)
  else none
def f_X6_isMark (σ : zS) (x1 : Int) : Option (Int × zS) :=
  if 0 ≤ (8 : Int) ∧ (8 : Int) < 320 then
    z_bind (f_X6_in σ x1 0 ((σ 1 8) - 1)) fun r2 σ1 =>
    if 0 ≤ r2 ∧ r2 ≤ 1 then some (r2, σ1) else none
  else none
def f_X6_type (σ : zS) (x1 : Int) : Option (Int × zS) :=
  z_bind (f_X6_in σ x1 32 126) fun r2 σ1 =>
  if zr r2 then
    if ¬ r2 = 0 then
      if zr (σ1 0 4) then
        if ¬ (σ1 0 4) = 120 then
          if 0 ≤ (σ1 0 4) ∧ (σ1 0 4) < 120 then z_put σ1 3 (σ1 0 4) x1 fun σ3 =>
            z_put σ3 0 4 ((σ3 0 4) + 1) fun σ4 =>
            some (σ4 0 4, σ4)
          else none
        else
          some ((-3), σ1)
      else none
    else
      some ((-1), σ1)
  else none
def f_X6_clear (σ : zS) : Option (Int × zS) :=
  z_put σ 0 4 0 fun σ1 =>
  some (σ 0 4, σ1)
def f_X6_sign_b24 (σ : zS) (s0 : Int) : Option (Int × zS) :=
  some (s0, σ)
def f_X6_sign (σ : zS) : Option (Int × zS) :=
  if zr (σ 0 5) ∧ zr (σ 0 4) then
    if (σ 0 4) ≤ (σ 0 5) then
      f_X6_sign_b24 σ (-1)
    else
      if 0 ≤ (σ 0 5) ∧ (σ 0 5) < 120 then
        f_X6_sign_b24 σ (σ 3 (σ 0 5))
      else none
  else none
def f_X6_isDigit (σ : zS) : Option (Int × zS) :=
  z_bind (f_X6_sign σ) fun r2 σ1 =>
  z_bind (f_X6_in σ1 r2 48 57) fun r4 σ3 =>
  if 0 ≤ r4 ∧ r4 ≤ 1 then some (r4, σ3) else none
def f_X6_takesFrames_b0 (K0 : zS → Option (Unit × zS)) (σ : zS) : Option (Unit × zS) :=
  z_bind (f_X6_isDigit σ) fun r2 σ1 =>
  if zr r2 then
    if r2 = 0 then
      some ((), σ1)
    else
      z_bind (f_X6_sign σ1) fun r4 σ3 =>
      if 0 ≤ (σ1 0 7) ∧ (σ1 0 7) < 120 then z_put σ3 4 (σ1 0 7) (r4 - 48) fun σ5 =>
        z_put σ5 0 7 ((σ5 0 7) + 1) fun σ6 =>
        z_put σ6 0 5 ((σ6 0 5) + 1) fun σ7 =>
        K0 σ7
      else none
  else none
def f_X6_takesFrames_l0 : Nat → zS → Option (Unit × zS)
  | 0, _ => none
  | n + 1, σ => f_X6_takesFrames_b0 (f_X6_takesFrames_l0 n) σ 
def f_X6_takesFrames (σ : zS) : Option (Unit × zS) := f_X6_takesFrames_l0 z_fuel σ 
def f_X6_doubt_b102 (σ : zS) (s0 : Int) : Option (Int × zS) :=
  if 0 ≤ s0 ∧ s0 ≤ 1 then some (s0, σ) else none
def f_X6_doubt_b86 (σ : zS) (x1 : Int) (s1 : Int) : Option (Int × zS) :=
  z_put σ 0 6 s1 fun σ1 =>
  if zr (σ1 0 5) ∧ zr x1 then
    if (σ1 0 5) ≤ x1 then
      f_X6_doubt_b102 σ1 0
    else
      f_X6_doubt_b102 σ1 1
  else none
def f_X6_doubt_b82 (σ : zS) (x1 : Int) : Option (Int × zS) :=
  f_X6_doubt_b86 σ x1 (σ 0 6)
def f_X6_doubt_b50 (σ : zS) (x1 : Int) (x2 : Int) : Option (Int × zS) :=
  if 0 ≤ ((5 * (σ 0 8)) + 3) ∧ ((5 * (σ 0 8)) + 3) < 100 then z_put σ 5 ((5 * (σ 0 8)) + 3) x2 fun σ1 =>
    if zr (σ1 0 6) then
      if 0 ≤ (σ1 0 6) then
        f_X6_doubt_b82 σ1 x1
      else
        if zr x2 then
          if x2 ≤ 100 then
            f_X6_doubt_b82 σ1 x1
          else
            f_X6_doubt_b86 σ1 x1 x1
        else none
    else none
  else none
def f_X6_doubt_b9 (K9 : zS → Int → Int → Int → Option (Int × zS)) (σ : zS) (x1 : Int) (x2 : Int) (x3 : Int) : Option (Int × zS) :=
  if zr x3 then
    if 3 ≤ x3 then
      f_X6_doubt_b50 σ x1 x2
    else
      z_bind (f_X6_isDigit σ) fun r2 σ1 =>
      if zr r2 then
        if r2 = 0 then
          f_X6_doubt_b50 σ1 x1 x2
        else
          z_bind (f_X6_sign σ1) fun r4 σ3 =>
          z_put σ3 0 5 ((σ3 0 5) + 1) fun σ5 =>
          K9 σ5 x1 (((10 * x2) + r4) - 48) (x3 + 1)
      else none
  else none
def f_X6_doubt_l9 : Nat → zS → Int → Int → Int → Option (Int × zS)
  | 0, _, _, _, _ => none
  | n + 1, σ, x1, x2, x3 => f_X6_doubt_b9 (f_X6_doubt_l9 n) σ x1 x2 x3
def f_X6_doubt (σ : zS) : Option (Int × zS) :=
  f_X6_doubt_l9 z_fuel σ (σ 0 5) 0 0
def f_X6_takes_b28 (σ : zS) (x2 : Int) (s1 : Int) (s2 : Int) : Option (Int × zS) :=
  z_put σ 0 5 (s1 + s2) fun σ1 =>
  if 0 ≤ x2 ∧ x2 ≤ 1 then some (x2, σ1) else none
def f_X6_takes_b13 (σ : zS) (s0 : Int) : Option (Int × zS) :=
  if zr s0 then
    if s0 = 0 then
      f_X6_takes_b28 σ s0 (σ 0 5) 0
    else
      f_X6_takes_b28 σ s0 (σ 0 5) 1
  else none
def f_X6_takes (σ : zS) (x1 : Int) : Option (Int × zS) :=
  z_bind (f_X6_sign σ) fun r2 σ1 =>
  if zr r2 ∧ zr x1 then
    if ¬ r2 = x1 then
      f_X6_takes_b13 σ1 0
    else
      f_X6_takes_b13 σ1 1
  else none
def f_X6_readsMark_b135 (σ : zS) : Option (Int × zS) :=
  some (0, σ)
def f_X6_readsMark_b119 (σ : zS) (x1 : Int) : Option (Int × zS) :=
  z_bind (f_X6_takes σ 58) fun r2 σ1 =>
  if zr r2 then
    if r2 = 0 then
      f_X6_readsMark_b135 σ1
    else
      z_bind (f_X6_isDigit σ1) fun r4 σ3 =>
      if zr r4 then
        if ¬ r4 = 0 then
          z_bind (f_X6_takesFrames σ3) fun _ σ5 =>
          if 0 ≤ (x1 + 2) ∧ (x1 + 2) < 100 then z_put σ5 5 (x1 + 2) (σ5 0 7) fun σ6 =>
            z_put σ6 0 8 ((σ6 0 8) + 1) fun σ7 =>
            z_bind (f_X6_takes σ7 93) fun r9 σ8 =>
            if 0 ≤ r9 ∧ r9 ≤ 1 then some (r9, σ8) else none
          else none
        else
          f_X6_readsMark_b135 σ3
      else none
  else none
def f_X6_readsMark_b54 (σ : zS) (x1 : Int) (s0 : Int) : Option (Int × zS) :=
  if zr s0 then
    if 0 ≤ s0 then
      z_put σ 0 5 ((σ 0 5) + 1) fun σ1 =>
      if 0 ≤ x1 ∧ x1 < 100 then z_put σ1 5 x1 s0 fun σ2 =>
        if 0 ≤ (x1 + 1) ∧ (x1 + 1) < 100 then z_put σ2 5 (x1 + 1) (σ2 0 7) fun σ3 =>
          if 0 ≤ (x1 + 3) ∧ (x1 + 3) < 100 then z_put σ3 5 (x1 + 3) 0 fun σ4 =>
            if 0 ≤ (x1 + 4) ∧ (x1 + 4) < 100 then z_put σ4 5 (x1 + 4) 0 fun σ5 =>
              if zr s0 then
                if ¬ s0 = 0 then
                  f_X6_readsMark_b119 σ5 x1
                else
                  z_bind (f_X6_doubt σ5) fun r7 σ6 =>
                  if zr r7 then
                    if r7 = 0 then
                      f_X6_readsMark_b135 σ6
                    else
                      f_X6_readsMark_b119 σ6 x1
                  else none
              else none
            else none
          else none
        else none
      else none
    else
      some (0, σ)
  else none
def f_X6_readsMark (σ : zS) : Option (Int × zS) :=
  z_bind (f_X6_sign σ) fun r2 σ1 =>
  if zr r2 then
    if ¬ r2 = 102 then
      if zr r2 then
        if ¬ r2 = 98 then
          if zr r2 then
            if ¬ r2 = 114 then
              if zr r2 then
                if ¬ r2 = 110 then
                  f_X6_readsMark_b54 σ1 (5 * (σ 0 8)) (-9)
                else
                  f_X6_readsMark_b54 σ1 (5 * (σ 0 8)) 3
              else none
            else
              f_X6_readsMark_b54 σ1 (5 * (σ 0 8)) 2
          else none
        else
          f_X6_readsMark_b54 σ1 (5 * (σ 0 8)) 1
      else none
    else
      f_X6_readsMark_b54 σ1 (5 * (σ 0 8)) 0
  else none
def f_X6_wrongAt_b85 (σ : zS) : Option (Int × zS) :=
  some (σ 0 5, σ)
def f_X6_wrongAt_b20 (K20 : zS → Option (Int × zS)) (σ : zS) : Option (Int × zS) :=
  if zr (σ 0 5) ∧ zr (σ 0 4) then
    if (σ 0 4) ≤ (σ 0 5) then
      some (σ 0 6, σ)
    else
      z_bind (f_X6_isDigit σ) fun r2 σ1 =>
      if zr r2 then
        if r2 = 0 then
          z_bind (f_X6_sign σ1) fun r4 σ3 =>
          if zr r4 then
            if ¬ r4 = 91 then
              f_X6_wrongAt_b85 σ3
            else
              if zr (σ3 0 8) then
                if 20 ≤ (σ3 0 8) then
                  f_X6_wrongAt_b85 σ3
                else
                  z_put σ3 0 5 ((σ3 0 5) + 1) fun σ5 =>
                  z_bind (f_X6_readsMark σ5) fun r7 σ6 =>
                  if zr r7 then
                    if ¬ r7 = 0 then
                      K20 σ6
                    else
                      some (σ6 0 5, σ6)
                  else none
              else none
          else none
        else
          z_bind (f_X6_takesFrames σ1) fun _ σ8 =>
          K20 σ8
      else none
  else none
def f_X6_wrongAt_l20 : Nat → zS → Option (Int × zS)
  | 0, _ => none
  | n + 1, σ => f_X6_wrongAt_b20 (f_X6_wrongAt_l20 n) σ 
def f_X6_wrongAt (σ : zS) : Option (Int × zS) :=
  z_put σ 0 5 0 fun σ1 =>
  z_put σ1 0 6 (-1) fun σ2 =>
  z_put σ2 0 7 0 fun σ3 =>
  z_put σ3 0 8 0 fun σ4 =>
  f_X6_wrongAt_l20 z_fuel σ4
def f_X6_read_b73 (K73 : zS → Int → Option (Int × zS)) (σ : zS) (x2 : Int) : Option (Int × zS) :=
  if zr x2 ∧ zr (5 * (σ 0 8)) then
    if (5 * (σ 0 8)) ≤ x2 then
      z_put σ 0 4 0 fun σ1 =>
      some (σ1 0 7, σ1)
    else
      if 0 ≤ x2 ∧ x2 < 100 then
        if 0 ≤ (210 + x2) ∧ (210 + x2) < 320 then z_put σ 1 (210 + x2) (σ 5 x2) fun σ2 =>
          K73 σ2 (x2 + 1)
        else none
      else none
  else none
def f_X6_read_l73 : Nat → zS → Int → Option (Int × zS)
  | 0, _, _ => none
  | n + 1, σ, x2 => f_X6_read_b73 (f_X6_read_l73 n) σ x2
def f_X6_read_b42 (K42 : zS → Int → Option (Int × zS)) (σ : zS) (x2 : Int) : Option (Int × zS) :=
  if zr x2 ∧ zr (σ 0 7) then
    if (σ 0 7) ≤ x2 then
      f_X6_read_l73 z_fuel σ 0
    else
      if 0 ≤ x2 ∧ x2 < 120 then
        if 0 ≤ (10 + x2) ∧ (10 + x2) < 320 then z_put σ 1 (10 + x2) (σ 4 x2) fun σ1 =>
          K42 σ1 (x2 + 1)
        else none
      else none
  else none
def f_X6_read_l42 : Nat → zS → Int → Option (Int × zS)
  | 0, _, _ => none
  | n + 1, σ, x2 => f_X6_read_b42 (f_X6_read_l42 n) σ x2
def f_X6_read (σ : zS) : Option (Int × zS) :=
  z_bind (f_X6_wrongAt σ) fun r2 σ1 =>
  if zr r2 then
    if r2 < 0 then
      z_bind (f_X6_act σ1) fun _ σ3 =>
      if 0 ≤ (7 : Int) ∧ (7 : Int) < 320 then z_put σ3 1 7 (σ3 0 7) fun σ4 =>
        if 0 ≤ (8 : Int) ∧ (8 : Int) < 320 then z_put σ4 1 8 (σ4 0 8) fun σ5 =>
          f_X6_read_l42 z_fuel σ5 0
        else none
      else none
    else
      some ((-100) - r2, σ1)
  else none
def f_X6_append_b47 (K47 : zS → Int → Int → Int → Option (Int × zS)) (σ : zS) (x1 : Int) (x2 : Int) (x3 : Int) : Option (Int × zS) :=
  if zr x3 ∧ zr x2 then
    if x2 ≤ x3 then
      if 0 ≤ (7 : Int) ∧ (7 : Int) < 320 then
        some (σ 1 7, σ)
      else none
    else
      if 0 ≤ (7 : Int) ∧ (7 : Int) < 320 then
        if 0 ≤ (10 + (σ 1 7)) ∧ (10 + (σ 1 7)) < 320 then z_put σ 1 (10 + (σ 1 7)) x1 fun σ1 =>
          if 0 ≤ (7 : Int) ∧ (7 : Int) < 320 then
            if 0 ≤ (7 : Int) ∧ (7 : Int) < 320 then z_put σ1 1 7 ((σ1 1 7) + 1) fun σ2 =>
              K47 σ2 x1 x2 (x3 + 1)
            else none
          else none
        else none
      else none
  else none
def f_X6_append_l47 : Nat → zS → Int → Int → Int → Option (Int × zS)
  | 0, _, _, _, _ => none
  | n + 1, σ, x1, x2, x3 => f_X6_append_b47 (f_X6_append_l47 n) σ x1 x2 x3
def f_X6_append_b21 (σ : zS) : Option (Int × zS) :=
  some ((-1), σ)
def f_X6_append (σ : zS) (x1 : Int) (x2 : Int) : Option (Int × zS) :=
  z_bind (f_X6_in σ x1 0 9) fun r2 σ1 =>
  if zr r2 then
    if r2 = 0 then
      f_X6_append_b21 σ1
    else
      z_bind (f_X6_in σ1 x2 1 200) fun r4 σ3 =>
      if zr r4 then
        if ¬ r4 = 0 then
          if 0 ≤ (7 : Int) ∧ (7 : Int) < 320 then
            if zr ((σ3 1 7) + x2) then
              if ((σ3 1 7) + x2) ≤ 200 then
                z_bind (f_X6_act σ3) fun _ σ5 =>
                f_X6_append_l47 z_fuel σ5 x1 x2 0
              else
                some ((-3), σ3)
            else none
          else none
        else
          f_X6_append_b21 σ3
      else none
  else none
def f_X6_babble_b40 (K40 : zS → Int → Int → Int → Option (Int × zS)) (σ : zS) (x2 : Int) (x3 : Int) (x4 : Int) : Option (Int × zS) :=
  if zr x4 ∧ zr x2 then
    if x2 ≤ x4 then
      if 0 ≤ (7 : Int) ∧ (7 : Int) < 320 then
        some (σ 1 7, σ)
      else none
    else
      if 0 ≤ (7 : Int) ∧ (7 : Int) < 320 then
        if zr (z_ushr ((1103515245 * x3) + 12345) 16) ∧ zr 10 ∧ (10 : Int) ≠ 0 then
          if 0 ≤ (10 + (σ 1 7)) ∧ (10 + (σ 1 7)) < 320 then z_put σ 1 (10 + (σ 1 7)) ((z_ushr ((1103515245 * x3) + 12345) 16).tmod 10) fun σ1 =>
            if 0 ≤ (7 : Int) ∧ (7 : Int) < 320 then
              if 0 ≤ (7 : Int) ∧ (7 : Int) < 320 then z_put σ1 1 7 ((σ1 1 7) + 1) fun σ2 =>
                K40 σ2 x2 ((1103515245 * x3) + 12345) (x4 + 1)
              else none
            else none
          else none
        else none
      else none
  else none
def f_X6_babble_l40 : Nat → zS → Int → Int → Int → Option (Int × zS)
  | 0, _, _, _, _ => none
  | n + 1, σ, x2, x3, x4 => f_X6_babble_b40 (f_X6_babble_l40 n) σ x2 x3 x4
def f_X6_babble (σ : zS) (x1 : Int) (x2 : Int) : Option (Int × zS) :=
  z_bind (f_X6_in σ x2 1 200) fun r2 σ1 =>
  if zr r2 then
    if ¬ r2 = 0 then
      if 0 ≤ (7 : Int) ∧ (7 : Int) < 320 then
        if zr ((σ1 1 7) + x2) then
          if ((σ1 1 7) + x2) ≤ 200 then
            z_bind (f_X6_act σ1) fun _ σ3 =>
            f_X6_babble_l40 z_fuel σ3 x2 x1 0
          else
            some ((-3), σ1)
        else none
      else none
    else
      some ((-1), σ1)
  else none
def f_X6_mark_b168 (K168 : zS → Int → Int → Int → Int → Int → Int → Option (Int × zS)) (σ : zS) (x1 : Int) (x2 : Int) (x3 : Int) (x4 : Int) (x5 : Int) (x7 : Int) : Option (Int × zS) :=
  if zr x7 ∧ zr (210 + (5 * x5)) then
    if x7 < (210 + (5 * x5)) then
      if 0 ≤ (210 + (5 * x5)) ∧ (210 + (5 * x5)) < 320 then z_put σ 1 (210 + (5 * x5)) x1 fun σ1 =>
        if 0 ≤ ((210 + (5 * x5)) + 1) ∧ ((210 + (5 * x5)) + 1) < 320 then z_put σ1 1 ((210 + (5 * x5)) + 1) x2 fun σ2 =>
          if 0 ≤ ((210 + (5 * x5)) + 2) ∧ ((210 + (5 * x5)) + 2) < 320 then z_put σ2 1 ((210 + (5 * x5)) + 2) x3 fun σ3 =>
            if 0 ≤ ((210 + (5 * x5)) + 3) ∧ ((210 + (5 * x5)) + 3) < 320 then z_put σ3 1 ((210 + (5 * x5)) + 3) x4 fun σ4 =>
              if 0 ≤ ((210 + (5 * x5)) + 4) ∧ ((210 + (5 * x5)) + 4) < 320 then z_put σ4 1 ((210 + (5 * x5)) + 4) 0 fun σ5 =>
                if 0 ≤ (8 : Int) ∧ (8 : Int) < 320 then
                  if 0 ≤ (8 : Int) ∧ (8 : Int) < 320 then z_put σ5 1 8 ((σ5 1 8) + 1) fun σ6 =>
                    some (x5, σ6)
                  else none
                else none
              else none
            else none
          else none
        else none
      else none
    else
      if 0 ≤ x7 ∧ x7 < 320 then
        if 0 ≤ (x7 + 5) ∧ (x7 + 5) < 320 then z_put σ 1 (x7 + 5) (σ 1 x7) fun σ7 =>
          K168 σ7 x1 x2 x3 x4 x5 (x7 + (-1))
        else none
      else none
  else none
def f_X6_mark_l168 : Nat → zS → Int → Int → Int → Int → Int → Int → Option (Int × zS)
  | 0, _, _, _, _, _, _, _ => none
  | n + 1, σ, x1, x2, x3, x4, x5, x7 => f_X6_mark_b168 (f_X6_mark_l168 n) σ x1 x2 x3 x4 x5 x7
def f_X6_mark_b115 (K51 : zS → Int → Int → Int → Int → Int → Int → Int → Option (Int × zS)) (σ : zS) (x1 : Int) (x2 : Int) (x3 : Int) (x4 : Int) (x6 : Int) (x7 : Int) (s0 : Int) (s1 : Int) : Option (Int × zS) :=
  K51 σ x1 x2 x3 x4 (s0 + s1) x6 (x7 + 1)
def f_X6_mark_b95 (K51 : zS → Int → Int → Int → Int → Int → Int → Int → Option (Int × zS)) (σ : zS) (x1 : Int) (x2 : Int) (x3 : Int) (x4 : Int) (x5 : Int) (x7 : Int) (s0 : Int) : Option (Int × zS) :=
  z_bind (f_X6_of σ x7 1) fun r2 σ1 =>
  if zr r2 ∧ zr x2 then
    if x2 ≤ r2 then
      f_X6_mark_b115 K51 σ1 x1 x2 x3 x4 s0 x7 x5 0
    else
      f_X6_mark_b115 K51 σ1 x1 x2 x3 x4 s0 x7 x5 1
  else none
def f_X6_mark_b94 (K51 : zS → Int → Int → Int → Int → Int → Int → Int → Option (Int × zS)) (σ : zS) (x1 : Int) (x2 : Int) (x3 : Int) (x4 : Int) (x5 : Int) (x7 : Int) : Option (Int × zS) :=
  f_X6_mark_b95 K51 σ x1 x2 x3 x4 x5 x7 0
def f_X6_mark_b90 (K51 : zS → Int → Int → Int → Int → Int → Int → Int → Option (Int × zS)) (σ : zS) (x1 : Int) (x2 : Int) (x3 : Int) (x4 : Int) (x5 : Int) (x7 : Int) : Option (Int × zS) :=
  f_X6_mark_b95 K51 σ x1 x2 x3 x4 x5 x7 1
def f_X6_mark_b51 (K51 : zS → Int → Int → Int → Int → Int → Int → Int → Option (Int × zS)) (σ : zS) (x1 : Int) (x2 : Int) (x3 : Int) (x4 : Int) (x5 : Int) (x6 : Int) (x7 : Int) : Option (Int × zS) :=
  if 0 ≤ (8 : Int) ∧ (8 : Int) < 320 then
    if zr x7 ∧ zr (σ 1 8) then
      if (σ 1 8) ≤ x7 then
        if zr x6 then
          if x6 = 0 then
            if 0 ≤ (8 : Int) ∧ (8 : Int) < 320 then
              if zr (σ 1 8) then
                if ¬ (σ 1 8) = 20 then
                  z_bind (f_X6_act σ) fun _ σ1 =>
                  if 0 ≤ (8 : Int) ∧ (8 : Int) < 320 then
                    f_X6_mark_l168 z_fuel σ1 x1 x2 x3 x4 x5 ((210 + (5 * (σ1 1 8))) - 1)
                  else none
                else
                  some ((-3), σ)
              else none
            else none
          else
            some ((-2), σ)
        else none
      else
        if zr x6 then
          if ¬ x6 = 0 then
            f_X6_mark_b90 K51 σ x1 x2 x3 x4 x5 x7
          else
            z_bind (f_X6_of σ x7 2) fun r3 σ2 =>
            if zr x2 ∧ zr r3 then
              if r3 ≤ x2 then
                f_X6_mark_b94 K51 σ2 x1 x2 x3 x4 x5 x7
              else
                z_bind (f_X6_of σ2 x7 1) fun r5 σ4 =>
                if zr r5 ∧ zr x3 then
                  if x3 ≤ r5 then
                    f_X6_mark_b94 K51 σ4 x1 x2 x3 x4 x5 x7
                  else
                    f_X6_mark_b90 K51 σ4 x1 x2 x3 x4 x5 x7
                else none
            else none
        else none
    else none
  else none
def f_X6_mark_l51 : Nat → zS → Int → Int → Int → Int → Int → Int → Int → Option (Int × zS)
  | 0, _, _, _, _, _, _, _, _ => none
  | n + 1, σ, x1, x2, x3, x4, x5, x6, x7 => f_X6_mark_b51 (f_X6_mark_l51 n) σ x1 x2 x3 x4 x5 x6 x7
def f_X6_mark_b40 (σ : zS) : Option (Int × zS) :=
  some ((-1), σ)
def f_X6_mark (σ : zS) (x1 : Int) (x2 : Int) (x3 : Int) (x4 : Int) : Option (Int × zS) :=
  z_bind (f_X6_in σ x1 0 3) fun r2 σ1 =>
  if zr r2 then
    if r2 = 0 then
      f_X6_mark_b40 σ1
    else
      if zr x2 then
        if x2 < 0 then
          f_X6_mark_b40 σ1
        else
          if 0 ≤ (7 : Int) ∧ (7 : Int) < 320 then
            if zr x3 ∧ zr (σ1 1 7) then
              if (σ1 1 7) < x3 then
                f_X6_mark_b40 σ1
              else
                if zr x3 ∧ zr x2 then
                  if x3 ≤ x2 then
                    f_X6_mark_b40 σ1
                  else
                    z_bind (f_X6_in σ1 x4 0 100) fun r4 σ3 =>
                    if zr r4 then
                      if ¬ r4 = 0 then
                        f_X6_mark_l51 z_fuel σ3 x1 x2 x3 x4 0 0 0
                      else
                        f_X6_mark_b40 σ3
                    else none
                else none
            else none
          else none
      else none
  else none
def f_X6_unmark_b33 (K33 : zS → Int → Option (Int × zS)) (σ : zS) (x2 : Int) : Option (Int × zS) :=
  if 0 ≤ (8 : Int) ∧ (8 : Int) < 320 then
    if zr x2 ∧ zr (210 + (5 * (σ 1 8))) then
      if (210 + (5 * (σ 1 8))) ≤ x2 then
        if 0 ≤ (8 : Int) ∧ (8 : Int) < 320 then
          some (σ 1 8, σ)
        else none
      else
        if 0 ≤ (x2 + 5) ∧ (x2 + 5) < 320 then
          if 0 ≤ x2 ∧ x2 < 320 then z_put σ 1 x2 (σ 1 (x2 + 5)) fun σ1 =>
            K33 σ1 (x2 + 1)
          else none
        else none
    else none
  else none
def f_X6_unmark_l33 : Nat → zS → Int → Option (Int × zS)
  | 0, _, _ => none
  | n + 1, σ, x2 => f_X6_unmark_b33 (f_X6_unmark_l33 n) σ x2
def f_X6_unmark (σ : zS) (x1 : Int) : Option (Int × zS) :=
  z_bind (f_X6_isMark σ x1) fun r2 σ1 =>
  if zr r2 then
    if ¬ r2 = 0 then
      z_bind (f_X6_act σ1) fun _ σ3 =>
      if 0 ≤ (8 : Int) ∧ (8 : Int) < 320 then
        if 0 ≤ (8 : Int) ∧ (8 : Int) < 320 then z_put σ3 1 8 ((σ3 1 8) - 1) fun σ4 =>
          f_X6_unmark_l33 z_fuel σ4 (210 + (5 * x1))
        else none
      else none
    else
      some ((-1), σ1)
  else none
def f_X6_sets (σ : zS) (x1 : Int) (x2 : Int) : Option (Int × zS) :=
  z_bind (f_X6_act σ) fun _ σ1 =>
  if 0 ≤ x1 ∧ x1 < 320 then
    if 0 ≤ x1 ∧ x1 < 320 then z_put σ1 1 x1 x2 fun σ2 =>
      some (σ1 1 x1, σ2)
    else none
  else none
def f_X6_hold_b34 (σ : zS) (s0 : Int) : Option (Int × zS) :=
  some (s0, σ)
def f_X6_hold_b27 (σ : zS) (s1 : Int) (s2 : Int) : Option (Int × zS) :=
  z_bind (f_X6_sets σ s1 s2) fun r2 σ1 =>
  f_X6_hold_b34 σ1 r2
def f_X6_hold (σ : zS) (x1 : Int) (x2 : Int) : Option (Int × zS) :=
  z_bind (f_X6_isMark σ x1) fun r2 σ1 =>
  if zr r2 then
    if r2 = 0 then
      f_X6_hold_b34 σ1 (-1)
    else
      if zr x2 then
        if x2 = 0 then
          f_X6_hold_b27 σ1 ((210 + (5 * x1)) + 4) 0
        else
          f_X6_hold_b27 σ1 ((210 + (5 * x1)) + 4) 1
      else none
  else none
def f_X6_most_b36 (σ : zS) (s0 : Int) : Option (Int × zS) :=
  some (s0, σ)
def f_X6_most_b9 (σ : zS) : Option (Int × zS) :=
  f_X6_most_b36 σ 100
def f_X6_most (σ : zS) (x0 : Int) : Option (Int × zS) :=
  if zr x0 then
    if x0 = 0 then
      f_X6_most_b9 σ
    else
      if zr x0 then
        if ¬ x0 = 4 then
          if zr x0 then
            if ¬ x0 = 1 then
              if zr x0 then
                if ¬ x0 = 2 then
                  f_X6_most_b36 σ 50
                else
                  f_X6_most_b36 σ 20
              else none
            else
              f_X6_most_b36 σ 9
          else none
        else
          f_X6_most_b9 σ
      else none
  else none
def f_X6_set_b32 (σ : zS) (s0 : Int) : Option (Int × zS) :=
  some (s0, σ)
def f_X6_set_b31 (σ : zS) : Option (Int × zS) :=
  f_X6_set_b32 σ (-1)
def f_X6_set (σ : zS) (x1 : Int) (x2 : Int) : Option (Int × zS) :=
  z_bind (f_X6_in σ x1 0 6) fun r2 σ1 =>
  if zr r2 then
    if r2 = 0 then
      f_X6_set_b31 σ1
    else
      z_bind (f_X6_most σ1 x1) fun r4 σ3 =>
      z_bind (f_X6_in σ3 x2 0 r4) fun r6 σ5 =>
      if zr r6 then
        if r6 = 0 then
          f_X6_set_b31 σ5
        else
          z_bind (f_X6_sets σ5 x1 x2) fun r8 σ7 =>
          f_X6_set_b32 σ7 r8
      else none
  else none
def f_X6_setting_b20 (σ : zS) (s0 : Int) : Option (Int × zS) :=
  some (s0, σ)
def f_X6_setting (σ : zS) (x1 : Int) : Option (Int × zS) :=
  z_bind (f_X6_in σ x1 0 8) fun r2 σ1 =>
  if zr r2 then
    if r2 = 0 then
      f_X6_setting_b20 σ1 (-1)
    else
      if 0 ≤ x1 ∧ x1 < 320 then
        f_X6_setting_b20 σ1 (σ1 1 x1)
      else none
  else none
def f_X6_level_b30 (σ : zS) (s0 : Int) : Option (Int × zS) :=
  some (s0, σ)
def f_X6_level (σ : zS) (x1 : Int) : Option (Int × zS) :=
  if 0 ≤ (7 : Int) ∧ (7 : Int) < 320 then
    z_bind (f_X6_in σ x1 0 ((σ 1 7) - 1)) fun r2 σ1 =>
    if zr r2 then
      if r2 = 0 then
        f_X6_level_b30 σ1 (-1)
      else
        if 0 ≤ (10 + x1) ∧ (10 + x1) < 320 then
          f_X6_level_b30 σ1 (σ1 1 (10 + x1))
        else none
    else none
  else none
def f_X6_seam_b70 (K3 : zS → Int → Int → Int → Int → Option (Int × zS)) (σ : zS) (x1 : Int) (x2 : Int) (x3 : Int) (x4 : Int) : Option (Int × zS) :=
  K3 σ x1 x2 x3 (x4 + 1)
def f_X6_seam_b42 (K3 : zS → Int → Int → Int → Int → Option (Int × zS)) (σ : zS) (x1 : Int) (x2 : Int) (x3 : Int) (x4 : Int) : Option (Int × zS) :=
  z_bind (f_X6_in σ (x1 + x4) x2 x3) fun r2 σ1 =>
  if zr r2 then
    if r2 = 0 then
      f_X6_seam_b70 K3 σ1 x1 x2 x3 x4
    else
      z_bind (f_X6_isQuiet σ1 (x1 + x4)) fun r4 σ3 =>
      if zr r4 then
        if r4 = 0 then
          f_X6_seam_b70 K3 σ3 x1 x2 x3 x4
        else
          some (x1 + x4, σ3)
      else none
  else none
def f_X6_seam_b3 (K3 : zS → Int → Int → Int → Int → Option (Int × zS)) (σ : zS) (x1 : Int) (x2 : Int) (x3 : Int) (x4 : Int) : Option (Int × zS) :=
  if 0 ≤ (2 : Int) ∧ (2 : Int) < 320 then
    if zr x4 ∧ zr (σ 1 2) then
      if (σ 1 2) < x4 then
        some ((-9), σ)
      else
        z_bind (f_X6_in σ (x1 - x4) x2 x3) fun r2 σ1 =>
        if zr r2 then
          if r2 = 0 then
            f_X6_seam_b42 K3 σ1 x1 x2 x3 x4
          else
            z_bind (f_X6_isQuiet σ1 (x1 - x4)) fun r4 σ3 =>
            if zr r4 then
              if r4 = 0 then
                f_X6_seam_b42 K3 σ3 x1 x2 x3 x4
              else
                some (x1 - x4, σ3)
            else none
        else none
    else none
  else none
def f_X6_seam_l3 : Nat → zS → Int → Int → Int → Int → Option (Int × zS)
  | 0, _, _, _, _, _ => none
  | n + 1, σ, x1, x2, x3, x4 => f_X6_seam_b3 (f_X6_seam_l3 n) σ x1 x2 x3 x4
def f_X6_seam (σ : zS) (x1 : Int) (x2 : Int) (x3 : Int) : Option (Int × zS) :=
  f_X6_seam_l3 z_fuel σ x1 x2 x3 0
def f_X6_lays (σ : zS) (x1 : Int) (x2 : Int) (x3 : Int) (x4 : Int) (x5 : Int) : Option (Unit × zS) :=
  if 0 ≤ (5 * (σ 0 12)) ∧ (5 * (σ 0 12)) < 100 then z_put σ 6 (5 * (σ 0 12)) x1 fun σ1 =>
    if 0 ≤ ((5 * (σ 0 12)) + 1) ∧ ((5 * (σ 0 12)) + 1) < 100 then z_put σ1 6 ((5 * (σ 0 12)) + 1) x2 fun σ2 =>
      if 0 ≤ ((5 * (σ 0 12)) + 2) ∧ ((5 * (σ 0 12)) + 2) < 100 then z_put σ2 6 ((5 * (σ 0 12)) + 2) x3 fun σ3 =>
        if 0 ≤ ((5 * (σ 0 12)) + 3) ∧ ((5 * (σ 0 12)) + 3) < 100 then z_put σ3 6 ((5 * (σ 0 12)) + 3) x4 fun σ4 =>
          if 0 ≤ ((5 * (σ 0 12)) + 4) ∧ ((5 * (σ 0 12)) + 4) < 100 then z_put σ4 6 ((5 * (σ 0 12)) + 4) x5 fun σ5 =>
            z_put σ5 0 12 ((σ5 0 12) + 1) fun σ6 =>
            some ((), σ6)
          else none
        else none
      else none
    else none
  else none
def f_X6_fills_b230 (σ : zS) (x1 : Int) (x6 : Int) (s1 : Int) (s2 : Int) (s3 : Int) : Option (Unit × zS) :=
  z_bind (f_X6_lays σ s1 s2 s3 x6 x1) fun _ σ1 =>
  some ((), σ1)
def f_X6_fills_b184 (σ : zS) (x1 : Int) (x5 : Int) (x6 : Int) (s0 : Int) : Option (Unit × zS) :=
  if 0 ≤ (4 : Int) ∧ (4 : Int) < 320 then
    if zr ((s0 - x5) * (σ 1 4)) ∧ zr 100 ∧ (100 : Int) ≠ 0 then
      if 0 ≤ (3 : Int) ∧ (3 : Int) < 320 then
        if zr (((s0 - x5) * (σ 1 4)).tdiv 100) ∧ zr (σ 1 3) then
          if (σ 1 3) ≤ (((s0 - x5) * (σ 1 4)).tdiv 100) then
            if 0 ≤ (3 : Int) ∧ (3 : Int) < 320 then
              f_X6_fills_b230 σ x1 x6 x5 s0 (σ 1 3)
            else none
          else
            f_X6_fills_b230 σ x1 x6 x5 s0 (((s0 - x5) * (σ 1 4)).tdiv 100)
        else none
      else none
    else none
  else none
def f_X6_fills_b171 (σ : zS) (x1 : Int) (x3 : Int) (x5 : Int) (x8 : Int) (s0 : Int) : Option (Unit × zS) :=
  if zr x8 then
    if 0 ≤ x8 then
      f_X6_fills_b184 σ x1 x5 s0 x8
    else
      f_X6_fills_b184 σ x1 x5 s0 x3
  else none
def f_X6_fills_b145 (σ : zS) (x1 : Int) (x3 : Int) (x5 : Int) (x6 : Int) (s0 : Int) : Option (Unit × zS) :=
  z_bind (f_X6_seam σ x3 (x5 + 1) s0) fun r2 σ1 =>
  if zr r2 then
    if 0 ≤ r2 then
      f_X6_fills_b171 σ1 x1 x3 x5 r2 x6
    else
      f_X6_fills_b171 σ1 x1 x3 x5 r2 1
  else none
def f_X6_fills_b112 (σ : zS) (x1 : Int) (x3 : Int) (x6 : Int) (s0 : Int) : Option (Unit × zS) :=
  if 0 ≤ (8 : Int) ∧ (8 : Int) < 320 then
    if zr (x1 + 1) ∧ zr (σ 1 8) then
      if (σ 1 8) ≤ (x1 + 1) then
        if 0 ≤ (7 : Int) ∧ (7 : Int) < 320 then
          f_X6_fills_b145 σ x1 x3 s0 x6 (σ 1 7)
        else none
      else
        z_bind (f_X6_of σ (x1 + 1) 1) fun r2 σ1 =>
        f_X6_fills_b145 σ1 x1 x3 s0 x6 r2
    else none
  else none
def f_X6_fills_b99 (σ : zS) (x1 : Int) (x2 : Int) (x3 : Int) (x5 : Int) (s0 : Int) : Option (Unit × zS) :=
  if zr x5 then
    if 0 ≤ x5 then
      f_X6_fills_b112 σ x1 x3 s0 x5
    else
      f_X6_fills_b112 σ x1 x3 s0 x2
  else none
def f_X6_fills_b75 (σ : zS) (x1 : Int) (x2 : Int) (x3 : Int) (s0 : Int) : Option (Unit × zS) :=
  z_bind (f_X6_seam σ x2 s0 (x3 - 1)) fun r2 σ1 =>
  if zr r2 then
    if 0 ≤ r2 then
      f_X6_fills_b99 σ1 x1 x2 x3 r2 0
    else
      f_X6_fills_b99 σ1 x1 x2 x3 r2 1
  else none
def f_X6_fills_b73 (σ : zS) (x1 : Int) (x2 : Int) (x3 : Int) (x4 : Int) : Option (Unit × zS) :=
  f_X6_fills_b75 σ x1 x2 x3 x4
def f_X6_fills_b30 (σ : zS) (x1 : Int) (x2 : Int) (x3 : Int) (s0 : Int) : Option (Unit × zS) :=
  if zr (σ 0 12) then
    if (σ 0 12) ≤ 0 then
      f_X6_fills_b73 σ x1 x2 x3 s0
    else
      if 0 ≤ ((5 * (σ 0 12)) - 4) ∧ ((5 * (σ 0 12)) - 4) < 100 then
        if zr (σ 6 ((5 * (σ 0 12)) - 4)) ∧ zr s0 then
          if (σ 6 ((5 * (σ 0 12)) - 4)) ≤ s0 then
            f_X6_fills_b73 σ x1 x2 x3 s0
          else
            if 0 ≤ ((5 * (σ 0 12)) - 4) ∧ ((5 * (σ 0 12)) - 4) < 100 then
              f_X6_fills_b75 σ x1 x2 x3 (σ 6 ((5 * (σ 0 12)) - 4))
            else none
        else none
      else none
  else none
def f_X6_fills (σ : zS) (x1 : Int) : Option (Unit × zS) :=
  z_bind (f_X6_of σ x1 1) fun r2 σ1 =>
  z_bind (f_X6_of σ1 x1 2) fun r4 σ3 =>
  if zr x1 then
    if ¬ x1 = 0 then
      z_bind (f_X6_of σ3 (x1 - 1) 2) fun r6 σ5 =>
      f_X6_fills_b30 σ5 x1 r2 r4 r6
    else
      f_X6_fills_b30 σ3 x1 r2 r4 0
  else none
def f_X6_finds_b174 (K7 : zS → Int → Option (Unit × zS)) (σ : zS) (x1 : Int) : Option (Unit × zS) :=
  K7 σ (x1 + 1)
def f_X6_finds_b73 (K7 : zS → Int → Option (Unit × zS)) (σ : zS) (x1 : Int) (x2 : Int) : Option (Unit × zS) :=
  z_bind (f_X6_of σ x1 4) fun r2 σ1 =>
  if zr r2 then
    if ¬ r2 = 0 then
      f_X6_finds_b174 K7 σ1 x1
    else
      z_bind (f_X6_of σ1 x1 0) fun r4 σ3 =>
      if zr r4 then
        if ¬ r4 = 1 then
          f_X6_finds_b174 K7 σ3 x1
        else
          if 0 ≤ (6 : Int) ∧ (6 : Int) < 320 then
            if zr x2 ∧ zr (σ3 1 6) then
              if (σ3 1 6) ≤ x2 then
                if 0 ≤ (5 : Int) ∧ (5 : Int) < 320 then
                  if zr x2 ∧ zr (σ3 1 5) then
                    if x2 ≤ (σ3 1 5) then
                      f_X6_finds_b174 K7 σ3 x1
                    else
                      z_bind (f_X6_of σ3 x1 1) fun r6 σ5 =>
                      if 0 ≤ (5 : Int) ∧ (5 : Int) < 320 then
                        if zr ((σ5 1 5) + 1) ∧ zr 2 ∧ (2 : Int) ≠ 0 then
                          z_bind (f_X6_of σ5 x1 2) fun r8 σ7 =>
                          if 0 ≤ (5 : Int) ∧ (5 : Int) < 320 then
                            if zr (σ7 1 5) ∧ zr 2 ∧ (2 : Int) ≠ 0 then
                              z_bind (f_X6_lays σ7 (r6 + (((σ5 1 5) + 1).tdiv 2)) (r8 - ((σ7 1 5).tdiv 2)) 0 0 x1) fun _ σ9 =>
                              f_X6_finds_b174 K7 σ9 x1
                            else none
                          else none
                        else none
                      else none
                  else none
                else none
              else
                z_bind (f_X6_of σ3 x1 1) fun r11 σ10 =>
                z_bind (f_X6_of σ10 x1 2) fun r13 σ12 =>
                z_bind (f_X6_lays σ12 r11 r13 0 0 x1) fun _ σ14 =>
                f_X6_finds_b174 K7 σ14 x1
            else none
          else none
      else none
  else none
def f_X6_finds_b7 (K7 : zS → Int → Option (Unit × zS)) (σ : zS) (x1 : Int) : Option (Unit × zS) :=
  if 0 ≤ (8 : Int) ∧ (8 : Int) < 320 then
    if zr x1 ∧ zr (σ 1 8) then
      if (σ 1 8) ≤ x1 then
        some ((), σ)
      else
        z_bind (f_X6_of σ x1 2) fun r2 σ1 =>
        z_bind (f_X6_of σ1 x1 1) fun r4 σ3 =>
        z_bind (f_X6_of σ3 x1 4) fun r6 σ5 =>
        if zr r6 then
          if ¬ r6 = 0 then
            f_X6_finds_b73 K7 σ5 x1 (r2 - r4)
          else
            z_bind (f_X6_of σ5 x1 0) fun r8 σ7 =>
            if zr r8 then
              if ¬ r8 = 0 then
                f_X6_finds_b73 K7 σ7 x1 (r2 - r4)
              else
                z_bind (f_X6_of σ7 x1 3) fun r10 σ9 =>
                if 0 ≤ (0 : Int) ∧ (0 : Int) < 320 then
                  if zr r10 ∧ zr (σ9 1 0) then
                    if (σ9 1 0) < r10 then
                      f_X6_finds_b73 K7 σ9 x1 (r2 - r4)
                    else
                      z_bind (f_X6_fills σ9 x1) fun _ σ11 =>
                      f_X6_finds_b174 K7 σ11 x1
                  else none
                else none
            else none
        else none
    else none
  else none
def f_X6_finds_l7 : Nat → zS → Int → Option (Unit × zS)
  | 0, _, _ => none
  | n + 1, σ, x1 => f_X6_finds_b7 (f_X6_finds_l7 n) σ x1
def f_X6_finds (σ : zS) : Option (Unit × zS) :=
  z_put σ 0 12 0 fun σ1 =>
  f_X6_finds_l7 z_fuel σ1 0
def f_X6_cutOf_b32 (K5 : zS → Int → Int → Int → Option (Int × zS)) (σ : zS) (x1 : Int) (x3 : Int) (s0 : Int) : Option (Int × zS) :=
  K5 σ x1 s0 (x3 + 1)
def f_X6_cutOf_b5 (K5 : zS → Int → Int → Int → Option (Int × zS)) (σ : zS) (x1 : Int) (x2 : Int) (x3 : Int) : Option (Int × zS) :=
  if zr x3 ∧ zr (σ 0 12) then
    if (σ 0 12) ≤ x3 then
      some (x2, σ)
    else
      if 0 ≤ ((5 * x3) + 4) ∧ ((5 * x3) + 4) < 100 then
        if zr (σ 6 ((5 * x3) + 4)) ∧ zr x1 then
          if ¬ (σ 6 ((5 * x3) + 4)) = x1 then
            f_X6_cutOf_b32 K5 σ x1 x3 x2
          else
            f_X6_cutOf_b32 K5 σ x1 x3 x3
        else none
      else none
  else none
def f_X6_cutOf_l5 : Nat → zS → Int → Int → Int → Option (Int × zS)
  | 0, _, _, _, _ => none
  | n + 1, σ, x1, x2, x3 => f_X6_cutOf_b5 (f_X6_cutOf_l5 n) σ x1 x2 x3
def f_X6_cutOf (σ : zS) (x1 : Int) : Option (Int × zS) :=
  f_X6_cutOf_l5 z_fuel σ x1 (-9) 0
def f_X6_told_b19 (σ : zS) (s0 : Int) : Option (Int × zS) :=
  some (s0, σ)
def f_X6_told (σ : zS) (x1 : Int) (x2 : Int) : Option (Int × zS) :=
  if zr x2 then
    if 5 ≤ x2 then
      z_bind (f_X6_cutOf σ x1) fun r2 σ1 =>
      f_X6_told_b19 σ1 r2
    else
      z_bind (f_X6_of σ x1 x2) fun r4 σ3 =>
      f_X6_told_b19 σ3 r4
  else none
def f_X6_about_b31 (σ : zS) (s0 : Int) : Option (Int × zS) :=
  some (s0, σ)
def f_X6_about_b30 (σ : zS) : Option (Int × zS) :=
  f_X6_about_b31 σ (-1)
def f_X6_about (σ : zS) (x1 : Int) (x2 : Int) : Option (Int × zS) :=
  z_bind (f_X6_finds σ) fun _ σ1 =>
  z_bind (f_X6_isMark σ1 x1) fun r3 σ2 =>
  if zr r3 then
    if r3 = 0 then
      f_X6_about_b30 σ2
    else
      z_bind (f_X6_in σ2 x2 0 5) fun r5 σ4 =>
      if zr r5 then
        if r5 = 0 then
          f_X6_about_b30 σ4
        else
          z_bind (f_X6_told σ4 x1 x2) fun r7 σ6 =>
          f_X6_about_b31 σ6 r7
      else none
  else none
def f_X6_cuts (σ : zS) : Option (Int × zS) :=
  z_bind (f_X6_finds σ) fun _ σ1 =>
  some (σ1 0 12, σ1)
def f_X6_cut_b41 (σ : zS) (s0 : Int) : Option (Int × zS) :=
  some (s0, σ)
def f_X6_cut_b40 (σ : zS) : Option (Int × zS) :=
  f_X6_cut_b41 σ (-1)
def f_X6_cut (σ : zS) (x1 : Int) (x2 : Int) : Option (Int × zS) :=
  z_bind (f_X6_finds σ) fun _ σ1 =>
  z_bind (f_X6_in σ1 x1 0 ((σ1 0 12) - 1)) fun r3 σ2 =>
  if zr r3 then
    if r3 = 0 then
      f_X6_cut_b40 σ2
    else
      z_bind (f_X6_in σ2 x2 0 4) fun r5 σ4 =>
      if zr r5 then
        if r5 = 0 then
          f_X6_cut_b40 σ4
        else
          if 0 ≤ ((5 * x1) + x2) ∧ ((5 * x1) + x2) < 100 then
            f_X6_cut_b41 σ4 (σ4 6 ((5 * x1) + x2))
          else none
      else none
  else none
def f_X6_sumOf_b47 (K4 : zS → Int → Int → Int → Option (Int × zS)) (σ : zS) (x1 : Int) (x3 : Int) (s0 : Int) (s1 : Int) : Option (Int × zS) :=
  K4 σ x1 (s0 + s1) (x3 + 5)
def f_X6_sumOf_b4 (K4 : zS → Int → Int → Int → Option (Int × zS)) (σ : zS) (x1 : Int) (x2 : Int) (x3 : Int) : Option (Int × zS) :=
  if zr x3 ∧ zr (5 * (σ 0 12)) then
    if (5 * (σ 0 12)) ≤ x3 then
      some (x2, σ)
    else
      if zr x1 then
        if ¬ x1 = 0 then
          if 0 ≤ ((x3 + 1) + x1) ∧ ((x3 + 1) + x1) < 100 then
            f_X6_sumOf_b47 K4 σ x1 x3 x2 (σ 6 ((x3 + 1) + x1))
          else none
        else
          if 0 ≤ (x3 + 1) ∧ (x3 + 1) < 100 then
            if 0 ≤ x3 ∧ x3 < 100 then
              f_X6_sumOf_b47 K4 σ x1 x3 x2 ((σ 6 (x3 + 1)) - (σ 6 x3))
            else none
          else none
      else none
  else none
def f_X6_sumOf_l4 : Nat → zS → Int → Int → Int → Option (Int × zS)
  | 0, _, _, _, _ => none
  | n + 1, σ, x1, x2, x3 => f_X6_sumOf_b4 (f_X6_sumOf_l4 n) σ x1 x2 x3
def f_X6_sumOf (σ : zS) (x1 : Int) : Option (Int × zS) :=
  f_X6_sumOf_l4 z_fuel σ x1 0 0
def f_X6_sum_b22 (σ : zS) (s0 : Int) : Option (Int × zS) :=
  some (s0, σ)
def f_X6_sum (σ : zS) (x1 : Int) : Option (Int × zS) :=
  z_bind (f_X6_finds σ) fun _ σ1 =>
  z_bind (f_X6_in σ1 x1 0 2) fun r3 σ2 =>
  if zr r3 then
    if r3 = 0 then
      f_X6_sum_b22 σ2 (-1)
    else
      z_bind (f_X6_sumOf σ2 x1) fun r5 σ4 =>
      f_X6_sum_b22 σ4 r5
  else none
def f_X6_bestWindow_b68 (K15 : zS → Int → Int → Int → Int → Option (Int × zS)) (σ : zS) (x1 : Int) (x2 : Int) (x4 : Int) (s0 : Int) : Option (Int × zS) :=
  K15 σ x1 x2 s0 (x4 + 1)
def f_X6_bestWindow_b49 (K15 : zS → Int → Int → Int → Int → Option (Int × zS)) (σ : zS) (x1 : Int) (x3 : Int) (x4 : Int) (s0 : Int) : Option (Int × zS) :=
  z_bind (f_X6_sumOf σ 2) fun r2 σ1 =>
  if zr r2 ∧ zr x3 then
    if x3 ≤ r2 then
      f_X6_bestWindow_b68 K15 σ1 x1 s0 x4 x3
    else
      z_bind (f_X6_sumOf σ1 2) fun r4 σ3 =>
      f_X6_bestWindow_b68 K15 σ3 x1 s0 x4 r4
  else none
def f_X6_bestWindow_b15 (K15 : zS → Int → Int → Int → Int → Option (Int × zS)) (σ : zS) (x1 : Int) (x2 : Int) (x3 : Int) (x4 : Int) : Option (Int × zS) :=
  if zr x4 then
    if 20 < x4 then
      if 0 ≤ (2 : Int) ∧ (2 : Int) < 320 then z_put σ 1 2 x1 fun σ1 =>
        some (x2, σ1)
      else none
    else
      if 0 ≤ (2 : Int) ∧ (2 : Int) < 320 then z_put σ 1 2 x4 fun σ2 =>
        z_bind (f_X6_finds σ2) fun _ σ3 =>
        z_bind (f_X6_sumOf σ3 2) fun r5 σ4 =>
        if zr r5 ∧ zr x3 then
          if x3 ≤ r5 then
            f_X6_bestWindow_b49 K15 σ4 x1 x3 x4 x2
          else
            f_X6_bestWindow_b49 K15 σ4 x1 x3 x4 x4
        else none
      else none
  else none
def f_X6_bestWindow_l15 : Nat → zS → Int → Int → Int → Int → Option (Int × zS)
  | 0, _, _, _, _, _ => none
  | n + 1, σ, x1, x2, x3, x4 => f_X6_bestWindow_b15 (f_X6_bestWindow_l15 n) σ x1 x2 x3 x4
def f_X6_bestWindow (σ : zS) : Option (Int × zS) :=
  if 0 ≤ (2 : Int) ∧ (2 : Int) < 320 then
    f_X6_bestWindow_l15 z_fuel σ (σ 1 2) 0 99 0
  else none
def f_X6_greatestDoubt_b53 (K19 : zS → Int → Int → Int → Int → Option (Int × zS)) (σ : zS) (x1 : Int) (x2 : Int) (x4 : Int) (s0 : Int) : Option (Int × zS) :=
  K19 σ x1 x2 s0 (x4 + 1)
def f_X6_greatestDoubt_b19 (K19 : zS → Int → Int → Int → Int → Option (Int × zS)) (σ : zS) (x1 : Int) (x2 : Int) (x3 : Int) (x4 : Int) : Option (Int × zS) :=
  if zr x4 then
    if 100 < x4 then
      if 0 ≤ (0 : Int) ∧ (0 : Int) < 320 then z_put σ 1 0 x2 fun σ1 =>
        some (x3, σ1)
      else none
    else
      if 0 ≤ (0 : Int) ∧ (0 : Int) < 320 then z_put σ 1 0 x4 fun σ2 =>
        z_bind (f_X6_finds σ2) fun _ σ3 =>
        z_bind (f_X6_sumOf σ3 0) fun r5 σ4 =>
        if zr r5 ∧ zr x1 then
          if x1 < r5 then
            f_X6_greatestDoubt_b53 K19 σ4 x1 x2 x4 x3
          else
            f_X6_greatestDoubt_b53 K19 σ4 x1 x2 x4 x4
        else none
      else none
  else none
def f_X6_greatestDoubt_l19 : Nat → zS → Int → Int → Int → Int → Option (Int × zS)
  | 0, _, _, _, _, _ => none
  | n + 1, σ, x1, x2, x3, x4 => f_X6_greatestDoubt_b19 (f_X6_greatestDoubt_l19 n) σ x1 x2 x3 x4
def f_X6_greatestDoubt (σ : zS) (x1 : Int) : Option (Int × zS) :=
  if zr x1 then
    if 0 ≤ x1 then
      if 0 ≤ (0 : Int) ∧ (0 : Int) < 320 then
        f_X6_greatestDoubt_l19 z_fuel σ x1 (σ 1 0) (-9) 0
      else none
    else
      some ((-1), σ)
  else none
def f_X6_hears (σ : zS) (x1 : Int) (x2 : Int) : Option (Unit × zS) :=
  if 0 ≤ (σ 0 15) ∧ (σ 0 15) < 1400 then z_put σ 7 (σ 0 15) x1 fun σ1 =>
    if 0 ≤ (σ1 0 15) ∧ (σ1 0 15) < 1400 then z_put σ1 8 (σ1 0 15) x2 fun σ2 =>
      z_put σ2 0 15 ((σ2 0 15) + 1) fun σ3 =>
      some ((), σ3)
    else none
  else none
def f_X6_pauses_b72 (K2 : zS → Int → Int → Option (Unit × zS)) (σ : zS) (x1 : Int) (x2 : Int) (s1 : Int) (s2 : Int) : Option (Unit × zS) :=
  z_bind (f_X6_hears σ s1 s2) fun _ σ1 =>
  z_put σ1 0 18 ((σ1 0 18) + 1) fun σ2 =>
  K2 σ2 x1 (x2 + 1)
def f_X6_pauses_b52 (K2 : zS → Int → Int → Option (Unit × zS)) (σ : zS) (x1 : Int) (x2 : Int) (x3 : Int) (s1 : Int) : Option (Unit × zS) :=
  if zr (σ 0 17) then
    if ¬ (σ 0 17) = 0 then
      if 0 ≤ (10 + x3) ∧ (10 + x3) < 320 then
        f_X6_pauses_b72 K2 σ x1 x2 s1 (σ 1 (10 + x3))
      else none
    else
      f_X6_pauses_b72 K2 σ x1 x2 s1 0
  else none
def f_X6_pauses_b32 (K2 : zS → Int → Int → Option (Unit × zS)) (σ : zS) (x1 : Int) (x2 : Int) (s0 : Int) : Option (Unit × zS) :=
  if zr (σ 0 17) then
    if ¬ (σ 0 17) = 0 then
      f_X6_pauses_b52 K2 σ x1 x2 s0 (1000 + s0)
    else
      f_X6_pauses_b52 K2 σ x1 x2 s0 2000
  else none
def f_X6_pauses_b2 (K2 : zS → Int → Int → Option (Unit × zS)) (σ : zS) (x1 : Int) (x2 : Int) : Option (Unit × zS) :=
  if zr x2 ∧ zr x1 then
    if x1 ≤ x2 then
      some ((), σ)
    else
      if zr (σ 0 17) then
        if ¬ (σ 0 17) = 0 then
          if zr (σ 0 18) ∧ zr (σ 0 17) ∧ (σ 0 17) ≠ 0 then
            if 0 ≤ ((σ 0 18).tmod (σ 0 17)) ∧ ((σ 0 18).tmod (σ 0 17)) < 200 then
              f_X6_pauses_b32 K2 σ x1 x2 (σ 9 ((σ 0 18).tmod (σ 0 17)))
            else none
          else none
        else
          f_X6_pauses_b32 K2 σ x1 x2 0
      else none
  else none
def f_X6_pauses_l2 : Nat → zS → Int → Int → Option (Unit × zS)
  | 0, _, _, _ => none
  | n + 1, σ, x1, x2 => f_X6_pauses_b2 (f_X6_pauses_l2 n) σ x1 x2
def f_X6_pauses (σ : zS) (x1 : Int) : Option (Unit × zS) :=
  f_X6_pauses_l2 z_fuel σ x1 0
def f_X6_isNoise_b55 (K4 : zS → Int → Int → Int → Option (Int × zS)) (σ : zS) (x1 : Int) (x3 : Int) (s0 : Int) : Option (Int × zS) :=
  K4 σ x1 s0 (x3 + 1)
def f_X6_isNoise_b54 (K4 : zS → Int → Int → Int → Option (Int × zS)) (σ : zS) (x1 : Int) (x3 : Int) : Option (Int × zS) :=
  f_X6_isNoise_b55 K4 σ x1 x3 0
def f_X6_isNoise_b50 (K4 : zS → Int → Int → Int → Option (Int × zS)) (σ : zS) (x1 : Int) (x3 : Int) : Option (Int × zS) :=
  f_X6_isNoise_b55 K4 σ x1 x3 1
def f_X6_isNoise_b4 (K4 : zS → Int → Int → Int → Option (Int × zS)) (σ : zS) (x1 : Int) (x2 : Int) (x3 : Int) : Option (Int × zS) :=
  if 0 ≤ (8 : Int) ∧ (8 : Int) < 320 then
    if zr x3 ∧ zr (σ 1 8) then
      if (σ 1 8) ≤ x3 then
        if 0 ≤ x2 ∧ x2 ≤ 1 then some (x2, σ) else none
      else
        if zr x2 then
          if ¬ x2 = 0 then
            f_X6_isNoise_b50 K4 σ x1 x3
          else
            z_bind (f_X6_of σ x3 0) fun r2 σ1 =>
            if zr r2 then
              if ¬ r2 = 3 then
                f_X6_isNoise_b54 K4 σ1 x1 x3
              else
                z_bind (f_X6_of σ1 x3 1) fun r4 σ3 =>
                z_bind (f_X6_of σ3 x3 2) fun r6 σ5 =>
                z_bind (f_X6_in σ5 x1 r4 (r6 - 1)) fun r8 σ7 =>
                if zr r8 then
                  if r8 = 0 then
                    f_X6_isNoise_b54 K4 σ7 x1 x3
                  else
                    f_X6_isNoise_b50 K4 σ7 x1 x3
                else none
            else none
        else none
    else none
  else none
def f_X6_isNoise_l4 : Nat → zS → Int → Int → Int → Option (Int × zS)
  | 0, _, _, _, _ => none
  | n + 1, σ, x1, x2, x3 => f_X6_isNoise_b4 (f_X6_isNoise_l4 n) σ x1 x2 x3
def f_X6_isNoise (σ : zS) (x1 : Int) : Option (Int × zS) :=
  f_X6_isNoise_l4 z_fuel σ x1 0 0
def f_X6_plays_b210 (K95 : zS → Int → Int → Option (Unit × zS)) (σ : zS) (x1 : Int) (x2 : Int) : Option (Unit × zS) :=
  K95 σ x1 (x2 + 1)
def f_X6_plays_b168 (K95 : zS → Int → Int → Option (Unit × zS)) (K130 : zS → Int → Int → Int → Option (Unit × zS)) (σ : zS) (x1 : Int) (x2 : Int) (x3 : Int) (s1 : Int) (s2 : Int) : Option (Unit × zS) :=
  z_bind (f_X6_hears σ s1 s2) fun _ σ1 =>
  K130 σ1 (x1 + 1) x2 x3
def f_X6_plays_b130 (K95 : zS → Int → Int → Option (Unit × zS)) (K130 : zS → Int → Int → Int → Option (Unit × zS)) (σ : zS) (x1 : Int) (x2 : Int) (x3 : Int) : Option (Unit × zS) :=
  if zr x1 ∧ zr x3 then
    if x3 ≤ x1 then
      if zr x2 ∧ zr (σ 0 12) then
        if (σ 0 12) ≤ x2 then
          f_X6_plays_b210 K95 σ x1 x2
        else
          if 0 ≤ ((5 * x2) + 2) ∧ ((5 * x2) + 2) < 100 then
            z_bind (f_X6_pauses σ (σ 6 ((5 * x2) + 2))) fun _ σ1 =>
            if 0 ≤ ((5 * x2) + 1) ∧ ((5 * x2) + 1) < 100 then
              f_X6_plays_b210 K95 σ1 (σ1 6 ((5 * x2) + 1)) x2
            else none
          else none
      else none
    else
      z_bind (f_X6_isNoise σ x1) fun r3 σ2 =>
      if zr r3 then
        if r3 = 0 then
          if 0 ≤ (10 + x1) ∧ (10 + x1) < 320 then
            f_X6_plays_b168 K95 K130 σ2 x1 x2 x3 x1 (σ2 1 (10 + x1))
          else none
        else
          if 0 ≤ (10 + x1) ∧ (10 + x1) < 320 then
            if zr (σ2 1 (10 + x1)) ∧ zr 2 ∧ (2 : Int) ≠ 0 then
              f_X6_plays_b168 K95 K130 σ2 x1 x2 x3 x1 ((σ2 1 (10 + x1)).tdiv 2)
            else none
          else none
      else none
  else none
def f_X6_plays_l130 (K95 : zS → Int → Int → Option (Unit × zS)) : Nat → zS → Int → Int → Int → Option (Unit × zS)
  | 0, _, _, _, _ => none
  | n + 1, σ, x1, x2, x3 => f_X6_plays_b130 K95 (f_X6_plays_l130 K95 n) σ x1 x2 x3
def f_X6_plays_b129 (K95 : zS → Int → Int → Option (Unit × zS)) (σ : zS) (x1 : Int) (x2 : Int) (s0 : Int) : Option (Unit × zS) :=
  f_X6_plays_l130 K95 z_fuel σ x1 x2 s0
def f_X6_plays_b95 (K95 : zS → Int → Int → Option (Unit × zS)) (σ : zS) (x1 : Int) (x2 : Int) : Option (Unit × zS) :=
  if zr x2 ∧ zr (σ 0 12) then
    if (σ 0 12) < x2 then
      some ((), σ)
    else
      if zr x2 ∧ zr (σ 0 12) then
        if (σ 0 12) ≤ x2 then
          if 0 ≤ (7 : Int) ∧ (7 : Int) < 320 then
            f_X6_plays_b129 K95 σ x1 x2 (σ 1 7)
          else none
        else
          if 0 ≤ (5 * x2) ∧ (5 * x2) < 100 then
            f_X6_plays_b129 K95 σ x1 x2 (σ 6 (5 * x2))
          else none
      else none
  else none
def f_X6_plays_l95 : Nat → zS → Int → Int → Option (Unit × zS)
  | 0, _, _, _ => none
  | n + 1, σ, x1, x2 => f_X6_plays_b95 (f_X6_plays_l95 n) σ x1 x2
def f_X6_plays_b85 (K21 : zS → Int → Option (Unit × zS)) (σ : zS) (x1 : Int) : Option (Unit × zS) :=
  K21 σ (x1 + 1)
def f_X6_plays_b39 (K21 : zS → Int → Option (Unit × zS)) (K39 : zS → Int → Int → Option (Unit × zS)) (σ : zS) (x1 : Int) (x2 : Int) : Option (Unit × zS) :=
  z_bind (f_X6_of σ x1 2) fun r2 σ1 =>
  if zr x2 ∧ zr r2 then
    if r2 ≤ x2 then
      f_X6_plays_b85 K21 σ1 x1
    else
      z_bind (f_X6_of σ1 x1 0) fun r4 σ3 =>
      if zr r4 then
        if ¬ r4 = 2 then
          f_X6_plays_b85 K21 σ3 x1
        else
          if 0 ≤ (σ3 0 17) ∧ (σ3 0 17) < 200 then z_put σ3 9 (σ3 0 17) x2 fun σ5 =>
            z_put σ5 0 17 ((σ5 0 17) + 1) fun σ6 =>
            K39 σ6 x1 (x2 + 1)
          else none
      else none
  else none
def f_X6_plays_l39 (K21 : zS → Int → Option (Unit × zS)) : Nat → zS → Int → Int → Option (Unit × zS)
  | 0, _, _, _ => none
  | n + 1, σ, x1, x2 => f_X6_plays_b39 K21 (f_X6_plays_l39 K21 n) σ x1 x2
def f_X6_plays_b21 (K21 : zS → Int → Option (Unit × zS)) (σ : zS) (x1 : Int) : Option (Unit × zS) :=
  if 0 ≤ (8 : Int) ∧ (8 : Int) < 320 then
    if zr x1 ∧ zr (σ 1 8) then
      if (σ 1 8) ≤ x1 then
        f_X6_plays_l95 z_fuel σ 0 0
      else
        z_bind (f_X6_of σ x1 1) fun r2 σ1 =>
        f_X6_plays_l39 K21 z_fuel σ1 x1 r2
    else none
  else none
def f_X6_plays_l21 : Nat → zS → Int → Option (Unit × zS)
  | 0, _, _ => none
  | n + 1, σ, x1 => f_X6_plays_b21 (f_X6_plays_l21 n) σ x1
def f_X6_plays (σ : zS) : Option (Unit × zS) :=
  z_bind (f_X6_finds σ) fun _ σ1 =>
  z_put σ1 0 15 0 fun σ2 =>
  z_put σ2 0 17 0 fun σ3 =>
  z_put σ3 0 18 0 fun σ4 =>
  f_X6_plays_l21 z_fuel σ4 0
def f_X6_length (σ : zS) : Option (Int × zS) :=
  z_bind (f_X6_plays σ) fun _ σ1 =>
  some (σ1 0 15, σ1)
def f_X6_heard_b50 (σ : zS) (s0 : Int) : Option (Int × zS) :=
  some (s0, σ)
def f_X6_heard_b49 (σ : zS) : Option (Int × zS) :=
  f_X6_heard_b50 σ (-1)
def f_X6_heard (σ : zS) (x1 : Int) (x2 : Int) : Option (Int × zS) :=
  z_bind (f_X6_plays σ) fun _ σ1 =>
  z_bind (f_X6_in σ1 x1 0 ((σ1 0 15) - 1)) fun r3 σ2 =>
  if zr r3 then
    if r3 = 0 then
      f_X6_heard_b49 σ2
    else
      z_bind (f_X6_in σ2 x2 0 1) fun r5 σ4 =>
      if zr r5 then
        if r5 = 0 then
          f_X6_heard_b49 σ4
        else
          if zr x2 then
            if ¬ x2 = 0 then
              if 0 ≤ x1 ∧ x1 < 1400 then
                f_X6_heard_b50 σ4 (σ4 8 x1)
              else none
            else
              if 0 ≤ x1 ∧ x1 < 1400 then
                f_X6_heard_b50 σ4 (σ4 7 x1)
              else none
          else none
      else none
  else none
def f_X6_where_b51 (K28 : zS → Int → Int → Int → Option (Int × zS)) (σ : zS) (x1 : Int) (x3 : Int) (s0 : Int) : Option (Int × zS) :=
  K28 σ x1 s0 (x3 + 1)
def f_X6_where_b28 (K28 : zS → Int → Int → Int → Option (Int × zS)) (σ : zS) (x1 : Int) (x2 : Int) (x3 : Int) : Option (Int × zS) :=
  if zr x3 ∧ zr (σ 0 15) then
    if (σ 0 15) ≤ x3 then
      some (x2, σ)
    else
      if 0 ≤ x3 ∧ x3 < 1400 then
        if zr (σ 7 x3) ∧ zr x1 then
          if ¬ (σ 7 x3) = x1 then
            f_X6_where_b51 K28 σ x1 x3 x2
          else
            f_X6_where_b51 K28 σ x1 x3 x3
        else none
      else none
  else none
def f_X6_where_l28 : Nat → zS → Int → Int → Int → Option (Int × zS)
  | 0, _, _, _, _ => none
  | n + 1, σ, x1, x2, x3 => f_X6_where_b28 (f_X6_where_l28 n) σ x1 x2 x3
def f_X6_where (σ : zS) (x1 : Int) : Option (Int × zS) :=
  if 0 ≤ (7 : Int) ∧ (7 : Int) < 320 then
    z_bind (f_X6_in σ x1 0 ((σ 1 7) - 1)) fun r2 σ1 =>
    if zr r2 then
      if ¬ r2 = 0 then
        z_bind (f_X6_plays σ1) fun _ σ3 =>
        f_X6_where_l28 z_fuel σ3 x1 (-9) 0
      else
        some ((-1), σ1)
    else none
  else none
def f_X6_clicks_b64 (K20 : zS → Int → Int → Int → Option (Int × zS)) (σ : zS) (x1 : Int) (x3 : Int) (s0 : Int) (s1 : Int) : Option (Int × zS) :=
  K20 σ x1 (s0 + s1) (x3 + 1)
def f_X6_clicks_b59 (K20 : zS → Int → Int → Int → Option (Int × zS)) (σ : zS) (x1 : Int) (x3 : Int) (s0 : Int) : Option (Int × zS) :=
  f_X6_clicks_b64 K20 σ x1 x3 s0 1
def f_X6_clicks_b20 (K20 : zS → Int → Int → Int → Option (Int × zS)) (σ : zS) (x1 : Int) (x2 : Int) (x3 : Int) : Option (Int × zS) :=
  if zr x3 ∧ zr (σ 0 15) then
    if (σ 0 15) ≤ x3 then
      some (x2, σ)
    else
      if 0 ≤ x3 ∧ x3 < 1400 then
        if 0 ≤ (x3 - 1) ∧ (x3 - 1) < 1400 then
          if zr ((σ 8 x3) - (σ 8 (x3 - 1))) ∧ zr x1 then
            if x1 < ((σ 8 x3) - (σ 8 (x3 - 1))) then
              f_X6_clicks_b59 K20 σ x1 x3 x2
            else
              if zr (-((σ 8 x3) - (σ 8 (x3 - 1)))) ∧ zr x1 then
                if (-((σ 8 x3) - (σ 8 (x3 - 1)))) ≤ x1 then
                  f_X6_clicks_b64 K20 σ x1 x3 x2 0
                else
                  f_X6_clicks_b59 K20 σ x1 x3 x2
              else none
          else none
        else none
      else none
  else none
def f_X6_clicks_l20 : Nat → zS → Int → Int → Int → Option (Int × zS)
  | 0, _, _, _, _ => none
  | n + 1, σ, x1, x2, x3 => f_X6_clicks_b20 (f_X6_clicks_l20 n) σ x1 x2 x3
def f_X6_clicks (σ : zS) (x1 : Int) : Option (Int × zS) :=
  z_bind (f_X6_in σ x1 0 9) fun r2 σ1 =>
  if zr r2 then
    if ¬ r2 = 0 then
      z_bind (f_X6_plays σ1) fun _ σ3 =>
      f_X6_clicks_l20 z_fuel σ3 x1 0 1
    else
      some ((-1), σ1)
  else none
def f_X6_silence_b51 (K10 : zS → Int → Int → Int → Option (Int × zS)) (σ : zS) (x2 : Int) (x3 : Int) (s0 : Int) : Option (Int × zS) :=
  K10 σ s0 x2 (x3 + 1)
def f_X6_silence_b40 (K10 : zS → Int → Int → Int → Option (Int × zS)) (σ : zS) (x1 : Int) (x3 : Int) (s0 : Int) : Option (Int × zS) :=
  if zr s0 ∧ zr x1 then
    if s0 ≤ x1 then
      f_X6_silence_b51 K10 σ s0 x3 x1
    else
      f_X6_silence_b51 K10 σ s0 x3 s0
  else none
def f_X6_silence_b10 (K10 : zS → Int → Int → Int → Option (Int × zS)) (σ : zS) (x1 : Int) (x2 : Int) (x3 : Int) : Option (Int × zS) :=
  if zr x3 ∧ zr (σ 0 15) then
    if (σ 0 15) ≤ x3 then
      some (x1, σ)
    else
      if 0 ≤ x3 ∧ x3 < 1400 then
        if 0 ≤ (1 : Int) ∧ (1 : Int) < 320 then
          if zr (σ 8 x3) ∧ zr (σ 1 1) then
            if (σ 1 1) < (σ 8 x3) then
              f_X6_silence_b40 K10 σ x1 x3 0
            else
              f_X6_silence_b40 K10 σ x1 x3 (x2 + 1)
          else none
        else none
      else none
  else none
def f_X6_silence_l10 : Nat → zS → Int → Int → Int → Option (Int × zS)
  | 0, _, _, _, _ => none
  | n + 1, σ, x1, x2, x3 => f_X6_silence_b10 (f_X6_silence_l10 n) σ x1 x2 x3
def f_X6_silence (σ : zS) : Option (Int × zS) :=
  z_bind (f_X6_plays σ) fun _ σ1 =>
  f_X6_silence_l10 z_fuel σ1 0 0 0
def f_X6_undo_b22 (K22 : zS → Int → Option (Int × zS)) (σ : zS) (x1 : Int) : Option (Int × zS) :=
  if zr x1 then
    if 320 ≤ x1 then
      some (σ 0 2, σ)
    else
      if 0 ≤ ((320 * (σ 0 2)) + x1) ∧ ((320 * (σ 0 2)) + x1) < 1280 then
        if 0 ≤ x1 ∧ x1 < 320 then z_put σ 1 x1 (σ 2 ((320 * (σ 0 2)) + x1)) fun σ1 =>
          K22 σ1 (x1 + 1)
        else none
      else none
  else none
def f_X6_undo_l22 : Nat → zS → Int → Option (Int × zS)
  | 0, _, _ => none
  | n + 1, σ, x1 => f_X6_undo_b22 (f_X6_undo_l22 n) σ x1
def f_X6_undo (σ : zS) : Option (Int × zS) :=
  if zr (σ 0 2) then
    if ¬ (σ 0 2) = 0 then
      z_put σ 0 2 ((σ 0 2) - 1) fun σ1 =>
      f_X6_undo_l22 z_fuel σ1 0
    else
      some ((-9), σ)
  else none
def f_X6_fingerprint_b180 (K180 : zS → Int → Int → Option (Int × zS)) (σ : zS) (y1 : Int) (x3 : Int) : Option (Int × zS) :=
  if zr x3 ∧ zr (σ 0 15) then
    if (σ 0 15) ≤ x3 then
      some (y1, σ)
    else
      if 0 ≤ x3 ∧ x3 < 1400 then
        if zr (σ 7 x3) then
          if 0 ≤ x3 ∧ x3 < 1400 then
            if zr (σ 8 x3) then
              K180 σ ((31 * ((31 * y1) + (σ 7 x3))) + (σ 8 x3)) (x3 + 1)
            else none
          else none
        else none
      else none
  else none
def f_X6_fingerprint_l180 : Nat → zS → Int → Int → Option (Int × zS)
  | 0, _, _, _ => none
  | n + 1, σ, y1, x3 => f_X6_fingerprint_b180 (f_X6_fingerprint_l180 n) σ y1 x3
def f_X6_fingerprint_b136 (K136 : zS → Int → Int → Option (Int × zS)) (σ : zS) (y1 : Int) (x3 : Int) : Option (Int × zS) :=
  if zr x3 ∧ zr (5 * (σ 0 12)) then
    if (5 * (σ 0 12)) ≤ x3 then
      if zr (σ 0 15) then
        f_X6_fingerprint_l180 z_fuel σ ((31 * y1) + (σ 0 15)) 0
      else none
    else
      if 0 ≤ x3 ∧ x3 < 100 then
        if zr (σ 6 x3) then
          K136 σ ((31 * y1) + (σ 6 x3)) (x3 + 1)
        else none
      else none
  else none
def f_X6_fingerprint_l136 : Nat → zS → Int → Int → Option (Int × zS)
  | 0, _, _, _ => none
  | n + 1, σ, y1, x3 => f_X6_fingerprint_b136 (f_X6_fingerprint_l136 n) σ y1 x3
def f_X6_fingerprint_b88 (K74 : zS → Int → Int → Option (Int × zS)) (K88 : zS → Int → Int → Int → Option (Int × zS)) (σ : zS) (y1 : Int) (x3 : Int) (x4 : Int) : Option (Int × zS) :=
  if zr x4 then
    if 6 ≤ x4 then
      K74 σ y1 (x3 + 1)
    else
      z_bind (f_X6_told σ x3 x4) fun r2 σ1 =>
      if zr r2 then
        K88 σ1 ((31 * y1) + r2) x3 (x4 + 1)
      else none
  else none
def f_X6_fingerprint_l88 (K74 : zS → Int → Int → Option (Int × zS)) : Nat → zS → Int → Int → Int → Option (Int × zS)
  | 0, _, _, _, _ => none
  | n + 1, σ, y1, x3, x4 => f_X6_fingerprint_b88 K74 (f_X6_fingerprint_l88 K74 n) σ y1 x3 x4
def f_X6_fingerprint_b74 (K74 : zS → Int → Int → Option (Int × zS)) (σ : zS) (y1 : Int) (x3 : Int) : Option (Int × zS) :=
  if 0 ≤ (8 : Int) ∧ (8 : Int) < 320 then
    if zr x3 ∧ zr (σ 1 8) then
      if (σ 1 8) ≤ x3 then
        if zr (σ 0 12) then
          f_X6_fingerprint_l136 z_fuel σ ((31 * y1) + (σ 0 12)) 0
        else none
      else
        f_X6_fingerprint_l88 K74 z_fuel σ y1 x3 0
    else none
  else none
def f_X6_fingerprint_l74 : Nat → zS → Int → Int → Option (Int × zS)
  | 0, _, _, _ => none
  | n + 1, σ, y1, x3 => f_X6_fingerprint_b74 (f_X6_fingerprint_l74 n) σ y1 x3
def f_X6_fingerprint_b38 (K38 : zS → Int → Int → Option (Int × zS)) (σ : zS) (y1 : Int) (x3 : Int) : Option (Int × zS) :=
  if 0 ≤ (7 : Int) ∧ (7 : Int) < 320 then
    if zr x3 ∧ zr (σ 1 7) then
      if (σ 1 7) ≤ x3 then
        f_X6_fingerprint_l74 z_fuel σ y1 0
      else
        if 0 ≤ (10 + x3) ∧ (10 + x3) < 320 then
          if zr (σ 1 (10 + x3)) then
            K38 σ ((31 * y1) + (σ 1 (10 + x3))) (x3 + 1)
          else none
        else none
    else none
  else none
def f_X6_fingerprint_l38 : Nat → zS → Int → Int → Option (Int × zS)
  | 0, _, _, _ => none
  | n + 1, σ, y1, x3 => f_X6_fingerprint_b38 (f_X6_fingerprint_l38 n) σ y1 x3
def f_X6_fingerprint_b10 (K10 : zS → Int → Int → Option (Int × zS)) (σ : zS) (y1 : Int) (x3 : Int) : Option (Int × zS) :=
  if zr x3 then
    if 9 ≤ x3 then
      f_X6_fingerprint_l38 z_fuel σ y1 0
    else
      if 0 ≤ x3 ∧ x3 < 320 then
        if zr (σ 1 x3) then
          K10 σ ((31 * y1) + (σ 1 x3)) (x3 + 1)
        else none
      else none
  else none
def f_X6_fingerprint_l10 : Nat → zS → Int → Int → Option (Int × zS)
  | 0, _, _, _ => none
  | n + 1, σ, y1, x3 => f_X6_fingerprint_b10 (f_X6_fingerprint_l10 n) σ y1 x3
def f_X6_fingerprint (σ : zS) : Option (Int × zS) :=
  z_bind (f_X6_plays σ) fun _ σ1 =>
  f_X6_fingerprint_l10 z_fuel σ1 151 0
end
section
-- ===== PART A: goes FIRST, ahead of the names: the tables' words, and 'selects' of the private methods out of them =====
/-- a private method of a class that the tables say can be made, by its rows of tables_1 -/
def lw_okq (q : MethodName × Nat) : Prop := (q.1.cls ≠ "java/lang/invoke/MethodHandle" ∧ q.1.cls ≠ "java/lang/invoke/VarHandle") ∧ Cond.instantiable q.1.cls q.2 ∈ tables_1 ∧ Cond.privateMethod q.1 ∈ tables_1 ∧ Cond.instanceMethod q.1 ∈ tables_1
theorem lw_p0 : lw_okq (⟨"SpeechCleaner", "currentCuts", "()LSpeechCleaner$CutList;"⟩, 7) := ⟨⟨by decide +kernel, by decide +kernel⟩, List.mem_of_getElem? (i := 11) (by decide +kernel), List.mem_of_getElem? (i := 336) (by decide +kernel), List.mem_of_getElem? (i := 337) (by decide +kernel)⟩
theorem lw_p1 : lw_okq (⟨"SpeechCleaner", "currentResult", "()LSpeechCleaner$Result;"⟩, 7) := ⟨⟨by decide +kernel, by decide +kernel⟩, List.mem_of_getElem? (i := 11) (by decide +kernel), List.mem_of_getElem? (i := 447) (by decide +kernel), List.mem_of_getElem? (i := 448) (by decide +kernel)⟩
theorem lw_p2 : lw_okq (⟨"SpeechCleaner", "withMarks", "(JLSpeechCleaner$CutList;)J"⟩, 7) := ⟨⟨by decide +kernel, by decide +kernel⟩, List.mem_of_getElem? (i := 11) (by decide +kernel), List.mem_of_getElem? (i := 540) (by decide +kernel), List.mem_of_getElem? (i := 541) (by decide +kernel)⟩
theorem lw_p3 : lw_okq (⟨"SpeechCleaner", "withCuts", "(JLSpeechCleaner$CutList;)J"⟩, 7) := ⟨⟨by decide +kernel, by decide +kernel⟩, List.mem_of_getElem? (i := 11) (by decide +kernel), List.mem_of_getElem? (i := 544) (by decide +kernel), List.mem_of_getElem? (i := 545) (by decide +kernel)⟩
theorem lw_p4 : lw_okq (⟨"SpeechCleaner", "withResult", "(JLSpeechCleaner$Result;)J"⟩, 7) := ⟨⟨by decide +kernel, by decide +kernel⟩, List.mem_of_getElem? (i := 11) (by decide +kernel), List.mem_of_getElem? (i := 548) (by decide +kernel), List.mem_of_getElem? (i := 549) (by decide +kernel)⟩
theorem lw_p5 : lw_okq (⟨"SpeechCleanerModel", "wrongAt", "()I"⟩, 19) := ⟨⟨by decide +kernel, by decide +kernel⟩, List.mem_of_getElem? (i := 552) (by decide +kernel), List.mem_of_getElem? (i := 631) (by decide +kernel), List.mem_of_getElem? (i := 632) (by decide +kernel)⟩
theorem lw_p6 : lw_okq (⟨"SpeechCleanerModel", "isDigit", "()Z"⟩, 19) := ⟨⟨by decide +kernel, by decide +kernel⟩, List.mem_of_getElem? (i := 552) (by decide +kernel), List.mem_of_getElem? (i := 635) (by decide +kernel), List.mem_of_getElem? (i := 636) (by decide +kernel)⟩
theorem lw_p7 : lw_okq (⟨"SpeechCleanerModel", "sign", "()I"⟩, 19) := ⟨⟨by decide +kernel, by decide +kernel⟩, List.mem_of_getElem? (i := 552) (by decide +kernel), List.mem_of_getElem? (i := 639) (by decide +kernel), List.mem_of_getElem? (i := 640) (by decide +kernel)⟩
theorem lw_p8 : lw_okq (⟨"SpeechCleanerModel", "takesFrames", "()V"⟩, 19) := ⟨⟨by decide +kernel, by decide +kernel⟩, List.mem_of_getElem? (i := 552) (by decide +kernel), List.mem_of_getElem? (i := 643) (by decide +kernel), List.mem_of_getElem? (i := 644) (by decide +kernel)⟩
theorem lw_p9 : lw_okq (⟨"SpeechCleanerModel", "readsMark", "()Z"⟩, 19) := ⟨⟨by decide +kernel, by decide +kernel⟩, List.mem_of_getElem? (i := 552) (by decide +kernel), List.mem_of_getElem? (i := 647) (by decide +kernel), List.mem_of_getElem? (i := 648) (by decide +kernel)⟩
theorem lw_p10 : lw_okq (⟨"SpeechCleanerModel", "doubt", "()Z"⟩, 19) := ⟨⟨by decide +kernel, by decide +kernel⟩, List.mem_of_getElem? (i := 552) (by decide +kernel), List.mem_of_getElem? (i := 651) (by decide +kernel), List.mem_of_getElem? (i := 652) (by decide +kernel)⟩
theorem lw_p11 : lw_okq (⟨"SpeechCleanerModel", "takes", "(I)Z"⟩, 19) := ⟨⟨by decide +kernel, by decide +kernel⟩, List.mem_of_getElem? (i := 552) (by decide +kernel), List.mem_of_getElem? (i := 655) (by decide +kernel), List.mem_of_getElem? (i := 656) (by decide +kernel)⟩
theorem lw_p12 : lw_okq (⟨"SpeechCleanerModel", "act", "()V"⟩, 19) := ⟨⟨by decide +kernel, by decide +kernel⟩, List.mem_of_getElem? (i := 552) (by decide +kernel), List.mem_of_getElem? (i := 659) (by decide +kernel), List.mem_of_getElem? (i := 660) (by decide +kernel)⟩
theorem lw_p13 : lw_okq (⟨"SpeechCleanerModel", "of", "(II)I"⟩, 19) := ⟨⟨by decide +kernel, by decide +kernel⟩, List.mem_of_getElem? (i := 552) (by decide +kernel), List.mem_of_getElem? (i := 676) (by decide +kernel), List.mem_of_getElem? (i := 677) (by decide +kernel)⟩
theorem lw_p14 : lw_okq (⟨"SpeechCleanerModel", "isMark", "(I)Z"⟩, 19) := ⟨⟨by decide +kernel, by decide +kernel⟩, List.mem_of_getElem? (i := 552) (by decide +kernel), List.mem_of_getElem? (i := 684) (by decide +kernel), List.mem_of_getElem? (i := 685) (by decide +kernel)⟩
theorem lw_p15 : lw_okq (⟨"SpeechCleanerModel", "sets", "(II)I"⟩, 19) := ⟨⟨by decide +kernel, by decide +kernel⟩, List.mem_of_getElem? (i := 552) (by decide +kernel), List.mem_of_getElem? (i := 692) (by decide +kernel), List.mem_of_getElem? (i := 693) (by decide +kernel)⟩
def lw_privs_1 : List (MethodName × Nat) := [(⟨"SpeechCleaner", "currentCuts", "()LSpeechCleaner$CutList;"⟩, 7), (⟨"SpeechCleaner", "currentResult", "()LSpeechCleaner$Result;"⟩, 7), (⟨"SpeechCleaner", "withMarks", "(JLSpeechCleaner$CutList;)J"⟩, 7), (⟨"SpeechCleaner", "withCuts", "(JLSpeechCleaner$CutList;)J"⟩, 7), (⟨"SpeechCleaner", "withResult", "(JLSpeechCleaner$Result;)J"⟩, 7), (⟨"SpeechCleanerModel", "wrongAt", "()I"⟩, 19), (⟨"SpeechCleanerModel", "isDigit", "()Z"⟩, 19), (⟨"SpeechCleanerModel", "sign", "()I"⟩, 19), (⟨"SpeechCleanerModel", "takesFrames", "()V"⟩, 19), (⟨"SpeechCleanerModel", "readsMark", "()Z"⟩, 19), (⟨"SpeechCleanerModel", "doubt", "()Z"⟩, 19), (⟨"SpeechCleanerModel", "takes", "(I)Z"⟩, 19), (⟨"SpeechCleanerModel", "act", "()V"⟩, 19), (⟨"SpeechCleanerModel", "of", "(II)I"⟩, 19), (⟨"SpeechCleanerModel", "isMark", "(I)Z"⟩, 19), (⟨"SpeechCleanerModel", "sets", "(II)I"⟩, 19)]
theorem lw_r1 : ∀ q ∈ lw_privs_1, lw_okq q := List.forall_mem_cons.mpr ⟨lw_p0, List.forall_mem_cons.mpr ⟨lw_p1, List.forall_mem_cons.mpr ⟨lw_p2, List.forall_mem_cons.mpr ⟨lw_p3, List.forall_mem_cons.mpr ⟨lw_p4, List.forall_mem_cons.mpr ⟨lw_p5, List.forall_mem_cons.mpr ⟨lw_p6, List.forall_mem_cons.mpr ⟨lw_p7, List.forall_mem_cons.mpr ⟨lw_p8, List.forall_mem_cons.mpr ⟨lw_p9, List.forall_mem_cons.mpr ⟨lw_p10, List.forall_mem_cons.mpr ⟨lw_p11, List.forall_mem_cons.mpr ⟨lw_p12, List.forall_mem_cons.mpr ⟨lw_p13, List.forall_mem_cons.mpr ⟨lw_p14, List.forall_mem_cons.mpr ⟨lw_p15, fun _ h => absurd h List.not_mem_nil⟩⟩⟩⟩⟩⟩⟩⟩⟩⟩⟩⟩⟩⟩⟩⟩
theorem lw_p16 : lw_okq (⟨"SpeechCleanerModel", "finds", "()V"⟩, 19) := ⟨⟨by decide +kernel, by decide +kernel⟩, List.mem_of_getElem? (i := 552) (by decide +kernel), List.mem_of_getElem? (i := 715) (by decide +kernel), List.mem_of_getElem? (i := 716) (by decide +kernel)⟩
theorem lw_p17 : lw_okq (⟨"SpeechCleanerModel", "fills", "(I)V"⟩, 19) := ⟨⟨by decide +kernel, by decide +kernel⟩, List.mem_of_getElem? (i := 552) (by decide +kernel), List.mem_of_getElem? (i := 719) (by decide +kernel), List.mem_of_getElem? (i := 720) (by decide +kernel)⟩
theorem lw_p18 : lw_okq (⟨"SpeechCleanerModel", "seam", "(III)I"⟩, 19) := ⟨⟨by decide +kernel, by decide +kernel⟩, List.mem_of_getElem? (i := 552) (by decide +kernel), List.mem_of_getElem? (i := 723) (by decide +kernel), List.mem_of_getElem? (i := 724) (by decide +kernel)⟩
theorem lw_p19 : lw_okq (⟨"SpeechCleanerModel", "isQuiet", "(I)Z"⟩, 19) := ⟨⟨by decide +kernel, by decide +kernel⟩, List.mem_of_getElem? (i := 552) (by decide +kernel), List.mem_of_getElem? (i := 727) (by decide +kernel), List.mem_of_getElem? (i := 728) (by decide +kernel)⟩
theorem lw_p20 : lw_okq (⟨"SpeechCleanerModel", "levelAt", "(I)I"⟩, 19) := ⟨⟨by decide +kernel, by decide +kernel⟩, List.mem_of_getElem? (i := 552) (by decide +kernel), List.mem_of_getElem? (i := 731) (by decide +kernel), List.mem_of_getElem? (i := 732) (by decide +kernel)⟩
theorem lw_p21 : lw_okq (⟨"SpeechCleanerModel", "lays", "(IIIII)V"⟩, 19) := ⟨⟨by decide +kernel, by decide +kernel⟩, List.mem_of_getElem? (i := 552) (by decide +kernel), List.mem_of_getElem? (i := 735) (by decide +kernel), List.mem_of_getElem? (i := 736) (by decide +kernel)⟩
theorem lw_p22 : lw_okq (⟨"SpeechCleanerModel", "told", "(II)I"⟩, 19) := ⟨⟨by decide +kernel, by decide +kernel⟩, List.mem_of_getElem? (i := 552) (by decide +kernel), List.mem_of_getElem? (i := 739) (by decide +kernel), List.mem_of_getElem? (i := 740) (by decide +kernel)⟩
theorem lw_p23 : lw_okq (⟨"SpeechCleanerModel", "cutOf", "(I)I"⟩, 19) := ⟨⟨by decide +kernel, by decide +kernel⟩, List.mem_of_getElem? (i := 552) (by decide +kernel), List.mem_of_getElem? (i := 743) (by decide +kernel), List.mem_of_getElem? (i := 744) (by decide +kernel)⟩
theorem lw_p24 : lw_okq (⟨"SpeechCleanerModel", "sumOf", "(I)I"⟩, 19) := ⟨⟨by decide +kernel, by decide +kernel⟩, List.mem_of_getElem? (i := 552) (by decide +kernel), List.mem_of_getElem? (i := 759) (by decide +kernel), List.mem_of_getElem? (i := 760) (by decide +kernel)⟩
theorem lw_p25 : lw_okq (⟨"SpeechCleanerModel", "plays", "()V"⟩, 19) := ⟨⟨by decide +kernel, by decide +kernel⟩, List.mem_of_getElem? (i := 552) (by decide +kernel), List.mem_of_getElem? (i := 775) (by decide +kernel), List.mem_of_getElem? (i := 776) (by decide +kernel)⟩
theorem lw_p26 : lw_okq (⟨"SpeechCleanerModel", "isNoise", "(I)Z"⟩, 19) := ⟨⟨by decide +kernel, by decide +kernel⟩, List.mem_of_getElem? (i := 552) (by decide +kernel), List.mem_of_getElem? (i := 779) (by decide +kernel), List.mem_of_getElem? (i := 780) (by decide +kernel)⟩
theorem lw_p27 : lw_okq (⟨"SpeechCleanerModel", "hears", "(II)V"⟩, 19) := ⟨⟨by decide +kernel, by decide +kernel⟩, List.mem_of_getElem? (i := 552) (by decide +kernel), List.mem_of_getElem? (i := 783) (by decide +kernel), List.mem_of_getElem? (i := 784) (by decide +kernel)⟩
theorem lw_p28 : lw_okq (⟨"SpeechCleanerModel", "pauses", "(I)V"⟩, 19) := ⟨⟨by decide +kernel, by decide +kernel⟩, List.mem_of_getElem? (i := 552) (by decide +kernel), List.mem_of_getElem? (i := 787) (by decide +kernel), List.mem_of_getElem? (i := 788) (by decide +kernel)⟩
def lw_privs_2 : List (MethodName × Nat) := [(⟨"SpeechCleanerModel", "finds", "()V"⟩, 19), (⟨"SpeechCleanerModel", "fills", "(I)V"⟩, 19), (⟨"SpeechCleanerModel", "seam", "(III)I"⟩, 19), (⟨"SpeechCleanerModel", "isQuiet", "(I)Z"⟩, 19), (⟨"SpeechCleanerModel", "levelAt", "(I)I"⟩, 19), (⟨"SpeechCleanerModel", "lays", "(IIIII)V"⟩, 19), (⟨"SpeechCleanerModel", "told", "(II)I"⟩, 19), (⟨"SpeechCleanerModel", "cutOf", "(I)I"⟩, 19), (⟨"SpeechCleanerModel", "sumOf", "(I)I"⟩, 19), (⟨"SpeechCleanerModel", "plays", "()V"⟩, 19), (⟨"SpeechCleanerModel", "isNoise", "(I)Z"⟩, 19), (⟨"SpeechCleanerModel", "hears", "(II)V"⟩, 19), (⟨"SpeechCleanerModel", "pauses", "(I)V"⟩, 19)]
theorem lw_r2 : ∀ q ∈ lw_privs_2, lw_okq q := List.forall_mem_cons.mpr ⟨lw_p16, List.forall_mem_cons.mpr ⟨lw_p17, List.forall_mem_cons.mpr ⟨lw_p18, List.forall_mem_cons.mpr ⟨lw_p19, List.forall_mem_cons.mpr ⟨lw_p20, List.forall_mem_cons.mpr ⟨lw_p21, List.forall_mem_cons.mpr ⟨lw_p22, List.forall_mem_cons.mpr ⟨lw_p23, List.forall_mem_cons.mpr ⟨lw_p24, List.forall_mem_cons.mpr ⟨lw_p25, List.forall_mem_cons.mpr ⟨lw_p26, List.forall_mem_cons.mpr ⟨lw_p27, List.forall_mem_cons.mpr ⟨lw_p28, fun _ h => absurd h List.not_mem_nil⟩⟩⟩⟩⟩⟩⟩⟩⟩⟩⟩⟩⟩
def lw_privs : List (MethodName × Nat) := lw_privs_1 ++ (lw_privs_2)
def lw_tbl : List Cond := k2_sels lw_privs ++ tables_1
theorem lw_privs_ok : ∀ q ∈ lw_privs, lw_okq q := by
  show ∀ q ∈ lw_privs_1 ++ (lw_privs_2), lw_okq q
  exact List.forall_mem_append.mpr ⟨lw_r1, lw_r2⟩
/-- the streams that the claim lets the run draw from -/
abbrev lw_cs : List Choice := [Jvm.Choice.named "NaN.bits"]
theorem lw_bits : nanBits ∈ lw_cs := by first | decide | exact List.mem_cons_self | simp [lw_cs, nanBits]

def RX0 : String := "SpeechCleaner$CutList"
def TX0 : u_T := fun k => match k with
  | 0 => ("SpeechCleaner$CutList", "begins", "[I", true)
  | 1 => ("SpeechCleaner$CutList", "ends", "[I", true)
  | 2 => ("SpeechCleaner$CutList", "pauses", "[I", true)
  | 3 => ("SpeechCleaner$CutList", "rough", "[Z", true)
  | 4 => ("SpeechCleaner$CutList", "markNumbers", "[I", true)
  | _ => ("SpeechCleaner$CutList", "count", "I", false)
def tyX0 : Nat → FieldType := fun k => match k with
  | 0 => .array .int
  | 1 => .array .int
  | 2 => .array .int
  | 3 => .array .boolean
  | 4 => .array .int
  | _ => .int
abbrev wsX00 : List Cond := u_ws RX0 TX0 6
theorem nmX0 : ∀ a, a < 6 → ∀ b, b < 6 → a ≠ b → (TX0 a).2.1 ≠ (TX0 b).2.1 := by decide +kernel
theorem tyX0_ok : ∀ k, k < 6 → parseFieldDescriptor (TX0 k).2.2.1 = some (tyX0 k) := by decide +kernel
abbrev cX0_init : ByteArray := prog_2_method_1_code
def yX0_init : MethodName := ⟨RX0, "<init>", "()V"⟩
abbrev cX0_find : ByteArray := prog_2_method_2_code
def yX0_find : MethodName := ⟨RX0, "find", "(LSpeechCleaner$Recording;II)V"⟩
abbrev cX0_addFillerCut : ByteArray := prog_2_method_3_code
def yX0_addFillerCut : MethodName := ⟨RX0, "addFillerCut", "(LSpeechCleaner$Recording;II)V"⟩
abbrev cX0_addBreathCut : ByteArray := prog_2_method_4_code
def yX0_addBreathCut : MethodName := ⟨RX0, "addBreathCut", "(LSpeechCleaner$Recording;I)V"⟩
abbrev cX0_addCut : ByteArray := prog_2_method_5_code
def yX0_addCut : MethodName := ⟨RX0, "addCut", "(IIIZI)V"⟩
abbrev cX0_endOfLastCut : ByteArray := prog_2_method_6_code
def yX0_endOfLastCut : MethodName := ⟨RX0, "endOfLastCut", "()I"⟩
abbrev cX0_cutOfMark : ByteArray := prog_2_method_7_code
def yX0_cutOfMark : MethodName := ⟨RX0, "cutOfMark", "(I)I"⟩
abbrev cX0_numberOfCut : ByteArray := prog_2_method_8_code
def yX0_numberOfCut : MethodName := ⟨RX0, "numberOfCut", "(II)I"⟩
abbrev cX0_cutFrames : ByteArray := prog_2_method_9_code
def yX0_cutFrames : MethodName := ⟨RX0, "cutFrames", "()I"⟩
abbrev cX0_pauseFrames : ByteArray := prog_2_method_10_code
def yX0_pauseFrames : MethodName := ⟨RX0, "pauseFrames", "()I"⟩
abbrev cX0_roughCuts : ByteArray := prog_2_method_11_code
def yX0_roughCuts : MethodName := ⟨RX0, "roughCuts", "()I"⟩
def RX1 : String := "SpeechCleaner$History"
def TX1 : u_T := fun k => match k with
  | 0 => ("SpeechCleaner$History", "states", "[LSpeechCleaner$Recording;", true)
  | _ => ("SpeechCleaner$History", "count", "I", false)
def tyX1 : Nat → FieldType := fun k => match k with
  | 0 => .array (.object "SpeechCleaner$Recording")
  | _ => .int
abbrev wsX10 : List Cond := u_ws RX1 TX1 2
theorem nmX1 : ∀ a, a < 2 → ∀ b, b < 2 → a ≠ b → (TX1 a).2.1 ≠ (TX1 b).2.1 := by decide +kernel
theorem tyX1_ok : ∀ k, k < 2 → parseFieldDescriptor (TX1 k).2.2.1 = some (tyX1 k) := by decide +kernel
abbrev cX1_init : ByteArray := prog_3_method_1_code
def yX1_init : MethodName := ⟨RX1, "<init>", "()V"⟩
abbrev cX1_keep : ByteArray := prog_3_method_2_code
def yX1_keep : MethodName := ⟨RX1, "keep", "(LSpeechCleaner$Recording;)V"⟩
abbrev cX1_dropOldest : ByteArray := prog_3_method_3_code
def yX1_dropOldest : MethodName := ⟨RX1, "dropOldest", "()V"⟩
abbrev cX1_restoreLatest : ByteArray := prog_3_method_4_code
def yX1_restoreLatest : MethodName := ⟨RX1, "restoreLatest", "(LSpeechCleaner$Recording;)V"⟩
def RX2 : String := "SpeechCleaner$Recording"
def TX2 : u_T := fun k => match k with
  | 0 => ("SpeechCleaner$Recording", "levels", "[I", true)
  | 1 => ("SpeechCleaner$Recording", "frames", "I", false)
  | 2 => ("SpeechCleaner$Recording", "kinds", "[I", true)
  | 3 => ("SpeechCleaner$Recording", "firsts", "[I", true)
  | 4 => ("SpeechCleaner$Recording", "ends", "[I", true)
  | 5 => ("SpeechCleaner$Recording", "doubts", "[I", true)
  | 6 => ("SpeechCleaner$Recording", "held", "[Z", true)
  | 7 => ("SpeechCleaner$Recording", "marks", "I", false)
  | _ => ("SpeechCleaner$Recording", "settings", "[I", true)
def tyX2 : Nat → FieldType := fun k => match k with
  | 0 => .array .int
  | 1 => .int
  | 2 => .array .int
  | 3 => .array .int
  | 4 => .array .int
  | 5 => .array .int
  | 6 => .array .boolean
  | 7 => .int
  | _ => .array .int
abbrev wsX20 : List Cond := u_ws RX2 TX2 9
theorem nmX2 : ∀ a, a < 9 → ∀ b, b < 9 → a ≠ b → (TX2 a).2.1 ≠ (TX2 b).2.1 := by decide +kernel
theorem tyX2_ok : ∀ k, k < 9 → parseFieldDescriptor (TX2 k).2.2.1 = some (tyX2 k) := by decide +kernel
abbrev cX2_init : ByteArray := prog_4_method_1_code
def yX2_init : MethodName := ⟨RX2, "<init>", "()V"⟩
abbrev cX2_copyAll : ByteArray := prog_4_method_2_code
def yX2_copyAll : MethodName := ⟨RX2, "copyAll", "(LSpeechCleaner$Recording;)V"⟩
abbrev cX2_copySound : ByteArray := prog_4_method_3_code
def yX2_copySound : MethodName := ⟨RX2, "copySound", "(LSpeechCleaner$Recording;)V"⟩
abbrev cX2_removeSound : ByteArray := prog_4_method_4_code
def yX2_removeSound : MethodName := ⟨RX2, "removeSound", "()V"⟩
abbrev cX2_addFrame : ByteArray := prog_4_method_5_code
def yX2_addFrame : MethodName := ⟨RX2, "addFrame", "(I)V"⟩
abbrev cX2_hasFrame : ByteArray := prog_4_method_6_code
def yX2_hasFrame : MethodName := ⟨RX2, "hasFrame", "(I)Z"⟩
abbrev cX2_levelAt : ByteArray := prog_4_method_7_code
def yX2_levelAt : MethodName := ⟨RX2, "levelAt", "(I)I"⟩
abbrev cX2_hasMark : ByteArray := prog_4_method_8_code
def yX2_hasMark : MethodName := ⟨RX2, "hasMark", "(I)Z"⟩
abbrev cX2_overlaps : ByteArray := prog_4_method_9_code
def yX2_overlaps : MethodName := ⟨RX2, "overlaps", "(II)Z"⟩
abbrev cX2_addMark : ByteArray := prog_4_method_10_code
def yX2_addMark : MethodName := ⟨RX2, "addMark", "(IIII)I"⟩
abbrev cX2_removeMark : ByteArray := prog_4_method_11_code
def yX2_removeMark : MethodName := ⟨RX2, "removeMark", "(I)V"⟩
abbrev cX2_copyMark : ByteArray := prog_4_method_12_code
def yX2_copyMark : MethodName := ⟨RX2, "copyMark", "(LSpeechCleaner$Recording;II)V"⟩
abbrev cX2_numberOfMark : ByteArray := prog_4_method_13_code
def yX2_numberOfMark : MethodName := ⟨RX2, "numberOfMark", "(II)I"⟩
abbrev cX2_hasFillerOfDoubt : ByteArray := prog_4_method_14_code
def yX2_hasFillerOfDoubt : MethodName := ⟨RX2, "hasFillerOfDoubt", "(I)Z"⟩
abbrev cX2_endOfMarkBefore : ByteArray := prog_4_method_15_code
def yX2_endOfMarkBefore : MethodName := ⟨RX2, "endOfMarkBefore", "(I)I"⟩
abbrev cX2_firstOfMarkAfter : ByteArray := prog_4_method_16_code
def yX2_firstOfMarkAfter : MethodName := ⟨RX2, "firstOfMarkAfter", "(I)I"⟩
abbrev cX2_nearestQuietSeam : ByteArray := prog_4_method_17_code
def yX2_nearestQuietSeam : MethodName := ⟨RX2, "nearestQuietSeam", "(IIII)I"⟩
abbrev cX2_isQuiet : ByteArray := prog_4_method_18_code
def yX2_isQuiet : MethodName := ⟨RX2, "isQuiet", "(I)Z"⟩
def RX3 : String := "SpeechCleaner$Result"
def TX3 : u_T := fun k => match k with
  | 0 => ("SpeechCleaner$Result", "sources", "[I", true)
  | 1 => ("SpeechCleaner$Result", "levels", "[I", true)
  | 2 => ("SpeechCleaner$Result", "count", "I", false)
  | 3 => ("SpeechCleaner$Result", "room", "[I", true)
  | 4 => ("SpeechCleaner$Result", "roomFrames", "I", false)
  | 5 => ("SpeechCleaner$Result", "roomPlace", "I", false)
  | _ => ("SpeechCleaner$Result", "noisy", "[Z", true)
def tyX3 : Nat → FieldType := fun k => match k with
  | 0 => .array .int
  | 1 => .array .int
  | 2 => .int
  | 3 => .array .int
  | 4 => .int
  | 5 => .int
  | _ => .array .boolean
abbrev wsX30 : List Cond := u_ws RX3 TX3 7
theorem nmX3 : ∀ a, a < 7 → ∀ b, b < 7 → a ≠ b → (TX3 a).2.1 ≠ (TX3 b).2.1 := by decide +kernel
theorem tyX3_ok : ∀ k, k < 7 → parseFieldDescriptor (TX3 k).2.2.1 = some (tyX3 k) := by decide +kernel
abbrev cX3_init : ByteArray := prog_5_method_1_code
def yX3_init : MethodName := ⟨RX3, "<init>", "()V"⟩
abbrev cX3_build : ByteArray := prog_5_method_2_code
def yX3_build : MethodName := ⟨RX3, "build", "(LSpeechCleaner$Recording;LSpeechCleaner$CutList;)V"⟩
abbrev cX3_gatherRoomAndNoise : ByteArray := prog_5_method_3_code
def yX3_gatherRoomAndNoise : MethodName := ⟨RX3, "gatherRoomAndNoise", "(LSpeechCleaner$Recording;)V"⟩
abbrev cX3_gatherFrame : ByteArray := prog_5_method_4_code
def yX3_gatherFrame : MethodName := ⟨RX3, "gatherFrame", "(II)V"⟩
abbrev cX3_addRecorded : ByteArray := prog_5_method_5_code
def yX3_addRecorded : MethodName := ⟨RX3, "addRecorded", "(LSpeechCleaner$Recording;II)V"⟩
abbrev cX3_addPause : ByteArray := prog_5_method_6_code
def yX3_addPause : MethodName := ⟨RX3, "addPause", "(LSpeechCleaner$Recording;I)V"⟩
abbrev cX3_nextRoomFrame : ByteArray := prog_5_method_7_code
def yX3_nextRoomFrame : MethodName := ⟨RX3, "nextRoomFrame", "()I"⟩
abbrev cX3_add : ByteArray := prog_5_method_8_code
def yX3_add : MethodName := ⟨RX3, "add", "(II)V"⟩
abbrev cX3_placeOfSource : ByteArray := prog_5_method_9_code
def yX3_placeOfSource : MethodName := ⟨RX3, "placeOfSource", "(I)I"⟩
abbrev cX3_stepsGreaterThan : ByteArray := prog_5_method_10_code
def yX3_stepsGreaterThan : MethodName := ⟨RX3, "stepsGreaterThan", "(I)I"⟩
abbrev cX3_sumOfLevels : ByteArray := prog_5_method_11_code
def yX3_sumOfLevels : MethodName := ⟨RX3, "sumOfLevels", "()I"⟩
abbrev cX3_longestStretchUpTo : ByteArray := prog_5_method_12_code
def yX3_longestStretchUpTo : MethodName := ⟨RX3, "longestStretchUpTo", "(I)I"⟩
def RX4 : String := "SpeechCleaner$TextReader"
def TX4 : u_T := fun k => match k with
  | 0 => ("SpeechCleaner$TextReader", "draft", "LSpeechCleaner$Recording;", true)
  | 1 => ("SpeechCleaner$TextReader", "stage", "I", false)
  | 2 => ("SpeechCleaner$TextReader", "kind", "I", false)
  | 3 => ("SpeechCleaner$TextReader", "first", "I", false)
  | 4 => ("SpeechCleaner$TextReader", "doubt", "I", false)
  | 5 => ("SpeechCleaner$TextReader", "doubtDigits", "I", false)
  | _ => ("SpeechCleaner$TextReader", "wrongDoubtPlace", "I", false)
def tyX4 : Nat → FieldType := fun k => match k with
  | 0 => .object "SpeechCleaner$Recording"
  | 1 => .int
  | 2 => .int
  | 3 => .int
  | 4 => .int
  | 5 => .int
  | _ => .int
abbrev wsX40 : List Cond := u_ws RX4 TX4 7
theorem nmX4 : ∀ a, a < 7 → ∀ b, b < 7 → a ≠ b → (TX4 a).2.1 ≠ (TX4 b).2.1 := by decide +kernel
theorem tyX4_ok : ∀ k, k < 7 → parseFieldDescriptor (TX4 k).2.2.1 = some (tyX4 k) := by decide +kernel
abbrev cX4_init : ByteArray := prog_6_method_1_code
def yX4_init : MethodName := ⟨RX4, "<init>", "()V"⟩
abbrev cX4_parse : ByteArray := prog_6_method_2_code
def yX4_parse : MethodName := ⟨RX4, "parse", "([II)I"⟩
abbrev cX4_takes : ByteArray := prog_6_method_3_code
def yX4_takes : MethodName := ⟨RX4, "takes", "(II)Z"⟩
abbrev cX4_takesOutside : ByteArray := prog_6_method_4_code
def yX4_takesOutside : MethodName := ⟨RX4, "takesOutside", "(I)Z"⟩
abbrev cX4_takesKind : ByteArray := prog_6_method_5_code
def yX4_takesKind : MethodName := ⟨RX4, "takesKind", "(I)Z"⟩
abbrev cX4_takesDoubt : ByteArray := prog_6_method_6_code
def yX4_takesDoubt : MethodName := ⟨RX4, "takesDoubt", "(II)Z"⟩
abbrev cX4_takesColon : ByteArray := prog_6_method_7_code
def yX4_takesColon : MethodName := ⟨RX4, "takesColon", "(I)Z"⟩
abbrev cX4_takesInside : ByteArray := prog_6_method_8_code
def yX4_takesInside : MethodName := ⟨RX4, "takesInside", "(I)Z"⟩
abbrev cX4_isDigit : ByteArray := prog_6_method_9_code
def yX4_isDigit : MethodName := ⟨RX4, "isDigit", "(I)Z"⟩
def RX5 : String := "SpeechCleaner"
def TX5 : u_T := fun k => match k with
  | 0 => ("SpeechCleaner", "buffer", "[I", true)
  | 1 => ("SpeechCleaner", "characters", "I", false)
  | 2 => ("SpeechCleaner", "recording", "LSpeechCleaner$Recording;", true)
  | 3 => ("SpeechCleaner", "history", "LSpeechCleaner$History;", true)
  | 4 => ("SpeechCleaner", "reader", "LSpeechCleaner$TextReader;", true)
  | 5 => ("SpeechCleaner", "cutList", "LSpeechCleaner$CutList;", true)
  | _ => ("SpeechCleaner", "result", "LSpeechCleaner$Result;", true)
def tyX5 : Nat → FieldType := fun k => match k with
  | 0 => .array .int
  | 1 => .int
  | 2 => .object "SpeechCleaner$Recording"
  | 3 => .object "SpeechCleaner$History"
  | 4 => .object "SpeechCleaner$TextReader"
  | 5 => .object "SpeechCleaner$CutList"
  | _ => .object "SpeechCleaner$Result"
abbrev wsX50 : List Cond := u_ws RX5 TX5 7
theorem nmX5 : ∀ a, a < 7 → ∀ b, b < 7 → a ≠ b → (TX5 a).2.1 ≠ (TX5 b).2.1 := by decide +kernel
theorem tyX5_ok : ∀ k, k < 7 → parseFieldDescriptor (TX5 k).2.2.1 = some (tyX5 k) := by decide +kernel
abbrev cX5_init : ByteArray := prog_1_method_1_code
def yX5_init : MethodName := ⟨RX5, "<init>", "()V"⟩
abbrev cX5_type : ByteArray := prog_1_method_2_code
def yX5_type : MethodName := ⟨RX5, "type", "(I)I"⟩
abbrev cX5_clear : ByteArray := prog_1_method_3_code
def yX5_clear : MethodName := ⟨RX5, "clear", "()I"⟩
abbrev cX5_read : ByteArray := prog_1_method_4_code
def yX5_read : MethodName := ⟨RX5, "read", "()I"⟩
abbrev cX5_append : ByteArray := prog_1_method_5_code
def yX5_append : MethodName := ⟨RX5, "append", "(II)I"⟩
abbrev cX5_babble : ByteArray := prog_1_method_6_code
def yX5_babble : MethodName := ⟨RX5, "babble", "(II)I"⟩
abbrev cX5_mark : ByteArray := prog_1_method_7_code
def yX5_mark : MethodName := ⟨RX5, "mark", "(IIII)I"⟩
abbrev cX5_unmark : ByteArray := prog_1_method_8_code
def yX5_unmark : MethodName := ⟨RX5, "unmark", "(I)I"⟩
abbrev cX5_hold : ByteArray := prog_1_method_9_code
def yX5_hold : MethodName := ⟨RX5, "hold", "(IZ)I"⟩
abbrev cX5_set : ByteArray := prog_1_method_10_code
def yX5_set : MethodName := ⟨RX5, "set", "(II)I"⟩
abbrev cX5_setting : ByteArray := prog_1_method_11_code
def yX5_setting : MethodName := ⟨RX5, "setting", "(I)I"⟩
abbrev cX5_about : ByteArray := prog_1_method_12_code
def yX5_about : MethodName := ⟨RX5, "about", "(II)I"⟩
abbrev cX5_level : ByteArray := prog_1_method_13_code
def yX5_level : MethodName := ⟨RX5, "level", "(I)I"⟩
abbrev cX5_cuts : ByteArray := prog_1_method_14_code
def yX5_cuts : MethodName := ⟨RX5, "cuts", "()I"⟩
abbrev cX5_cut : ByteArray := prog_1_method_15_code
def yX5_cut : MethodName := ⟨RX5, "cut", "(II)I"⟩
abbrev cX5_sum : ByteArray := prog_1_method_16_code
def yX5_sum : MethodName := ⟨RX5, "sum", "(I)I"⟩
abbrev cX5_bestWindow : ByteArray := prog_1_method_17_code
def yX5_bestWindow : MethodName := ⟨RX5, "bestWindow", "()I"⟩
abbrev cX5_greatestDoubt : ByteArray := prog_1_method_18_code
def yX5_greatestDoubt : MethodName := ⟨RX5, "greatestDoubt", "(I)I"⟩
abbrev cX5_length : ByteArray := prog_1_method_19_code
def yX5_length : MethodName := ⟨RX5, "length", "()I"⟩
abbrev cX5_heard : ByteArray := prog_1_method_20_code
def yX5_heard : MethodName := ⟨RX5, "heard", "(II)I"⟩
abbrev cX5_where : ByteArray := prog_1_method_21_code
def yX5_where : MethodName := ⟨RX5, "where", "(I)I"⟩
abbrev cX5_clicks : ByteArray := prog_1_method_22_code
def yX5_clicks : MethodName := ⟨RX5, "clicks", "(I)I"⟩
abbrev cX5_loudness : ByteArray := prog_1_method_23_code
def yX5_loudness : MethodName := ⟨RX5, "loudness", "()F"⟩
abbrev cX5_share : ByteArray := prog_1_method_24_code
def yX5_share : MethodName := ⟨RX5, "share", "()F"⟩
abbrev cX5_silence : ByteArray := prog_1_method_25_code
def yX5_silence : MethodName := ⟨RX5, "silence", "()I"⟩
abbrev cX5_undo : ByteArray := prog_1_method_26_code
def yX5_undo : MethodName := ⟨RX5, "undo", "()I"⟩
abbrev cX5_fingerprint : ByteArray := prog_1_method_27_code
def yX5_fingerprint : MethodName := ⟨RX5, "fingerprint", "()J"⟩
abbrev cX5_withMarks : ByteArray := prog_1_method_28_code
def yX5_withMarks : MethodName := ⟨RX5, "withMarks", "(JLSpeechCleaner$CutList;)J"⟩
abbrev cX5_withCuts : ByteArray := prog_1_method_29_code
def yX5_withCuts : MethodName := ⟨RX5, "withCuts", "(JLSpeechCleaner$CutList;)J"⟩
abbrev cX5_withResult : ByteArray := prog_1_method_30_code
def yX5_withResult : MethodName := ⟨RX5, "withResult", "(JLSpeechCleaner$Result;)J"⟩
abbrev cX5_currentCuts : ByteArray := prog_1_method_31_code
def yX5_currentCuts : MethodName := ⟨RX5, "currentCuts", "()LSpeechCleaner$CutList;"⟩
abbrev cX5_currentResult : ByteArray := prog_1_method_32_code
def yX5_currentResult : MethodName := ⟨RX5, "currentResult", "()LSpeechCleaner$Result;"⟩
def RX6 : String := "SpeechCleanerModel"
def TX6 : u_T := fun k => match k with
  | 0 => ("SpeechCleanerModel", "v", "[I", true)
  | 1 => ("SpeechCleanerModel", "past", "[I", true)
  | 2 => ("SpeechCleanerModel", "pastMany", "I", false)
  | 3 => ("SpeechCleanerModel", "text", "[I", true)
  | 4 => ("SpeechCleanerModel", "typed", "I", false)
  | 5 => ("SpeechCleanerModel", "at", "I", false)
  | 6 => ("SpeechCleanerModel", "wrong", "I", false)
  | 7 => ("SpeechCleanerModel", "frameMany", "I", false)
  | 8 => ("SpeechCleanerModel", "markMany", "I", false)
  | 9 => ("SpeechCleanerModel", "levels", "[I", true)
  | 10 => ("SpeechCleanerModel", "marks", "[I", true)
  | 11 => ("SpeechCleanerModel", "cut", "[I", true)
  | 12 => ("SpeechCleanerModel", "cutMany", "I", false)
  | 13 => ("SpeechCleanerModel", "source", "[I", true)
  | 14 => ("SpeechCleanerModel", "heardLevel", "[I", true)
  | 15 => ("SpeechCleanerModel", "heardMany", "I", false)
  | 16 => ("SpeechCleanerModel", "room", "[I", true)
  | 17 => ("SpeechCleanerModel", "roomMany", "I", false)
  | _ => ("SpeechCleanerModel", "taken", "I", false)
def tyX6 : Nat → FieldType := fun k => match k with
  | 0 => .array .int
  | 1 => .array .int
  | 2 => .int
  | 3 => .array .int
  | 4 => .int
  | 5 => .int
  | 6 => .int
  | 7 => .int
  | 8 => .int
  | 9 => .array .int
  | 10 => .array .int
  | 11 => .array .int
  | 12 => .int
  | 13 => .array .int
  | 14 => .array .int
  | 15 => .int
  | 16 => .array .int
  | 17 => .int
  | _ => .int
abbrev wsX60 : List Cond := u_ws RX6 TX6 19
theorem nmX6 : ∀ a, a < 19 → ∀ b, b < 19 → a ≠ b → (TX6 a).2.1 ≠ (TX6 b).2.1 := by decide +kernel
theorem tyX6_ok : ∀ k, k < 19 → parseFieldDescriptor (TX6 k).2.2.1 = some (tyX6 k) := by decide +kernel
abbrev cX6_init : ByteArray := prog_8_method_1_code
def yX6_init : MethodName := ⟨RX6, "<init>", "()V"⟩
abbrev cX6_in : ByteArray := prog_8_method_2_code
def yX6_in : MethodName := ⟨RX6, "in", "(III)Z"⟩
abbrev cX6_act : ByteArray := prog_8_method_3_code
def yX6_act : MethodName := ⟨RX6, "act", "()V"⟩
abbrev cX6_levelAt : ByteArray := prog_8_method_4_code
def yX6_levelAt : MethodName := ⟨RX6, "levelAt", "(I)I"⟩
abbrev cX6_isQuiet : ByteArray := prog_8_method_5_code
def yX6_isQuiet : MethodName := ⟨RX6, "isQuiet", "(I)Z"⟩
abbrev cX6_of : ByteArray := prog_8_method_6_code
def yX6_of : MethodName := ⟨RX6, "of", "(II)I"⟩
abbrev cX6_isMark : ByteArray := prog_8_method_7_code
def yX6_isMark : MethodName := ⟨RX6, "isMark", "(I)Z"⟩
abbrev cX6_type : ByteArray := prog_8_method_8_code
def yX6_type : MethodName := ⟨RX6, "type", "(I)I"⟩
abbrev cX6_clear : ByteArray := prog_8_method_9_code
def yX6_clear : MethodName := ⟨RX6, "clear", "()I"⟩
abbrev cX6_sign : ByteArray := prog_8_method_10_code
def yX6_sign : MethodName := ⟨RX6, "sign", "()I"⟩
abbrev cX6_isDigit : ByteArray := prog_8_method_11_code
def yX6_isDigit : MethodName := ⟨RX6, "isDigit", "()Z"⟩
abbrev cX6_takesFrames : ByteArray := prog_8_method_12_code
def yX6_takesFrames : MethodName := ⟨RX6, "takesFrames", "()V"⟩
abbrev cX6_doubt : ByteArray := prog_8_method_13_code
def yX6_doubt : MethodName := ⟨RX6, "doubt", "()Z"⟩
abbrev cX6_takes : ByteArray := prog_8_method_14_code
def yX6_takes : MethodName := ⟨RX6, "takes", "(I)Z"⟩
abbrev cX6_readsMark : ByteArray := prog_8_method_15_code
def yX6_readsMark : MethodName := ⟨RX6, "readsMark", "()Z"⟩
abbrev cX6_wrongAt : ByteArray := prog_8_method_16_code
def yX6_wrongAt : MethodName := ⟨RX6, "wrongAt", "()I"⟩
abbrev cX6_read : ByteArray := prog_8_method_17_code
def yX6_read : MethodName := ⟨RX6, "read", "()I"⟩
abbrev cX6_append : ByteArray := prog_8_method_18_code
def yX6_append : MethodName := ⟨RX6, "append", "(II)I"⟩
abbrev cX6_babble : ByteArray := prog_8_method_19_code
def yX6_babble : MethodName := ⟨RX6, "babble", "(II)I"⟩
abbrev cX6_mark : ByteArray := prog_8_method_20_code
def yX6_mark : MethodName := ⟨RX6, "mark", "(IIII)I"⟩
abbrev cX6_unmark : ByteArray := prog_8_method_21_code
def yX6_unmark : MethodName := ⟨RX6, "unmark", "(I)I"⟩
abbrev cX6_sets : ByteArray := prog_8_method_22_code
def yX6_sets : MethodName := ⟨RX6, "sets", "(II)I"⟩
abbrev cX6_hold : ByteArray := prog_8_method_23_code
def yX6_hold : MethodName := ⟨RX6, "hold", "(IZ)I"⟩
abbrev cX6_most : ByteArray := prog_8_method_24_code
def yX6_most : MethodName := ⟨RX6, "most", "(I)I"⟩
abbrev cX6_set : ByteArray := prog_8_method_25_code
def yX6_set : MethodName := ⟨RX6, "set", "(II)I"⟩
abbrev cX6_setting : ByteArray := prog_8_method_26_code
def yX6_setting : MethodName := ⟨RX6, "setting", "(I)I"⟩
abbrev cX6_level : ByteArray := prog_8_method_27_code
def yX6_level : MethodName := ⟨RX6, "level", "(I)I"⟩
abbrev cX6_seam : ByteArray := prog_8_method_28_code
def yX6_seam : MethodName := ⟨RX6, "seam", "(III)I"⟩
abbrev cX6_lays : ByteArray := prog_8_method_29_code
def yX6_lays : MethodName := ⟨RX6, "lays", "(IIIII)V"⟩
abbrev cX6_fills : ByteArray := prog_8_method_30_code
def yX6_fills : MethodName := ⟨RX6, "fills", "(I)V"⟩
abbrev cX6_finds : ByteArray := prog_8_method_31_code
def yX6_finds : MethodName := ⟨RX6, "finds", "()V"⟩
abbrev cX6_cutOf : ByteArray := prog_8_method_32_code
def yX6_cutOf : MethodName := ⟨RX6, "cutOf", "(I)I"⟩
abbrev cX6_told : ByteArray := prog_8_method_33_code
def yX6_told : MethodName := ⟨RX6, "told", "(II)I"⟩
abbrev cX6_about : ByteArray := prog_8_method_34_code
def yX6_about : MethodName := ⟨RX6, "about", "(II)I"⟩
abbrev cX6_cuts : ByteArray := prog_8_method_35_code
def yX6_cuts : MethodName := ⟨RX6, "cuts", "()I"⟩
abbrev cX6_cut : ByteArray := prog_8_method_36_code
def yX6_cut : MethodName := ⟨RX6, "cut", "(II)I"⟩
abbrev cX6_sumOf : ByteArray := prog_8_method_37_code
def yX6_sumOf : MethodName := ⟨RX6, "sumOf", "(I)I"⟩
abbrev cX6_sum : ByteArray := prog_8_method_38_code
def yX6_sum : MethodName := ⟨RX6, "sum", "(I)I"⟩
abbrev cX6_bestWindow : ByteArray := prog_8_method_39_code
def yX6_bestWindow : MethodName := ⟨RX6, "bestWindow", "()I"⟩
abbrev cX6_greatestDoubt : ByteArray := prog_8_method_40_code
def yX6_greatestDoubt : MethodName := ⟨RX6, "greatestDoubt", "(I)I"⟩
abbrev cX6_hears : ByteArray := prog_8_method_41_code
def yX6_hears : MethodName := ⟨RX6, "hears", "(II)V"⟩
abbrev cX6_pauses : ByteArray := prog_8_method_42_code
def yX6_pauses : MethodName := ⟨RX6, "pauses", "(I)V"⟩
abbrev cX6_isNoise : ByteArray := prog_8_method_43_code
def yX6_isNoise : MethodName := ⟨RX6, "isNoise", "(I)Z"⟩
abbrev cX6_plays : ByteArray := prog_8_method_44_code
def yX6_plays : MethodName := ⟨RX6, "plays", "()V"⟩
abbrev cX6_length : ByteArray := prog_8_method_45_code
def yX6_length : MethodName := ⟨RX6, "length", "()I"⟩
abbrev cX6_heard : ByteArray := prog_8_method_46_code
def yX6_heard : MethodName := ⟨RX6, "heard", "(II)I"⟩
abbrev cX6_where : ByteArray := prog_8_method_47_code
def yX6_where : MethodName := ⟨RX6, "where", "(I)I"⟩
abbrev cX6_clicks : ByteArray := prog_8_method_48_code
def yX6_clicks : MethodName := ⟨RX6, "clicks", "(I)I"⟩
abbrev cX6_loudness : ByteArray := prog_8_method_49_code
def yX6_loudness : MethodName := ⟨RX6, "loudness", "()F"⟩
abbrev cX6_share : ByteArray := prog_8_method_50_code
def yX6_share : MethodName := ⟨RX6, "share", "()F"⟩
abbrev cX6_silence : ByteArray := prog_8_method_51_code
def yX6_silence : MethodName := ⟨RX6, "silence", "()I"⟩
abbrev cX6_undo : ByteArray := prog_8_method_52_code
def yX6_undo : MethodName := ⟨RX6, "undo", "()I"⟩
abbrev cX6_fingerprint : ByteArray := prog_8_method_53_code
def yX6_fingerprint : MethodName := ⟨RX6, "fingerprint", "()J"⟩
def RJ9 : String := "java/lang/Math"
def TJ9 : u_T := fun k => match k with
  | _ => ("", "", "", false)
def tyJ9 : Nat → FieldType := fun k => match k with
  | _ => .int
abbrev wsJ90 : List Cond := u_ws RJ9 TJ9 0
theorem nmJ9 : ∀ a, a < 0 → ∀ b, b < 0 → a ≠ b → (TJ9 a).2.1 ≠ (TJ9 b).2.1 := by decide +kernel
theorem tyJ9_ok : ∀ k, k < 0 → parseFieldDescriptor (TJ9 k).2.2.1 = some (tyJ9 k) := by decide +kernel
abbrev cJ9_abs_0f7a4 : ByteArray := prog_9_method_59_code
def yJ9_abs_0f7a4 : MethodName := ⟨RJ9, "abs", "(I)I"⟩
abbrev cJ9_max_7cf53 : ByteArray := prog_9_method_65_code
def yJ9_max_7cf53 : MethodName := ⟨RJ9, "max", "(II)I"⟩
abbrev cJ9_min_7cf53 : ByteArray := prog_9_method_69_code
def yJ9_min_7cf53 : MethodName := ⟨RJ9, "min", "(II)I"⟩
def RJ10 : String := "java/lang/System"
def TJ10 : u_T := fun k => match k with
  | _ => ("", "", "", false)
def tyJ10 : Nat → FieldType := fun k => match k with
  | _ => .int
abbrev wsJ100 : List Cond := u_ws RJ10 TJ10 0
theorem nmJ10 : ∀ a, a < 0 → ∀ b, b < 0 → a ≠ b → (TJ10 a).2.1 ≠ (TJ10 b).2.1 := by decide +kernel
theorem tyJ10_ok : ∀ k, k < 0 → parseFieldDescriptor (TJ10 k).2.2.1 = some (tyJ10 k) := by decide +kernel
def RL : String := "SpeechCleanerLaw"
abbrev cL_law : ByteArray := code
def yL_law : MethodName := ⟨RL, "law", "([I)Z"⟩
/-- the words that every contract here stands on: the tables' own, and 'selects' of the private methods -/
def z_ws : List Cond := lw_tbl.filter goodWord
theorem z_ws_t (i : Nat) {w : Cond} (h : tables_1[i]? = some w) (hg : goodWord w = true) : w ∈ z_ws := List.mem_filter.mpr ⟨List.mem_append_right _ (List.mem_of_getElem? h), hg⟩
theorem z_ws_p (i : Nat) {w : Cond} (h : (k2_sels lw_privs)[i]? = some w) (hg : goodWord w = true) : w ∈ z_ws := List.mem_filter.mpr ⟨List.mem_append_left _ (List.mem_of_getElem? h), hg⟩
theorem z_ws_good {ws : List Cond} (h : ∀ w ∈ ws, w ∈ z_ws) {y : MethodName} {c : ByteArray} {n : Nat} {r : Option FieldType} : GoodIn (.code y c n r :: z_ws) ws := fun w hw => ⟨List.mem_cons_of_mem _ (h w hw), good_of_word (List.mem_filter.mp (h w hw)).2⟩
theorem z_ws_in {ws : List Cond} (h : ∀ w ∈ ws, w ∈ lw_tbl) (hg : ws.all goodWord = true) : ∀ w ∈ ws, w ∈ z_ws := fun w hw => List.mem_filter.mpr ⟨h w hw, List.all_eq_true.mp hg w hw⟩

theorem z_inX0 : ∀ w ∈ u_ws RX0 TX0 6, w ∈ z_ws := z_ws_in (by decide +kernel) (by decide +kernel)
theorem z_inX1 : ∀ w ∈ u_ws RX1 TX1 2, w ∈ z_ws := z_ws_in (by decide +kernel) (by decide +kernel)
theorem z_inX2 : ∀ w ∈ u_ws RX2 TX2 9, w ∈ z_ws := z_ws_in (by decide +kernel) (by decide +kernel)
theorem z_inX3 : ∀ w ∈ u_ws RX3 TX3 7, w ∈ z_ws := z_ws_in (by decide +kernel) (by decide +kernel)
theorem z_inX4 : ∀ w ∈ u_ws RX4 TX4 7, w ∈ z_ws := z_ws_in (by decide +kernel) (by decide +kernel)
theorem z_inX5 : ∀ w ∈ u_ws RX5 TX5 7, w ∈ z_ws := z_ws_in (by decide +kernel) (by decide +kernel)
theorem z_inX6 : ∀ w ∈ u_ws RX6 TX6 19, w ∈ z_ws := z_ws_in (by decide +kernel) (by decide +kernel)
end
section
/-! THE BASE: numbers of the machine, worlds whose objects stay where they are, and a row for each instruction over such a world -/
def zi (z : Int) : Int32 := Int32.ofInt z
def zl (z : Int) : Int64 := Int64.ofInt z
theorem zi_add (a b : Int) : zi a + zi b = zi (a + b) := (Int32.ofInt_add a b).symm
theorem zi_sub (a b : Int) : zi a - zi b = zi (a - b) := (Int32.ofInt_sub a b).symm
theorem zi_mul (a b : Int) : zi a * zi b = zi (a * b) := (Int32.ofInt_mul a b).symm
theorem zi_neg (a : Int) : - zi a = zi (-a) := (Int32.ofInt_neg a).symm
theorem zl_add (a b : Int) : zl a + zl b = zl (a + b) := (Int64.ofInt_add a b).symm
theorem zl_mul (a b : Int) : zl a * zl b = zl (a * b) := (Int64.ofInt_mul a b).symm
theorem zi_int {a : Int} (h : zr a) : (zi a).toInt = a := Int32.toInt_ofInt_of_le h.1 h.2
theorem zi_of (x : Int32) : zi x.toInt = x := Int32.ofInt_toInt x
theorem zi_lt {a b : Int} (ha : zr a) (hb : zr b) : zi a < zi b ↔ a < b := by rw [Int32.lt_iff_toInt_lt, zi_int ha, zi_int hb]
theorem zi_le {a b : Int} (ha : zr a) (hb : zr b) : zi a ≤ zi b ↔ a ≤ b := by rw [Int32.le_iff_toInt_le, zi_int ha, zi_int hb]
theorem zi_eq {a b : Int} (ha : zr a) (hb : zr b) : zi a = zi b ↔ a = b := by rw [← Int32.toInt_inj, zi_int ha, zi_int hb]
theorem zi_div {a b : Int} (ha : zr a) (hb : zr b) : zi a / zi b = zi (a.tdiv b) := by
  apply Int32.toInt_inj.mp
  rw [Int32.toInt_div, zi_int ha, zi_int hb]
  exact (Int32.toInt_ofInt (n := a.tdiv b)).symm
theorem zi_rem {a b : Int} (ha : zr a) (hb : zr b) : zi a - zi a / zi b * zi b = zi (a.tmod b) := by
  rw [zi_div ha hb, zi_mul, zi_sub]
  have h := Int.mul_tdiv_add_tmod a b
  have h2 : a.tdiv b * b = b * a.tdiv b := Int.mul_comm _ _
  exact congrArg zi (by omega)
theorem zi_clamp {a : Int} (h0 : 0 ≤ a) (h1 : a < 2147483648) : (zi a).toNatClampNeg = a.toNat := Int32.toNatClampNeg_ofInt_of_le (by omega) h1
theorem zi_0 : zi 0 = 0 := rfl
theorem zr_0 : zr 0 := by decide
theorem zi_neg_iff {a : Int} (ha : zr a) : zi a < 0 ↔ a < 0 := by rw [← zi_0, zi_lt ha zr_0]
theorem zi_in {i : Int} {n : Nat} (h0 : 0 ≤ i) (h1 : i < (n : Int)) (hn : n ≤ 2147483648) : vp_in (zi i) n := by
  have hr : zr i := ⟨by omega, by omega⟩
  intro h
  rcases h with h | h
  · rw [zi_neg_iff hr] at h; omega
  · rw [zi_clamp h0 (by omega)] at h; omega
theorem zi_long {a : Int} (h : zr a) : (zi a).toInt64 = zl a := Int32.toInt64_ofInt (by have := h.1; exact this) (by have := h.2; show a ≤ 2147483647; omega)
theorem zi_ushr16 (a : Int) : ((zi a).toUInt32 >>> ((zi 16).toUInt32 &&& Int32.toUInt32 31)).toInt32 = zi (z_ushr a 16) := by
  have h16 : ((zi 16).toUInt32 &&& Int32.toUInt32 31) = 16 := by decide
  rw [h16]
  apply Int32.toBitVec_inj.mp
  apply BitVec.eq_of_toNat_eq
  have h1 : (zi a).toBitVec = BitVec.ofInt 32 a := rfl
  have h2 : (zi (z_ushr a 16)).toBitVec = BitVec.ofInt 32 (z_ushr a 16) := rfl
  rw [h2]
  show (((zi a).toUInt32 >>> (16 : UInt32)).toBitVec).toNat = _
  rw [UInt32.toBitVec_shiftRight]
  have h5 : (zi a).toUInt32.toBitVec = BitVec.ofInt 32 a := rfl
  rw [h5]
  have h3 : ((16 : UInt32).toBitVec % 32) = (16 : BitVec 32) := by decide
  simp only [BitVec.toNat_ofInt, z_ushr]
  have h4 : (BitVec.ofInt 32 a >>> ((16 : UInt32).toBitVec % 32)).toNat = (a % 4294967296).toNat / 65536 := by
    rw [h3]
    show (BitVec.ofInt 32 a >>> (16 : Nat)).toNat = _
    rw [BitVec.toNat_ushiftRight, BitVec.toNat_ofInt, Nat.shiftRight_eq_div_pow]
    rfl
  rw [h4]
  omega
-- the world: cell k stands at 'ad k' and is 'mk k' of what it holds
def z_wd (mk : Nat → (Int → Int) → va_E) (N : Nat) (ad : Nat → Nat) (σ : zS) : va_W := (List.range N).map (fun k => (ad k, mk k (σ k)))
theorem z_wd_get {mk : Nat → (Int → Int) → va_E} {N : Nat} {ad : Nat → Nat} {σ : zS} {k : Nat} (h : k < N) : (z_wd mk N ad σ)[k]? = some (ad k, mk k (σ k)) := by simp [z_wd, h]
theorem z_wd_some {mk : Nat → (Int → Int) → va_E} {N : Nat} {ad : Nat → Nat} {σ : zS} {k : Nat} {q : Nat × va_E} (h : (z_wd mk N ad σ)[k]? = some q) : k < N ∧ q = (ad k, mk k (σ k)) := by
  by_cases hk : k < N
  · rw [z_wd_get hk] at h; exact ⟨hk, (Option.some.inj h).symm⟩
  · simp [z_wd, hk] at h
theorem z_wd_set {mk : Nat → (Int → Int) → va_E} {N : Nat} {ad : Nat → Nat} {σ τ : zS} {k : Nat} {e : va_E} (he : e = mk k (τ k)) (ho : ∀ a, a ≠ k → τ a = σ a) : (z_wd mk N ad σ).set k (ad k, e) = z_wd mk N ad τ := by
  apply List.ext_getElem?
  intro i
  rw [List.getElem?_set]
  by_cases hi : k = i
  · subst hi
    by_cases hk : k < N
    · rw [z_wd_get hk]; simp [z_wd, hk, he]
    · simp [z_wd, hk]
  · rw [if_neg hi]
    by_cases hk : i < N
    · rw [z_wd_get hk, z_wd_get hk, ho i (fun h => hi h.symm)]
    · simp [z_wd, hk]
theorem z_wd_D {mk : Nat → (Int → Int) → va_E} {N : Nat} {ad : Nat → Nat} {σ τ : zS} {A : Nat → Prop} (h : va_D A (z_wd mk N ad σ)) : va_D A (z_wd mk N ad τ) := by
  refine ⟨fun i j p q hi hj e => ?_, fun k q hk => ?_⟩
  · obtain ⟨h1, rfl⟩ := z_wd_some hi
    obtain ⟨h2, rfl⟩ := z_wd_some hj
    exact h.1 i j _ _ (z_wd_get h1) (z_wd_get h2) e
  · obtain ⟨h1, rfl⟩ := z_wd_some hk
    exact (h.2 k (ad k, mk k (σ k)) (z_wd_get h1) : A (ad k))
theorem z_wd_A {mk : Nat → (Int → Int) → va_E} {N : Nat} {ad : Nat → Nat} {σ τ : zS} {sz : Nat} : va_A (z_wd mk N ad σ) sz = va_A (z_wd mk N ad τ) sz := by
  have H : ∀ (σ τ : zS) (q : Nat), va_A (z_wd mk N ad σ) sz q → va_A (z_wd mk N ad τ) sz q := by
    intro σ τ q h
    rcases h with ⟨k, e, hk⟩ | h
    · obtain ⟨h1, h2⟩ := z_wd_some hk
      refine Or.inl ⟨k, mk k (τ k), ?_⟩
      rw [z_wd_get h1]
      rw [(Prod.mk.inj h2).1]
    · exact Or.inr h
  funext q
  exact propext ⟨H σ τ q, H τ σ q⟩
/-- the row of an array of ints whose values are f -/
abbrev z_ar (f : Int → Int) : Nat → Int32 := fun i => zi (f (i : Int))
theorem z_ar_up {f : Int → Int} {i v : Int} (h0 : 0 ≤ i) (h1 : i < 2147483648) : upd (z_ar f) (zi i).toNatClampNeg (zi v) = z_ar (fun b => if b = i then v else f b) := by
  funext j
  rw [zi_clamp h0 h1]
  simp only [upd, z_ar]
  by_cases h : j = i.toNat
  · rw [if_pos h, if_pos (by omega)]
  · rw [if_neg h, if_neg (by omega)]
-- the geometry of a world: its side (0 the class, 1 the reference), where the cells stand, the array classes, the classes' places
abbrev zG : Type := Nat × (Nat → Nat) × ClassId × ClassId × ClassId × va_G
abbrev vwCl : List vw_C := [(RX0, TX0, 6), (RX1, TX1, 2), (RX2, TX2, 9), (RX3, TX3, 7), (RX4, TX4, 7), (RX5, TX5, 7), (RX6, TX6, 19)]
def z_mk0 (ad : Nat → Nat) (cI cZ cR : ClassId) (k : Nat) (f : Int → Int) : va_E :=
  if k < 48 then
    (match k % 8 with
    | 0 => .inr (2, [.ref (ad (k + 1)), .int (zi (f 1)), .ref (ad (k + 2)), .ref (ad (k + 3)), .ref (ad (k + 4)), .ref (ad (k + 5)), .ref (ad (k + 6)), .int (zi (f 7)), .ref (ad (k + 7))])
    | 1 => .inl (cI, 200, .inl (z_ar f))
    | 6 => .inl (cZ, 20, .inl (z_ar f))
    | 7 => .inl (cI, 7, .inl (z_ar f))
    | _ => .inl (cI, 20, .inl (z_ar f)))
  else (match k with
    | 48 => .inr (0, [.ref (ad 49), .ref (ad 50), .ref (ad 51), .ref (ad 52), .ref (ad 53), .int (zi (f 5))])
    | 49 => .inl (cI, 20, .inl (z_ar f))
    | 50 => .inl (cI, 20, .inl (z_ar f))
    | 51 => .inl (cI, 20, .inl (z_ar f))
    | 52 => .inl (cZ, 20, .inl (z_ar f))
    | 53 => .inl (cI, 20, .inl (z_ar f))
    | 54 => .inr (3, [.ref (ad 55), .ref (ad 56), .int (zi (f 2)), .ref (ad 57), .int (zi (f 4)), .int (zi (f 5)), .ref (ad 58)])
    | 55 => .inl (cI, 200, .inl (z_ar f))
    | 56 => .inl (cI, 200, .inl (z_ar f))
    | 57 => .inl (cI, 200, .inl (z_ar f))
    | 58 => .inl (cZ, 200, .inl (z_ar f))
    | 59 => .inr (4, [.ref (ad 40), .int (zi (f 1)), .int (zi (f 2)), .int (zi (f 3)), .int (zi (f 4)), .int (zi (f 5)), .int (zi (f 6))])
    | 60 => .inr (1, [.ref (ad 61), .int (zi (f 1))])
    | 61 => .inl (cR, 4, .inr (.inr (.inr (.inr (fun i => some (ad (8 * (f (i : Int)).toNat)))))))
    | 62 => .inr (5, [.ref (ad 63), .int (zi (f 1)), .ref (ad 0), .ref (ad 60), .ref (ad 59), .ref (ad 48), .ref (ad 54)])
    | _ => .inl (cI, 120, .inl (z_ar f)))
def z_mk1 (ad : Nat → Nat) (cI : ClassId) (k : Nat) (f : Int → Int) : va_E := match k with
  | 0 => .inr (6, [.ref (ad 1), .ref (ad 2), .int (zi (f 2)), .ref (ad 3), .int (zi (f 4)), .int (zi (f 5)), .int (zi (f 6)), .int (zi (f 7)), .int (zi (f 8)), .ref (ad 4), .ref (ad 5), .ref (ad 6), .int (zi (f 12)), .ref (ad 7), .ref (ad 8), .int (zi (f 15)), .ref (ad 9), .int (zi (f 17)), .int (zi (f 18))])
  | 1 => .inl (cI, 320, .inl (z_ar f))
  | 2 => .inl (cI, 1280, .inl (z_ar f))
  | 3 => .inl (cI, 120, .inl (z_ar f))
  | 4 => .inl (cI, 120, .inl (z_ar f))
  | 5 => .inl (cI, 100, .inl (z_ar f))
  | 6 => .inl (cI, 100, .inl (z_ar f))
  | 7 => .inl (cI, 1400, .inl (z_ar f))
  | 8 => .inl (cI, 1400, .inl (z_ar f))
  | _ => .inl (cI, 200, .inl (z_ar f))
def z_mk (g : zG) : Nat → (Int → Int) → va_E := match g with
  | (0, ad, cI, cZ, cR, _) => z_mk0 ad cI cZ cR
  | (_, ad, cI, _, _, _) => z_mk1 ad cI
def z_N (g : zG) : Nat := match g.1 with
  | 0 => 64
  | _ => 10
abbrev z_ad (g : zG) (k : Nat) : Nat := g.2.1 k
def z_tys (g : zG) : List (ClassId × FieldType) := [(g.2.2.1, .int), (g.2.2.2.1, .boolean), (g.2.2.2.2.1, .object RX2)]
abbrev z_w (g : zG) (σ : zS) : va_W := z_wd (z_mk g) (z_N g) g.2.1 σ
-- the configuration of a walk: all that stays the same from instruction to instruction
abbrev zC : Type := Program × Launch × Env × Room × State × MethodId × Array Value × List Frame × Method × Code × (State → Prop) × Nat × Nat × (Nat → Prop) × Heap × Nat × zG
abbrev z_g (C : zC) : zG := C.2.2.2.2.2.2.2.2.2.2.2.2.2.2.2.2
abbrev z_l (C : zC) : Launch := C.2.1
abbrev z_R (C : zC) : Room := C.2.2.2.1
/-- the machine, from the place pc with these locals, this stack, and a heap whose world holds σ, comes to its end -/
def z_W (C : zC) (σ : zS) (pc : Nat) (lv : List (Nat × Value)) (st : List Value) : Prop := match C with
  | (p, l, e, R, s, m, args, below, meth, c, Q, cells, slots, A, H0, nL, g) => ∀ (H : Heap) (locs : List Loc) (ls : Array Slot), va_P g.2.2.2.2.2 vwCl (z_w g σ) H → va_S A H0 H locs → lv_has ls nL lv → W p l e R s m args below meth c H locs cells slots Q (F0 m pc ls st)
/-- what holds all the while: the machine, the code, the tables' words, the classes -/
def z_ok (C : zC) (cc : ByteArray) (own : String) (sd : Nat) : Prop := match C with
  | (p, _, _, R, s, m, args, _, _, c, _, cells, slots, A, H0, nL, g) => p.tables.exec = Jvm.exec ∧ c.code = cc ∧ c.maxLocals = nL ∧ s.vm.findClass own = some m.cls ∧ (∀ w ∈ z_ws, w.before args s = true) ∧ va_K g.2.2.2.2.2 vwCl (z_tys g) s ∧ (∀ σ, va_D A (z_w g σ)) ∧ (∀ q, H0.size ≤ q → A q) ∧ g.1 = sd ∧ cells ≤ R.cells ∧ slots ≤ R.slots ∧ H0 = s.heap
end
section
/-! A ROW FOR EACH INSTRUCTION over a world whose objects stay -/
section
variable {C : zC} {cc : ByteArray} {own : String} {sd : Nat} {σ : zS} {pc : Nat} {lv : List (Nat × Value)} {st : List Value} {α : Type} {r : α}
theorem z_iconst (hx : z_ok C cc own sd) {n : Int} (hd : decode cc pc = .ok (.iconst n, 1)) (kk : z_W C σ (pc + 1) lv (.int (zi n) :: st)) : z_W C σ pc lv st := by
  obtain ⟨p, l, e, R, s, m, args, below, meth, c, Q, cells, slots, A, H0, nL, g⟩ := C
  intro H locs ls hP hS hl
  exact lv_iconst hx.1 hx.2.1 hd rfl (kk H locs ls hP hS hl)
theorem z_bipush (hx : z_ok C cc own sd) {n : Int} (hd : decode cc pc = .ok (.bipush n, 2)) (hn : (Int8.ofInt n).toInt32 = zi n) (kk : z_W C σ (pc + 2) lv (.int (zi n) :: st)) : z_W C σ pc lv st := by
  obtain ⟨p, l, e, R, s, m, args, below, meth, c, Q, cells, slots, A, H0, nL, g⟩ := C
  intro H locs ls hP hS hl
  exact lv_bipush hx.1 hx.2.1 hd hn (kk H locs ls hP hS hl)
theorem z_sipush (hx : z_ok C cc own sd) {n : Int} (hd : decode cc pc = .ok (.sipush n, 3)) (hn : (Int16.ofInt n).toInt32 = zi n) (kk : z_W C σ (pc + 3) lv (.int (zi n) :: st)) : z_W C σ pc lv st := by
  obtain ⟨p, l, e, R, s, m, args, below, meth, c, Q, cells, slots, A, H0, nL, g⟩ := C
  intro H locs ls hP hS hl
  exact lv_sipush hx.1 hx.2.1 hd hn (kk H locs ls hP hS hl)
theorem z_ldc (hx : z_ok C cc own sd) {n : Int} {index : Nat} (hw : Cond.constant own index (zi n) ∈ z_ws) (hd : decode cc pc = .ok (.ldc index, 2)) (kk : z_W C σ (pc + 2) lv (.int (zi n) :: st)) : z_W C σ pc lv st := by
  obtain ⟨p, l, e, R, s, m, args, below, meth, c, Q, cells, slots, A, H0, nL, g⟩ := C
  intro H locs ls hP hS hl
  exact lv_ldc hx.1 hx.2.1 hx.2.2.2.1 (hx.2.2.2.2.1 _ hw) hd (kk H locs ls hP hS hl)
theorem z_ldc2 (hx : z_ok C cc own sd) {n : Int} {index : Nat} (hw : Cond.constantLong own index (zl n) ∈ z_ws) (hd : decode cc pc = .ok (.ldc2_w index, 3)) (kk : z_W C σ (pc + 3) lv (.long (zl n) :: st)) : z_W C σ pc lv st := by
  obtain ⟨p, l, e, R, s, m, args, below, meth, c, Q, cells, slots, A, H0, nL, g⟩ := C
  intro H locs ls hP hS hl
  exact lv_ldc2 hx.1 hx.2.1 hx.2.2.2.1 (hx.2.2.2.2.1 _ hw) hd (kk H locs ls hP hS hl)
-- locals
theorem z_iload_n (hx : z_ok C cc own sd) (q : Nat) {k : Fin 4} {x : Int32} (hd : decode cc pc = .ok (.iload_n k, 1)) (hk : lv[q]? = some ((k : Nat), .int x)) (kk : z_W C σ (pc + 1) lv (.int x :: st)) : z_W C σ pc lv st := by
  obtain ⟨p, l, e, R, s, m, args, below, meth, c, Q, cells, slots, A, H0, nL, g⟩ := C
  intro H locs ls hP hS hl
  exact lv_iload_n hx.1 hx.2.1 hd rfl (lv_at hl q hk) (kk H locs ls hP hS hl)
theorem z_iload (hx : z_ok C cc own sd) (q : Nat) {k : Nat} {x : Int32} (hd : decode cc pc = .ok (.iload k, 2)) (hk : lv[q]? = some (k, .int x)) (kk : z_W C σ (pc + 2) lv (.int x :: st)) : z_W C σ pc lv st := by
  obtain ⟨p, l, e, R, s, m, args, below, meth, c, Q, cells, slots, A, H0, nL, g⟩ := C
  intro H locs ls hP hS hl
  exact lv_iload hx.1 hx.2.1 hd (lv_at hl q hk) (kk H locs ls hP hS hl)
theorem z_lload_n (hx : z_ok C cc own sd) (q : Nat) {k : Fin 4} {x : Int64} (hd : decode cc pc = .ok (.lload_n k, 1)) (hk : lv[q]? = some ((k : Nat), .long x)) (kk : z_W C σ (pc + 1) lv (.long x :: st)) : z_W C σ pc lv st := by
  obtain ⟨p, l, e, R, s, m, args, below, meth, c, Q, cells, slots, A, H0, nL, g⟩ := C
  intro H locs ls hP hS hl
  exact lv_lload_n hx.1 hx.2.1 hd rfl (lv_at hl q hk) (kk H locs ls hP hS hl)
theorem z_lload (hx : z_ok C cc own sd) (q : Nat) {k : Nat} {x : Int64} (hd : decode cc pc = .ok (.lload k, 2)) (hk : lv[q]? = some (k, .long x)) (kk : z_W C σ (pc + 2) lv (.long x :: st)) : z_W C σ pc lv st := by
  obtain ⟨p, l, e, R, s, m, args, below, meth, c, Q, cells, slots, A, H0, nL, g⟩ := C
  intro H locs ls hP hS hl
  exact lv_lload hx.1 hx.2.1 hd (lv_at hl q hk) (kk H locs ls hP hS hl)
theorem z_aload_n (hx : z_ok C cc own sd) (q : Nat) {k : Fin 4} {x : Nat} (hd : decode cc pc = .ok (.aload_n k, 1)) (hk : lv[q]? = some ((k : Nat), .ref x)) (kk : z_W C σ (pc + 1) lv (.ref x :: st)) : z_W C σ pc lv st := by
  obtain ⟨p, l, e, R, s, m, args, below, meth, c, Q, cells, slots, A, H0, nL, g⟩ := C
  intro H locs ls hP hS hl
  exact lv_aload_n hx.1 hx.2.1 hd rfl (lv_at hl q hk) (kk H locs ls hP hS hl)
theorem z_istore_n (hx : z_ok C cc own sd) {nL : Nat} (hn : C.2.2.2.2.2.2.2.2.2.2.2.2.2.2.2.1 = nL) {k : Fin 4} {x : Int32} {lv' : List (Nat × Value)} (hd : decode cc pc = .ok (.istore_n k, 1)) (hlt : (k : Nat) < nL) (hl' : ((k : Nat), Value.int x) :: lv.filter (fun q => !(q.1 == (k : Nat)) && !(q.1 + 1 == (k : Nat) && q.2.category == 2)) = lv') (kk : z_W C σ (pc + 1) lv' st) : z_W C σ pc lv (.int x :: st) := by
  obtain ⟨p, l, e, R, s, m, args, below, meth, c, Q, cells, slots, A, H0, nL, g⟩ := C
  intro H locs ls hP hS hl
  cases hn
  exact lv_istore_n hx.1 hx.2.1 hd rfl hl hlt hl' (fun ls' hl => kk H locs ls' hP hS hl)
theorem z_istore (hx : z_ok C cc own sd) {nL : Nat} (hn : C.2.2.2.2.2.2.2.2.2.2.2.2.2.2.2.1 = nL) {k : Nat} {x : Int32} {lv' : List (Nat × Value)} (hd : decode cc pc = .ok (.istore k, 2)) (hlt : (k : Nat) < nL) (hl' : (k, Value.int x) :: lv.filter (fun q => !(q.1 == k) && !(q.1 + 1 == k && q.2.category == 2)) = lv') (kk : z_W C σ (pc + 2) lv' st) : z_W C σ pc lv (.int x :: st) := by
  obtain ⟨p, l, e, R, s, m, args, below, meth, c, Q, cells, slots, A, H0, nL, g⟩ := C
  intro H locs ls hP hS hl
  cases hn
  exact lv_istore hx.1 hx.2.1 hd hl hlt hl' (fun ls' hl => kk H locs ls' hP hS hl)
theorem z_lstore_n (hx : z_ok C cc own sd) {nL : Nat} (hn : C.2.2.2.2.2.2.2.2.2.2.2.2.2.2.2.1 = nL) {k : Fin 4} {x : Int64} {lv' : List (Nat × Value)} (hd : decode cc pc = .ok (.lstore_n k, 1)) (hlt : (k : Nat) + 1 < nL) (hl' : ((k : Nat), Value.long x) :: lv.filter (fun q => !(q.1 == (k : Nat)) && (!(q.1 == (k : Nat) + 1) && !(q.1 + 1 == (k : Nat) && q.2.category == 2))) = lv') (kk : z_W C σ (pc + 1) lv' st) : z_W C σ pc lv (.long x :: st) := by
  obtain ⟨p, l, e, R, s, m, args, below, meth, c, Q, cells, slots, A, H0, nL, g⟩ := C
  intro H locs ls hP hS hl
  cases hn
  exact lv_lstore_n hx.1 hx.2.1 hd rfl hl hlt hl' (fun ls' hl => kk H locs ls' hP hS hl)
theorem z_lstore (hx : z_ok C cc own sd) {nL : Nat} (hn : C.2.2.2.2.2.2.2.2.2.2.2.2.2.2.2.1 = nL) {k : Nat} {x : Int64} {lv' : List (Nat × Value)} (hd : decode cc pc = .ok (.lstore k, 2)) (hlt : (k : Nat) + 1 < nL) (hl' : (k, Value.long x) :: lv.filter (fun q => !(q.1 == k) && (!(q.1 == k + 1) && !(q.1 + 1 == k && q.2.category == 2))) = lv') (kk : z_W C σ (pc + 2) lv' st) : z_W C σ pc lv (.long x :: st) := by
  obtain ⟨p, l, e, R, s, m, args, below, meth, c, Q, cells, slots, A, H0, nL, g⟩ := C
  intro H locs ls hP hS hl
  cases hn
  exact lv_lstore hx.1 hx.2.1 hd hl hlt hl' (fun ls' hl => kk H locs ls' hP hS hl)
theorem z_astore_n (hx : z_ok C cc own sd) {nL : Nat} (hn : C.2.2.2.2.2.2.2.2.2.2.2.2.2.2.2.1 = nL) {k : Fin 4} {x : Nat} {lv' : List (Nat × Value)} (hd : decode cc pc = .ok (.astore_n k, 1)) (hlt : (k : Nat) < nL) (hl' : ((k : Nat), Value.ref x) :: lv.filter (fun q => !(q.1 == (k : Nat)) && !(q.1 + 1 == (k : Nat) && q.2.category == 2)) = lv') (kk : z_W C σ (pc + 1) lv' st) : z_W C σ pc lv (.ref x :: st) := by
  obtain ⟨p, l, e, R, s, m, args, below, meth, c, Q, cells, slots, A, H0, nL, g⟩ := C
  intro H locs ls hP hS hl
  cases hn
  exact lv_astore_n hx.1 hx.2.1 hd rfl hl hlt hl' (fun ls' hl => kk H locs ls' hP hS hl)
theorem z_iinc (hx : z_ok C cc own sd) {nL : Nat} (hn : C.2.2.2.2.2.2.2.2.2.2.2.2.2.2.2.1 = nL) (q : Nat) {k : Nat} {n x : Int} {lv' : List (Nat × Value)} (hd : decode cc pc = .ok (.iinc k n, 3)) (hk : lv[q]? = some (k, .int (zi x))) (hlt : k < nL) (hl' : (k, Value.int (zi (x + n))) :: lv.filter (fun q => !(q.1 == k) && !(q.1 + 1 == k && q.2.category == 2)) = lv') (kk : z_W C σ (pc + 3) lv' st) : z_W C σ pc lv st := by
  obtain ⟨p, l, e, R, s, m, args, below, meth, c, Q, cells, slots, A, H0, nL, g⟩ := C
  intro H locs ls hP hS hl
  cases hn
  exact lv_iinc hx.1 hx.2.1 hd hl hk (zi_add x n) hlt hl' (fun ls' hl => kk H locs ls' hP hS hl)
theorem z_sub (ks : List Nat) {lv' : List (Nat × Value)} (hl' : lv_pick lv ks = lv') (kk : z_W C σ pc lv' st) : z_W C σ pc lv st := by
  obtain ⟨p, l, e, R, s, m, args, below, meth, c, Q, cells, slots, A, H0, nL, g⟩ := C
  intro H locs ls hP hS hl
  exact kk H locs ls hP hS (lv_sub hl ks hl')
-- arithmetic
theorem z_iadd (hx : z_ok C cc own sd) {a b : Int} (hd : decode cc pc = .ok (.iadd, 1)) (kk : z_W C σ (pc + 1) lv (.int (zi (a + b)) :: st)) : z_W C σ pc lv (.int (zi b) :: .int (zi a) :: st) := by
  obtain ⟨p, l, e, R, s, m, args, below, meth, c, Q, cells, slots, A, H0, nL, g⟩ := C
  intro H locs ls hP hS hl
  refine lv_iadd hx.1 hx.2.1 hd ?_
  rw [zi_add]
  exact kk H locs ls hP hS hl
theorem z_isub (hx : z_ok C cc own sd) {a b : Int} (hd : decode cc pc = .ok (.isub, 1)) (kk : z_W C σ (pc + 1) lv (.int (zi (a - b)) :: st)) : z_W C σ pc lv (.int (zi b) :: .int (zi a) :: st) := by
  obtain ⟨p, l, e, R, s, m, args, below, meth, c, Q, cells, slots, A, H0, nL, g⟩ := C
  intro H locs ls hP hS hl
  refine lv_isub hx.1 hx.2.1 hd ?_
  rw [zi_sub]
  exact kk H locs ls hP hS hl
theorem z_imul (hx : z_ok C cc own sd) {a b : Int} (hd : decode cc pc = .ok (.imul, 1)) (kk : z_W C σ (pc + 1) lv (.int (zi (a * b)) :: st)) : z_W C σ pc lv (.int (zi b) :: .int (zi a) :: st) := by
  obtain ⟨p, l, e, R, s, m, args, below, meth, c, Q, cells, slots, A, H0, nL, g⟩ := C
  intro H locs ls hP hS hl
  refine lv_imul hx.1 hx.2.1 hd ?_
  rw [zi_mul]
  exact kk H locs ls hP hS hl
theorem z_ineg (hx : z_ok C cc own sd) {a : Int} (hd : decode cc pc = .ok (.ineg, 1)) (kk : z_W C σ (pc + 1) lv (.int (zi (-a)) :: st)) : z_W C σ pc lv (.int (zi a) :: st) := by
  obtain ⟨p, l, e, R, s, m, args, below, meth, c, Q, cells, slots, A, H0, nL, g⟩ := C
  intro H locs ls hP hS hl
  refine lv_ineg hx.1 hx.2.1 hd ?_
  rw [zi_neg]
  exact kk H locs ls hP hS hl
theorem z_idiv (hx : z_ok C cc own sd) {a b : Int} {A : Option α} (hd : decode cc pc = .ok (.idiv, 1)) (h : (if zr a ∧ zr b ∧ b ≠ 0 then A else none) = some r) (kk : A = some r → z_W C σ (pc + 1) lv (.int (zi (a.tdiv b)) :: st)) : z_W C σ pc lv (.int (zi b) :: .int (zi a) :: st) := by
  obtain ⟨⟨ha, hb, hn⟩, h⟩ := z_gd h
  have kk := kk h
  obtain ⟨p, l, e, R, s, m, args, below, meth, c, Q, cells, slots, A, H0, nL, g⟩ := C
  intro H locs ls hP hS hl
  refine lv_idiv hx.1 hx.2.1 hd (fun h => hn ((zi_eq hb zr_0).mp h)) ?_
  rw [zi_div ha hb]
  exact kk H locs ls hP hS hl
theorem z_irem (hx : z_ok C cc own sd) {a b : Int} {A : Option α} (hd : decode cc pc = .ok (.irem, 1)) (h : (if zr a ∧ zr b ∧ b ≠ 0 then A else none) = some r) (kk : A = some r → z_W C σ (pc + 1) lv (.int (zi (a.tmod b)) :: st)) : z_W C σ pc lv (.int (zi b) :: .int (zi a) :: st) := by
  obtain ⟨⟨ha, hb, hn⟩, h⟩ := z_gd h
  have kk := kk h
  obtain ⟨p, l, e, R, s, m, args, below, meth, c, Q, cells, slots, A, H0, nL, g⟩ := C
  intro H locs ls hP hS hl
  refine lv_irem hx.1 hx.2.1 hd (fun h => hn ((zi_eq hb zr_0).mp h)) ?_
  rw [zi_rem ha hb]
  exact kk H locs ls hP hS hl
theorem z_iushr16 (hx : z_ok C cc own sd) {a : Int} (hd : decode cc pc = .ok (.iushr, 1)) (kk : z_W C σ (pc + 1) lv (.int (zi (z_ushr a 16)) :: st)) : z_W C σ pc lv (.int (zi 16) :: .int (zi a) :: st) := by
  obtain ⟨p, l, e, R, s, m, args, below, meth, c, Q, cells, slots, A, H0, nL, g⟩ := C
  intro H locs ls hP hS hl
  exact lv_iushr hx.1 hx.2.1 hd (zi_ushr16 a) (kk H locs ls hP hS hl)
theorem z_ladd (hx : z_ok C cc own sd) {a b : Int} (hd : decode cc pc = .ok (.ladd, 1)) (kk : z_W C σ (pc + 1) lv (.long (zl (a + b)) :: st)) : z_W C σ pc lv (.long (zl b) :: .long (zl a) :: st) := by
  obtain ⟨p, l, e, R, s, m, args, below, meth, c, Q, cells, slots, A, H0, nL, g⟩ := C
  intro H locs ls hP hS hl
  refine lv_ladd hx.1 hx.2.1 hd ?_
  rw [zl_add]
  exact kk H locs ls hP hS hl
theorem z_lmul (hx : z_ok C cc own sd) {a b : Int} (hd : decode cc pc = .ok (.lmul, 1)) (kk : z_W C σ (pc + 1) lv (.long (zl (a * b)) :: st)) : z_W C σ pc lv (.long (zl b) :: .long (zl a) :: st) := by
  obtain ⟨p, l, e, R, s, m, args, below, meth, c, Q, cells, slots, A, H0, nL, g⟩ := C
  intro H locs ls hP hS hl
  refine lv_lmul hx.1 hx.2.1 hd ?_
  rw [zl_mul]
  exact kk H locs ls hP hS hl
theorem z_i2l (hx : z_ok C cc own sd) {a : Int} {A : Option α} (hd : decode cc pc = .ok (.i2l, 1)) (h : (if zr a then A else none) = some r) (kk : A = some r → z_W C σ (pc + 1) lv (.long (zl a) :: st)) : z_W C σ pc lv (.int (zi a) :: st) := by
  obtain ⟨ha, h⟩ := z_gd h
  have kk := kk h
  obtain ⟨p, l, e, R, s, m, args, below, meth, c, Q, cells, slots, A, H0, nL, g⟩ := C
  intro H locs ls hP hS hl
  exact lv_i2l hx.1 hx.2.1 hd (zi_long ha) (kk H locs ls hP hS hl)
-- the stack
theorem z_dup (hx : z_ok C cc own sd) {va : Value} (hd : decode cc pc = .ok (.dup, 1)) (hc : va.category = 1) (kk : z_W C σ (pc + 1) lv (va :: va :: st)) : z_W C σ pc lv (va :: st) := by
  obtain ⟨p, l, e, R, s, m, args, below, meth, c, Q, cells, slots, A, H0, nL, g⟩ := C
  intro H locs ls hP hS hl
  exact lv_dup hx.1 hx.2.1 hd hc (kk H locs ls hP hS hl)
theorem z_pop (hx : z_ok C cc own sd) {va : Value} (hd : decode cc pc = .ok (.pop, 1)) (hc : va.category = 1) (kk : z_W C σ (pc + 1) lv st) : z_W C σ pc lv (va :: st) := by
  obtain ⟨p, l, e, R, s, m, args, below, meth, c, Q, cells, slots, A, H0, nL, g⟩ := C
  intro H locs ls hP hS hl
  exact lv_pop hx.1 hx.2.1 hd hc (kk H locs ls hP hS hl)
theorem z_dup2 (hx : z_ok C cc own sd) {va vb : Value} (hd : decode cc pc = .ok (.dup2, 1)) (hc : va.category = 1) (hc2 : vb.category = 1) (kk : z_W C σ (pc + 1) lv (va :: vb :: va :: vb :: st)) : z_W C σ pc lv (va :: vb :: st) := by
  obtain ⟨p, l, e, R, s, m, args, below, meth, c, Q, cells, slots, A, H0, nL, g⟩ := C
  intro H locs ls hP hS hl
  exact lv_dup2_11 hx.1 hx.2.1 hd hc hc2 (kk H locs ls hP hS hl)
theorem z_goto (hx : z_ok C cc own sd) {off : Int} {tgt : Nat} (hd : decode cc pc = .ok (.goto off, 3)) (ht : (pc : Int) + off = (tgt : Int)) (kk : z_W C σ tgt lv st) : z_W C σ pc lv st := by
  obtain ⟨p, l, e, R, s, m, args, below, meth, c, Q, cells, slots, A, H0, nL, g⟩ := C
  intro H locs ls hP hS hl
  exact lv_goto hx.1 hx.2.1 hd ht (kk H locs ls hP hS hl)
-- branches (by program)
theorem z_icmp_lt (hx : z_ok C cc own sd) {a b : Int} {off : Int} {tgt : Nat} {gd : Prop} [Decidable gd] {A B : Option α} (hd : decode cc pc = .ok (.if_icmp .lt off, 3)) (ht : (pc : Int) + off = (tgt : Int)) (h : (if gd then (if a < b then A else B) else none) = some r) (hg : gd → zr a ∧ zr b) (kt : a < b → A = some r → z_W C σ tgt lv st) (kf : ¬ (a < b) → B = some r → z_W C σ (pc + 3) lv st) : z_W C σ pc lv (.int (zi b) :: .int (zi a) :: st) := by
  obtain ⟨g9, h⟩ := z_gd h
  obtain ⟨ha, hb⟩ := hg g9
  have kt := fun hc => kt hc (by rw [if_pos hc] at h; exact h)
  have kf := fun hc => kf hc (by rw [if_neg hc] at h; exact h)
  obtain ⟨p, l, e, R, s, m, args, below, meth, c, Q, cells, slots, A0, H0, nL, g⟩ := C
  intro H locs ls hP hS hl
  exact lv_icmp_lt hx.1 hx.2.1 hd ht (fun hc => kt ((zi_lt ha hb).mp hc) H locs ls hP hS hl) (fun hc => kf (fun h9 => hc ((zi_lt ha hb).mpr h9)) H locs ls hP hS hl)
theorem z_if_lt (hx : z_ok C cc own sd) {a : Int} {off : Int} {tgt : Nat} {gd : Prop} [Decidable gd] {A B : Option α} (hd : decode cc pc = .ok (.ifCond .lt off, 3)) (ht : (pc : Int) + off = (tgt : Int)) (h : (if gd then (if a < 0 then A else B) else none) = some r) (hg : gd → zr a) (kt : a < 0 → A = some r → z_W C σ tgt lv st) (kf : ¬ (a < 0) → B = some r → z_W C σ (pc + 3) lv st) : z_W C σ pc lv (.int (zi a) :: st) := by
  obtain ⟨g9, h⟩ := z_gd h
  obtain ha := hg g9
  have hb := zr_0
  have kt := fun hc => kt hc (by rw [if_pos hc] at h; exact h)
  have kf := fun hc => kf hc (by rw [if_neg hc] at h; exact h)
  obtain ⟨p, l, e, R, s, m, args, below, meth, c, Q, cells, slots, A0, H0, nL, g⟩ := C
  intro H locs ls hP hS hl
  exact lv_if_lt hx.1 hx.2.1 hd ht (fun hc => kt ((zi_lt ha hb).mp hc) H locs ls hP hS hl) (fun hc => kf (fun h9 => hc ((zi_lt ha hb).mpr h9)) H locs ls hP hS hl)
theorem z_icmp_le (hx : z_ok C cc own sd) {a b : Int} {off : Int} {tgt : Nat} {gd : Prop} [Decidable gd] {A B : Option α} (hd : decode cc pc = .ok (.if_icmp .le off, 3)) (ht : (pc : Int) + off = (tgt : Int)) (h : (if gd then (if a ≤ b then A else B) else none) = some r) (hg : gd → zr a ∧ zr b) (kt : a ≤ b → A = some r → z_W C σ tgt lv st) (kf : ¬ (a ≤ b) → B = some r → z_W C σ (pc + 3) lv st) : z_W C σ pc lv (.int (zi b) :: .int (zi a) :: st) := by
  obtain ⟨g9, h⟩ := z_gd h
  obtain ⟨ha, hb⟩ := hg g9
  have kt := fun hc => kt hc (by rw [if_pos hc] at h; exact h)
  have kf := fun hc => kf hc (by rw [if_neg hc] at h; exact h)
  obtain ⟨p, l, e, R, s, m, args, below, meth, c, Q, cells, slots, A0, H0, nL, g⟩ := C
  intro H locs ls hP hS hl
  exact lv_icmp_le hx.1 hx.2.1 hd ht (fun hc => kt ((zi_le ha hb).mp hc) H locs ls hP hS hl) (fun hc => kf (fun h9 => hc ((zi_le ha hb).mpr h9)) H locs ls hP hS hl)
theorem z_if_le (hx : z_ok C cc own sd) {a : Int} {off : Int} {tgt : Nat} {gd : Prop} [Decidable gd] {A B : Option α} (hd : decode cc pc = .ok (.ifCond .le off, 3)) (ht : (pc : Int) + off = (tgt : Int)) (h : (if gd then (if a ≤ 0 then A else B) else none) = some r) (hg : gd → zr a) (kt : a ≤ 0 → A = some r → z_W C σ tgt lv st) (kf : ¬ (a ≤ 0) → B = some r → z_W C σ (pc + 3) lv st) : z_W C σ pc lv (.int (zi a) :: st) := by
  obtain ⟨g9, h⟩ := z_gd h
  obtain ha := hg g9
  have hb := zr_0
  have kt := fun hc => kt hc (by rw [if_pos hc] at h; exact h)
  have kf := fun hc => kf hc (by rw [if_neg hc] at h; exact h)
  obtain ⟨p, l, e, R, s, m, args, below, meth, c, Q, cells, slots, A0, H0, nL, g⟩ := C
  intro H locs ls hP hS hl
  exact lv_if_le hx.1 hx.2.1 hd ht (fun hc => kt ((zi_le ha hb).mp hc) H locs ls hP hS hl) (fun hc => kf (fun h9 => hc ((zi_le ha hb).mpr h9)) H locs ls hP hS hl)
theorem z_icmp_gt (hx : z_ok C cc own sd) {a b : Int} {off : Int} {tgt : Nat} {gd : Prop} [Decidable gd] {A B : Option α} (hd : decode cc pc = .ok (.if_icmp .gt off, 3)) (ht : (pc : Int) + off = (tgt : Int)) (h : (if gd then (if b < a then A else B) else none) = some r) (hg : gd → zr a ∧ zr b) (kt : b < a → A = some r → z_W C σ tgt lv st) (kf : ¬ (b < a) → B = some r → z_W C σ (pc + 3) lv st) : z_W C σ pc lv (.int (zi b) :: .int (zi a) :: st) := by
  obtain ⟨g9, h⟩ := z_gd h
  obtain ⟨ha, hb⟩ := hg g9
  have kt := fun hc => kt hc (by rw [if_pos hc] at h; exact h)
  have kf := fun hc => kf hc (by rw [if_neg hc] at h; exact h)
  obtain ⟨p, l, e, R, s, m, args, below, meth, c, Q, cells, slots, A0, H0, nL, g⟩ := C
  intro H locs ls hP hS hl
  exact lv_icmp_gt hx.1 hx.2.1 hd ht (fun hc => kt ((zi_lt hb ha).mp hc) H locs ls hP hS hl) (fun hc => kf (fun h9 => hc ((zi_lt hb ha).mpr h9)) H locs ls hP hS hl)
theorem z_if_gt (hx : z_ok C cc own sd) {a : Int} {off : Int} {tgt : Nat} {gd : Prop} [Decidable gd] {A B : Option α} (hd : decode cc pc = .ok (.ifCond .gt off, 3)) (ht : (pc : Int) + off = (tgt : Int)) (h : (if gd then (if 0 < a then A else B) else none) = some r) (hg : gd → zr a) (kt : 0 < a → A = some r → z_W C σ tgt lv st) (kf : ¬ (0 < a) → B = some r → z_W C σ (pc + 3) lv st) : z_W C σ pc lv (.int (zi a) :: st) := by
  obtain ⟨g9, h⟩ := z_gd h
  obtain ha := hg g9
  have hb := zr_0
  have kt := fun hc => kt hc (by rw [if_pos hc] at h; exact h)
  have kf := fun hc => kf hc (by rw [if_neg hc] at h; exact h)
  obtain ⟨p, l, e, R, s, m, args, below, meth, c, Q, cells, slots, A0, H0, nL, g⟩ := C
  intro H locs ls hP hS hl
  exact lv_if_gt hx.1 hx.2.1 hd ht (fun hc => kt ((zi_lt hb ha).mp hc) H locs ls hP hS hl) (fun hc => kf (fun h9 => hc ((zi_lt hb ha).mpr h9)) H locs ls hP hS hl)
theorem z_icmp_ge (hx : z_ok C cc own sd) {a b : Int} {off : Int} {tgt : Nat} {gd : Prop} [Decidable gd] {A B : Option α} (hd : decode cc pc = .ok (.if_icmp .ge off, 3)) (ht : (pc : Int) + off = (tgt : Int)) (h : (if gd then (if b ≤ a then A else B) else none) = some r) (hg : gd → zr a ∧ zr b) (kt : b ≤ a → A = some r → z_W C σ tgt lv st) (kf : ¬ (b ≤ a) → B = some r → z_W C σ (pc + 3) lv st) : z_W C σ pc lv (.int (zi b) :: .int (zi a) :: st) := by
  obtain ⟨g9, h⟩ := z_gd h
  obtain ⟨ha, hb⟩ := hg g9
  have kt := fun hc => kt hc (by rw [if_pos hc] at h; exact h)
  have kf := fun hc => kf hc (by rw [if_neg hc] at h; exact h)
  obtain ⟨p, l, e, R, s, m, args, below, meth, c, Q, cells, slots, A0, H0, nL, g⟩ := C
  intro H locs ls hP hS hl
  exact lv_icmp_ge hx.1 hx.2.1 hd ht (fun hc => kt ((zi_le hb ha).mp hc) H locs ls hP hS hl) (fun hc => kf (fun h9 => hc ((zi_le hb ha).mpr h9)) H locs ls hP hS hl)
theorem z_if_ge (hx : z_ok C cc own sd) {a : Int} {off : Int} {tgt : Nat} {gd : Prop} [Decidable gd] {A B : Option α} (hd : decode cc pc = .ok (.ifCond .ge off, 3)) (ht : (pc : Int) + off = (tgt : Int)) (h : (if gd then (if 0 ≤ a then A else B) else none) = some r) (hg : gd → zr a) (kt : 0 ≤ a → A = some r → z_W C σ tgt lv st) (kf : ¬ (0 ≤ a) → B = some r → z_W C σ (pc + 3) lv st) : z_W C σ pc lv (.int (zi a) :: st) := by
  obtain ⟨g9, h⟩ := z_gd h
  obtain ha := hg g9
  have hb := zr_0
  have kt := fun hc => kt hc (by rw [if_pos hc] at h; exact h)
  have kf := fun hc => kf hc (by rw [if_neg hc] at h; exact h)
  obtain ⟨p, l, e, R, s, m, args, below, meth, c, Q, cells, slots, A0, H0, nL, g⟩ := C
  intro H locs ls hP hS hl
  exact lv_if_ge hx.1 hx.2.1 hd ht (fun hc => kt ((zi_le hb ha).mp hc) H locs ls hP hS hl) (fun hc => kf (fun h9 => hc ((zi_le hb ha).mpr h9)) H locs ls hP hS hl)
theorem z_icmp_eq (hx : z_ok C cc own sd) {a b : Int} {off : Int} {tgt : Nat} {gd : Prop} [Decidable gd] {A B : Option α} (hd : decode cc pc = .ok (.if_icmp .eq off, 3)) (ht : (pc : Int) + off = (tgt : Int)) (h : (if gd then (if a = b then A else B) else none) = some r) (hg : gd → zr a ∧ zr b) (kt : a = b → A = some r → z_W C σ tgt lv st) (kf : ¬ (a = b) → B = some r → z_W C σ (pc + 3) lv st) : z_W C σ pc lv (.int (zi b) :: .int (zi a) :: st) := by
  obtain ⟨g9, h⟩ := z_gd h
  obtain ⟨ha, hb⟩ := hg g9
  have kt := fun hc => kt hc (by rw [if_pos hc] at h; exact h)
  have kf := fun hc => kf hc (by rw [if_neg hc] at h; exact h)
  obtain ⟨p, l, e, R, s, m, args, below, meth, c, Q, cells, slots, A0, H0, nL, g⟩ := C
  intro H locs ls hP hS hl
  exact lv_icmp_eq hx.1 hx.2.1 hd ht (fun hc => kt ((zi_eq ha hb).mp hc) H locs ls hP hS hl) (fun hc => kf (fun h9 => hc ((zi_eq ha hb).mpr h9)) H locs ls hP hS hl)
theorem z_if_eq (hx : z_ok C cc own sd) {a : Int} {off : Int} {tgt : Nat} {gd : Prop} [Decidable gd] {A B : Option α} (hd : decode cc pc = .ok (.ifCond .eq off, 3)) (ht : (pc : Int) + off = (tgt : Int)) (h : (if gd then (if a = 0 then A else B) else none) = some r) (hg : gd → zr a) (kt : a = 0 → A = some r → z_W C σ tgt lv st) (kf : ¬ (a = 0) → B = some r → z_W C σ (pc + 3) lv st) : z_W C σ pc lv (.int (zi a) :: st) := by
  obtain ⟨g9, h⟩ := z_gd h
  obtain ha := hg g9
  have hb := zr_0
  have kt := fun hc => kt hc (by rw [if_pos hc] at h; exact h)
  have kf := fun hc => kf hc (by rw [if_neg hc] at h; exact h)
  obtain ⟨p, l, e, R, s, m, args, below, meth, c, Q, cells, slots, A0, H0, nL, g⟩ := C
  intro H locs ls hP hS hl
  exact lv_if_eq hx.1 hx.2.1 hd ht (fun hc => kt ((zi_eq ha hb).mp hc) H locs ls hP hS hl) (fun hc => kf (fun h9 => hc ((zi_eq ha hb).mpr h9)) H locs ls hP hS hl)
theorem z_icmp_ne (hx : z_ok C cc own sd) {a b : Int} {off : Int} {tgt : Nat} {gd : Prop} [Decidable gd] {A B : Option α} (hd : decode cc pc = .ok (.if_icmp .ne off, 3)) (ht : (pc : Int) + off = (tgt : Int)) (h : (if gd then (if ¬ a = b then A else B) else none) = some r) (hg : gd → zr a ∧ zr b) (kt : ¬ a = b → A = some r → z_W C σ tgt lv st) (kf : ¬ (¬ a = b) → B = some r → z_W C σ (pc + 3) lv st) : z_W C σ pc lv (.int (zi b) :: .int (zi a) :: st) := by
  obtain ⟨g9, h⟩ := z_gd h
  obtain ⟨ha, hb⟩ := hg g9
  have kt := fun hc => kt hc (by rw [if_pos hc] at h; exact h)
  have kf := fun hc => kf hc (by rw [if_neg hc] at h; exact h)
  obtain ⟨p, l, e, R, s, m, args, below, meth, c, Q, cells, slots, A0, H0, nL, g⟩ := C
  intro H locs ls hP hS hl
  exact lv_icmp_ne hx.1 hx.2.1 hd ht (fun hc => kt ((not_congr (zi_eq ha hb)).mp hc) H locs ls hP hS hl) (fun hc => kf (Decidable.not_not.mpr ((zi_eq ha hb).mp hc)) H locs ls hP hS hl)
theorem z_if_ne (hx : z_ok C cc own sd) {a : Int} {off : Int} {tgt : Nat} {gd : Prop} [Decidable gd] {A B : Option α} (hd : decode cc pc = .ok (.ifCond .ne off, 3)) (ht : (pc : Int) + off = (tgt : Int)) (h : (if gd then (if ¬ a = 0 then A else B) else none) = some r) (hg : gd → zr a) (kt : ¬ a = 0 → A = some r → z_W C σ tgt lv st) (kf : ¬ (¬ a = 0) → B = some r → z_W C σ (pc + 3) lv st) : z_W C σ pc lv (.int (zi a) :: st) := by
  obtain ⟨g9, h⟩ := z_gd h
  obtain ha := hg g9
  have hb := zr_0
  have kt := fun hc => kt hc (by rw [if_pos hc] at h; exact h)
  have kf := fun hc => kf hc (by rw [if_neg hc] at h; exact h)
  obtain ⟨p, l, e, R, s, m, args, below, meth, c, Q, cells, slots, A0, H0, nL, g⟩ := C
  intro H locs ls hP hS hl
  exact lv_if_ne hx.1 hx.2.1 hd ht (fun hc => kt ((not_congr (zi_eq ha hb)).mp hc) H locs ls hP hS hl) (fun hc => kf (Decidable.not_not.mpr ((zi_eq ha hb).mp hc)) H locs ls hP hS hl)
end
end
section
/-! ROWS OF FIELDS, ARRAYS, CALLS, BEGINNINGS AND ENDS -/
theorem z_up_row (σ : zS) (k : Nat) (i v : Int) : z_up σ k i v k = fun b => if b = i then v else σ k b := by
  funext b; simp [z_up]
theorem z_up_ne (σ : zS) (k : Nat) (i v : Int) (a : Nat) (h : a ≠ k) : z_up σ k i v a = σ a := by
  funext b; simp [z_up, h]
theorem z_side0 {g : zG} (h : g.1 = 0) : z_mk g = z_mk0 g.2.1 g.2.2.1 g.2.2.2.1 g.2.2.2.2.1 := by
  obtain ⟨sd, ad, cI, cZ, cR, D⟩ := g
  cases h
  rfl
theorem z_side1 {g : zG} (h : g.1 = 1) : z_mk g = z_mk1 g.2.1 g.2.2.1 := by
  obtain ⟨sd, ad, cI, cZ, cR, D⟩ := g
  cases h
  rfl
theorem z_N0 {g : zG} (h : g.1 = 0) : z_N g = 64 := by simp [z_N, h]
theorem z_N1 {g : zG} (h : g.1 = 1) : z_N g = 10 := by simp [z_N, h]
section
variable {C : zC} {cc : ByteArray} {own : String} {sd : Nat} {σ : zS} {pc : Nat} {lv : List (Nat × Value)} {st : List Value} {α : Type} {r : α}
theorem z_ok_sd (hx : z_ok C cc own sd) : (z_g C).1 = sd := by
  obtain ⟨p, l, e, R, s, m, args, below, meth, c, Q, cells, slots, A, H0, nL, g⟩ := C
  exact hx.2.2.2.2.2.2.2.2.1
theorem z_getf (hx : z_ok C cc own sd) {CN : String} {T : u_T} {N ci index : Nat} {k : Nat} (hk : k < z_N (z_g C)) {fs : List Value} (hm : z_mk (z_g C) k (σ k) = .inr (ci, fs)) (hc : vwCl[ci]? = some (CN, T, N)) (hin : ∀ w ∈ u_ws CN T N, w ∈ z_ws) (j : Nat) (hj : j < N) (hw : Cond.fieldLink own index CN (T j).2.1 (T j).2.2.1 ∈ z_ws) (hT : (T j).1 = CN) {v : Value} (hv : fs[j]? = some v) (hd : decode cc pc = .ok (.getfield index, 3)) (kk : z_W C σ (pc + 3) lv (v :: st)) : z_W C σ pc lv (.ref (z_ad (z_g C) k) :: st) := by
  obtain ⟨p, l, e, R, s, m, args, below, meth, c, Q, cells, slots, A, H0, nL, g⟩ := C
  intro H locs ls hP hS hl
  have he := z_wd_get (mk := z_mk g) (ad := g.2.1) (σ := σ) hk
  rw [hm] at he
  obtain ⟨h1, h2, h3, h4, h5, h6, h7, h8, h9, h10, h11, h12⟩ := hx
  exact va_get h1 h2 h5 hin h4 h6 hP k he hc j hj (h5 _ hw) (fun x hx => by rw [← hT]; exact hx) hv hd (kk H locs ls hP hS hl)
theorem z_putf (hx : z_ok C cc own sd) {CN : String} {T : u_T} {N ci index : Nat} {k : Nat} (hk : k < z_N (z_g C)) (fs : (Int → Int) → List Value) (hm : ∀ f, z_mk (z_g C) k f = .inr (ci, fs f)) (hc : vwCl[ci]? = some (CN, T, N)) (hin : ∀ w ∈ u_ws CN T N, w ∈ z_ws) (ty0 : Nat → FieldType) (hty : ∀ k, k < N → parseFieldDescriptor (T k).2.2.1 = some (ty0 k)) (hnm : ∀ a, a < N → ∀ b, b < N → a ≠ b → (T a).2.1 ≠ (T b).2.1) (j : Nat) (hj : j < N) (hw : Cond.fieldLink own index CN (T j).2.1 (T j).2.2.1 ∈ z_ws) (hT : (T j).1 = CN) (hfin : (T j).2.2.2 = false) (hI : ty0 j = .int) {v : Int} (hlen : ∀ f, j < (fs f).length) (hset : ∀ f, (fs f).set j (.int (zi v)) = fs (fun b => if b = (j : Int) then v else f b)) {i : Int} (hi : (j : Int) = i) {K : zS → Option α} (hd : decode cc pc = .ok (.putfield index, 3)) (h : z_put σ k i v K = some r) (kk : ∀ σ1, K σ1 = some r → z_W C σ1 (pc + 3) lv st) : z_W C σ pc lv (.int (zi v) :: .ref (z_ad (z_g C) k) :: st) := by
  have kk := kk _ h
  obtain ⟨p, l, e, R, s, m, args, below, meth, c, Q, cells, slots, A, H0, nL, g⟩ := C
  intro H locs ls hP hS hl
  have he := z_wd_get (mk := z_mk g) (ad := g.2.1) (σ := σ) hk
  rw [hm] at he
  obtain ⟨h1, h2, h3, h4, h5, h6, h7, h8, h9, h10, h11, h12⟩ := hx
  refine va_put h1 h2 h5 hin ty0 hty hnm h4 h6 hP (h7 σ) hS k he hc j hj (h5 _ hw) (fun x hx => by rw [← hT]; exact hx) hfin (ty := .int) (v := .int (zi v)) (by rw [hty j hj, hI]) rfl rfl (hlen _) hd (fun H1 locs1 hP1 hD1 hS1 => ?_)
  refine kk H1 locs1 ls ?_ hS1 hl
  have e1 := z_wd_set (mk := z_mk g) (N := z_N g) (ad := g.2.1) (σ := σ) (τ := z_up σ k i v) (k := k) (e := .inr (ci, (fs (σ k)).set j (.int (zi v)))) (by rw [z_up_row, hm, hset, hi]) (fun a ha => z_up_ne σ k i v a ha)
  rw [e1] at hP1
  exact hP1
theorem z_ald_aux {f : Int → Int} {i : Int} (h0 : 0 ≤ i) (h1 : i < 2147483648) : z_ar f (zi i).toNatClampNeg = zi (f i) := by
  show zi (f _) = _
  rw [zi_clamp h0 h1, Int.toNat_of_nonneg h0]
theorem z_iald (hx : z_ok C cc own sd) {k N : Nat} {n : Int} (hk : k < z_N (z_g C)) (hm : z_mk (z_g C) k (σ k) = .inl ((z_g C).2.2.1, N, .inl (z_ar (σ k)))) (hN : (N : Int) = n) (hb : n ≤ 2147483647) {i : Int} {A : Option α} (hd : decode cc pc = .ok (.iaload, 1)) (h : (if 0 ≤ i ∧ i < n then A else none) = some r) (kk : A = some r → z_W C σ (pc + 1) lv (.int (zi (σ k i)) :: st)) : z_W C σ pc lv (.int (zi i) :: .ref (z_ad (z_g C) k) :: st) := by
  obtain ⟨⟨i0, i1⟩, h⟩ := z_gd h
  have kk := kk h
  obtain ⟨p, l, e, R, s, m, args, below, meth, c, Q, cells, slots, A, H0, nL, g⟩ := C
  intro H locs ls hP hS hl
  have he := z_wd_get (mk := z_mk g) (ad := g.2.1) (σ := σ) hk
  rw [hm] at he
  obtain ⟨h1, h2, h3, h4, h5, h6, h7, h8, h9, h10, h11, h12⟩ := hx
  refine va_iald h1 h2 h6 hP k 0 he rfl (zi_in i0 (by omega) (by omega)) hd ?_
  rw [z_ald_aux i0 (by omega)]
  exact kk H locs ls hP hS hl
theorem z_zald (hx : z_ok C cc own sd) {k N : Nat} {n : Int} (hk : k < z_N (z_g C)) (hm : z_mk (z_g C) k (σ k) = .inl ((z_g C).2.2.2.1, N, .inl (z_ar (σ k)))) (hN : (N : Int) = n) (hb : n ≤ 2147483647) {i : Int} {A : Option α} (hd : decode cc pc = .ok (.baload, 1)) (h : (if 0 ≤ i ∧ i < n then A else none) = some r) (kk : A = some r → z_W C σ (pc + 1) lv (.int (zi (σ k i)) :: st)) : z_W C σ pc lv (.int (zi i) :: .ref (z_ad (z_g C) k) :: st) := by
  obtain ⟨⟨i0, i1⟩, h⟩ := z_gd h
  have kk := kk h
  obtain ⟨p, l, e, R, s, m, args, below, meth, c, Q, cells, slots, A, H0, nL, g⟩ := C
  intro H locs ls hP hS hl
  have he := z_wd_get (mk := z_mk g) (ad := g.2.1) (σ := σ) hk
  rw [hm] at he
  obtain ⟨h1, h2, h3, h4, h5, h6, h7, h8, h9, h10, h11, h12⟩ := hx
  refine va_zald h1 h2 h6 hP k 1 he rfl (zi_in i0 (by omega) (by omega)) hd ?_
  rw [z_ald_aux i0 (by omega)]
  exact kk H locs ls hP hS hl
theorem z_iast (hx : z_ok C cc own sd) {k N : Nat} {n : Int} (hk : k < z_N (z_g C)) (hm : ∀ f, z_mk (z_g C) k f = .inl ((z_g C).2.2.1, N, .inl (z_ar f))) (hN : (N : Int) = n) (hb : n ≤ 2147483647) {i v : Int} {K : zS → Option α} (hd : decode cc pc = .ok (.iastore, 1)) (h : (if 0 ≤ i ∧ i < n then z_put σ k i v K else none) = some r) (kk : ∀ σ1, K σ1 = some r → z_W C σ1 (pc + 1) lv st) : z_W C σ pc lv (.int (zi v) :: .int (zi i) :: .ref (z_ad (z_g C) k) :: st) := by
  obtain ⟨⟨i0, i1⟩, h⟩ := z_gd h
  have kk := kk _ h
  obtain ⟨p, l, e, R, s, m, args, below, meth, c, Q, cells, slots, A, H0, nL, g⟩ := C
  intro H locs ls hP hS hl
  have he := z_wd_get (mk := z_mk g) (ad := g.2.1) (σ := σ) hk
  rw [hm] at he
  obtain ⟨h1, h2, h3, h4, h5, h6, h7, h8, h9, h10, h11, h12⟩ := hx
  refine va_iast h1 h2 h6 hP (h7 σ) hS k 0 he rfl (zi_in i0 (by omega) (by omega)) hd (fun H1 locs1 hP1 hD1 hS1 => ?_)
  refine kk H1 locs1 ls ?_ hS1 hl
  rw [z_ar_up i0 (by omega)] at hP1
  have e1 := z_wd_set (mk := z_mk g) (N := z_N g) (ad := g.2.1) (σ := σ) (τ := z_up σ k i v) (k := k) (e := .inl (g.2.2.1, N, .inl (z_ar (fun b => if b = i then v else σ k b)))) (by rw [z_up_row]; exact (hm _).symm) (fun a ha => z_up_ne σ k i v a ha)
  show va_P g.2.2.2.2.2 vwCl (z_wd (z_mk g) (z_N g) g.2.1 (z_up σ k i v)) H1
  rw [← e1]
  exact hP1
theorem z_nar {v : Int} (h : 0 ≤ v ∧ v ≤ 1) : vp_nar .boolean (zi v) = zi v ∧ narrow .boolean (.int (zi v)) = .int (zi v) := by
  rcases (show v = 0 ∨ v = 1 by omega) with rfl | rfl <;> exact ⟨rfl, rfl⟩
theorem z_zast (hx : z_ok C cc own sd) {k N : Nat} {n : Int} (hk : k < z_N (z_g C)) (hm : ∀ f, z_mk (z_g C) k f = .inl ((z_g C).2.2.2.1, N, .inl (z_ar f))) (hN : (N : Int) = n) (hb : n ≤ 2147483647) {i v : Int} {K : zS → Option α} (hd : decode cc pc = .ok (.bastore, 1)) (h : (if (0 ≤ i ∧ i < n) ∧ 0 ≤ v ∧ v ≤ 1 then z_put σ k i v K else none) = some r) (kk : ∀ σ1, K σ1 = some r → z_W C σ1 (pc + 1) lv st) : z_W C σ pc lv (.int (zi v) :: .int (zi i) :: .ref (z_ad (z_g C) k) :: st) := by
  obtain ⟨⟨⟨i0, i1⟩, hv⟩, h⟩ := z_gd h
  have kk := kk _ h
  obtain ⟨p, l, e, R, s, m, args, below, meth, c, Q, cells, slots, A, H0, nL, g⟩ := C
  intro H locs ls hP hS hl
  have he := z_wd_get (mk := z_mk g) (ad := g.2.1) (σ := σ) hk
  rw [hm] at he
  obtain ⟨h1, h2, h3, h4, h5, h6, h7, h8, h9, h10, h11, h12⟩ := hx
  refine va_zast h1 h2 h6 hP (h7 σ) hS k 1 he rfl (zi_in i0 (by omega) (by omega)) hd (fun H1 locs1 hP1 hD1 hS1 => ?_)
  refine kk H1 locs1 ls ?_ hS1 hl
  rw [(z_nar hv).1, z_ar_up i0 (by omega)] at hP1
  have e1 := z_wd_set (mk := z_mk g) (N := z_N g) (ad := g.2.1) (σ := σ) (τ := z_up σ k i v) (k := k) (e := .inl (g.2.2.2.1, N, .inl (z_ar (fun b => if b = i then v else σ k b)))) (by rw [z_up_row]; exact (hm _).symm) (fun a ha => z_up_ne σ k i v a ha)
  show va_P g.2.2.2.2.2 vwCl (z_wd (z_mk g) (z_N g) g.2.1 (z_up σ k i v)) H1
  rw [← e1]
  exact hP1
theorem z_alen (hx : z_ok C cc own sd) {k N : Nat} {n : Int} (hk : k < z_N (z_g C)) (hm : z_mk (z_g C) k (σ k) = .inl ((z_g C).2.2.1, N, .inl (z_ar (σ k)))) (hN : Int32.ofNat N = zi n) (hd : decode cc pc = .ok (.arraylength, 1)) (kk : z_W C σ (pc + 1) lv (.int (zi n) :: st)) : z_W C σ pc lv (.ref (z_ad (z_g C) k) :: st) := by
  obtain ⟨p, l, e, R, s, m, args, below, meth, c, Q, cells, slots, A, H0, nL, g⟩ := C
  intro H locs ls hP hS hl
  have he := z_wd_get (mk := z_mk g) (ad := g.2.1) (σ := σ) hk
  rw [hm] at he
  obtain ⟨h1, h2, h3, h4, h5, h6, h7, h8, h9, h10, h11, h12⟩ := hx
  exact va_alen h1 h2 h6 hP k 0 he rfl hN hd (kk H locs ls hP hS hl)
end
end
section
/-! CONTRACTS, CALLS, BEGINNINGS AND ENDS -/
/-- the world behind a method -/
def z_B (g : zG) (A : Nat → Prop) (u : zS) (t : State) : Prop := va_P g.2.2.2.2.2 vwCl (z_w g u) t.heap ∧ va_K g.2.2.2.2.2 vwCl (z_tys g) t ∧ va_D A (z_w g u)
def z_QI (g : zG) (r0 : Int) (σ' : zS) (A : Nat → Prop) : Array Value → State → Outcome → State → Prop := va_Qi (fun (x : Int32) (u : zS) => x = zi r0 ∧ u = σ') (z_B g A) A
def z_QV (g : zG) (σ' : zS) (A : Nat → Prop) : Array Value → State → Outcome → State → Prop := va_Qv (fun (u : zS) => u = σ') (z_B g A) A
def z_QL (g : zG) (r0 : Int) (σ' : zS) (A : Nat → Prop) : Array Value → State → Outcome → State → Prop := va_Ql (fun (x : Int64) (u : zS) => x = zl r0 ∧ u = σ') (z_B g A) A
def z_QR (g : zG) (k : Nat) (σ' : zS) (A : Nat → Prop) : Array Value → State → Outcome → State → Prop := va_Qr (fun (u : zS) => u = σ') (fun u a t => a = z_ad g k ∧ z_B g A u t) A
/-- what a method finds: the world, the classes -/
def z_Pre (g : zG) (σ : zS) (sz : Nat) (U : State) : Prop := U.heap.size = sz ∧ va_P g.2.2.2.2.2 vwCl (z_w g σ) U.heap ∧ va_K g.2.2.2.2.2 vwCl (z_tys g) U ∧ va_D (fun _ => True) (z_w g σ)
/-- a method's contract over a world: from what the cells hold to what they hold then -/
def z_Met (l : Launch) (y : MethodName) (cc : ByteArray) (nL : Nat) (ret : Option FieldType) (rm : Room) (g : zG) (av : List Value) (σ : zS) (Qk : (Nat → Prop) → Array Value → State → Outcome → State → Prop) : Prop :=
  ∀ sz : Nat, Met l y (.code y cc nL ret :: z_ws) rm (va_Pc av (z_Pre g σ sz)) (Qk (va_A (z_w g σ) sz)) 0 0 (va_A (z_w g σ) sz)
abbrev z_nL (C : zC) : Nat := C.2.2.2.2.2.2.2.2.2.2.2.2.2.2.2.1
/-- the end that is due -/
def z_fin (C : zC) (ret : Option FieldType) (Qk : (Nat → Prop) → Array Value → State → Outcome → State → Prop) : Prop := match C with
  | (_, _, _, _, s, _, args, below, meth, _, Q, cells, slots, A, _, _, _) => meth.sig.returnType = ret ∧ meth.locks = false ∧ Q = MQ below (Qk A) args s cells slots A
theorem z_enter {l : Launch} {y : MethodName} {cc : ByteArray} {nL : Nat} {ret : Option FieldType} {rm : Room} {g : zG} {av : List Value} {σ : zS} {Qk : (Nat → Prop) → Array Value → State → Outcome → State → Prop} {own : String} {sd : Nat} {lv0 : List (Nat × Value)} (hy : plainName y.cls = true) (hown : y.cls = own) (hlen : (lg_sl av).length ≤ nL) (hg : g.1 = sd) (hlv : lv_args 0 av = lv0)
    (body : ∀ C : zC, z_ok C cc own sd → z_l C = l → z_g C = g → z_R C = rm → z_nL C = nL → z_fin C ret Qk → z_W C σ 0 lv0 []) : z_Met l y cc nL ret rm g av σ Qk := by
  intro sz
  refine Met.ofW (cc := cc) (maxL := nL) (ret := ret) hy rfl ?_
  intro p e s m args below meth c s₁ B hml hv
  obtain ⟨rfl, hsz, hP, hK, hD0⟩ := hv
  have hx := B.exec
  have hb := B.bytes
  have hr := B.returns
  have hts := atoms_spec (ws := .code y cc nL ret :: z_ws) B.pre
  have hown2 : s.vm.findClass y.cls = some m.cls := findClass_of_methodNamed B.named
  have hlocks := B.notSynchronized
  subst hsz
  have hD := hD0.self (sz := s.heap.size)
  have hl := lv_entry av (n := nL) hlen
  rw [lg_entry_eq]
  rw [hlv] at hl
  refine body (p, l, e, rm, s, m, av.toArray, below, meth, c, MQ below (Qk (va_A (z_w g σ) s.heap.size)) av.toArray s 0 0 (va_A (z_w g σ) s.heap.size), 0, 0, va_A (z_w g σ) s.heap.size, s.heap, nL, g) ?_ rfl rfl rfl rfl ⟨hr, hlocks, rfl⟩ s.heap [] _ hP va_S.rf hl
  exact ⟨hx, hb, hml, hown ▸ hown2, fun w hw => hts w (List.mem_cons_of_mem _ hw), hK, fun τ => z_wd_D hD, fun q h => Or.inr h, hg, Nat.zero_le _, Nat.zero_le _, rfl⟩
section
variable {C : zC} {cc : ByteArray} {own : String} {sd : Nat} {σ : zS} {pc : Nat} {lv : List (Nat × Value)} {st : List Value} {α : Type} {r : α}
theorem z_iret (hx : z_ok C cc own sd) {r0 : Int} (hq : z_fin C (some .int) (z_QI (z_g C) r0 σ)) (hd : decode cc pc = .ok (.ireturn, 1)) : z_W C σ pc lv [.int (zi r0)] := by
  obtain ⟨p, l, e, R, s, m, args, below, meth, c, Q, cells, slots, A, H0, nL, g⟩ := C
  intro H locs ls hP hS hl
  obtain ⟨h1, h2, h3, h4, h5, h6, h7, h8, h9, h10, h11, rfl⟩ := hx
  obtain ⟨q1, q2, q3⟩ := hq
  rw [q3]
  exact W.iret h1 h2 q1 (fun t ht hW => ⟨⟨zi r0, σ, rfl, ⟨rfl, rfl⟩, by rw [ht]; exact hP, va_K.moved hW.alike h6, h7 σ⟩, hS.F ht⟩) hS.2.2 hd q2
theorem z_zret (hx : z_ok C cc own sd) {r0 : Int} (hz : 0 ≤ r0 ∧ r0 ≤ 1) (hq : z_fin C (some .boolean) (z_QI (z_g C) r0 σ)) (hd : decode cc pc = .ok (.ireturn, 1)) : z_W C σ pc lv [.int (zi r0)] := by
  obtain ⟨p, l, e, R, s, m, args, below, meth, c, Q, cells, slots, A, H0, nL, g⟩ := C
  intro H locs ls hP hS hl
  obtain ⟨h1, h2, h3, h4, h5, h6, h7, h8, h9, h10, h11, rfl⟩ := hx
  obtain ⟨q1, q2, q3⟩ := hq
  rw [q3]
  exact W.zret h1 h2 q1 (z_nar hz).2 (fun t ht hW => ⟨⟨zi r0, σ, rfl, ⟨rfl, rfl⟩, by rw [ht]; exact hP, va_K.moved hW.alike h6, h7 σ⟩, hS.F ht⟩) hS.2.2 hd q2
theorem z_vret (hx : z_ok C cc own sd) (hq : z_fin C none (z_QV (z_g C) σ)) (hd : decode cc pc = .ok (.return_, 1)) : z_W C σ pc lv [] := by
  obtain ⟨p, l, e, R, s, m, args, below, meth, c, Q, cells, slots, A, H0, nL, g⟩ := C
  intro H locs ls hP hS hl
  obtain ⟨h1, h2, h3, h4, h5, h6, h7, h8, h9, h10, h11, rfl⟩ := hx
  obtain ⟨q1, q2, q3⟩ := hq
  rw [q3]
  exact W.vret h1 h2 q1 (fun t ht hW => ⟨⟨σ, rfl, rfl, by rw [ht]; exact hP, va_K.moved hW.alike h6, h7 σ⟩, hS.F ht⟩) hS.2.2 hd q2
theorem z_lret (hx : z_ok C cc own sd) {r0 : Int} (hq : z_fin C (some .long) (z_QL (z_g C) r0 σ)) (hd : decode cc pc = .ok (.lreturn, 1)) : z_W C σ pc lv [.long (zl r0)] := by
  obtain ⟨p, l, e, R, s, m, args, below, meth, c, Q, cells, slots, A, H0, nL, g⟩ := C
  intro H locs ls hP hS hl
  obtain ⟨h1, h2, h3, h4, h5, h6, h7, h8, h9, h10, h11, rfl⟩ := hx
  obtain ⟨q1, q2, q3⟩ := hq
  rw [q3]
  exact W.lret h1 h2 q1 (fun t ht hW => ⟨⟨zl r0, σ, rfl, ⟨rfl, rfl⟩, by rw [ht]; exact hP, va_K.moved hW.alike h6, h7 σ⟩, hS.F ht⟩) hS.2.2 hd q2
theorem z_aret (hx : z_ok C cc own sd) {k : Nat} {n : String} (hq : z_fin C (some (.object n)) (z_QR (z_g C) k σ)) (hd : decode cc pc = .ok (.areturn, 1)) : z_W C σ pc lv [.ref (z_ad (z_g C) k)] := by
  obtain ⟨p, l, e, R, s, m, args, below, meth, c, Q, cells, slots, A, H0, nL, g⟩ := C
  intro H locs ls hP hS hl
  obtain ⟨h1, h2, h3, h4, h5, h6, h7, h8, h9, h10, h11, rfl⟩ := hx
  obtain ⟨q1, q2, q3⟩ := hq
  rw [q3]
  exact W.aret h1 h2 q1 (Or.inl ⟨n, rfl⟩) (Or.inr ⟨_, rfl⟩) (fun t ht hW => ⟨⟨σ, g.2.1 k, rfl, rfl, rfl, by rw [ht]; exact hP, va_K.moved hW.alike h6, h7 σ⟩, hS.F ht⟩) hS.2.2 hd q2
/-- the words of a call of a method of an object's own class -/
def z_cv (own : String) (idx : Nat) (y : MethodName) (cc : ByteArray) (nL : Nat) (ret : Option FieldType) (n : Nat) : Prop :=
  (∀ w ∈ wsV own idx y.cls y (.code y cc nL ret :: z_ws), w ∈ z_ws) ∧ (y.cls = y.cls ∧ y.cls ≠ "java/lang/invoke/MethodHandle" ∧ y.cls ≠ "java/lang/invoke/VarHandle" ∧ (parseMethodDescriptor y.desc).map (fun d => d.parameters.length) = some n)
theorem z_cv_of {own : String} {idx : Nat} {y : MethodName} {cc : ByteArray} {nL : Nat} {ret : Option FieldType} {n : Nat} (w1 : Cond.methodLink own idx y ∈ z_ws) (w2 : Cond.instanceMethod y ∈ z_ws) (w3 : Cond.selects y.cls y y ∈ z_ws) (w4 : Cond.initialized y.cls ∈ z_ws) (w5 : Cond.code y cc nL ret ∈ z_ws) (hd : y.cls ≠ "java/lang/invoke/MethodHandle" ∧ y.cls ≠ "java/lang/invoke/VarHandle" ∧ (parseMethodDescriptor y.desc).map (fun d => d.parameters.length) = some n) : z_cv own idx y cc nL ret n := by
  refine ⟨fun w hw => ?_, rfl, hd⟩
  rcases List.mem_append.mp hw with h | h
  · rcases List.mem_cons.mp h with rfl | h
    · exact w1
    rcases List.mem_cons.mp h with rfl | h
    · exact w2
    rcases List.mem_cons.mp h with rfl | h
    · exact w3
    rcases List.mem_cons.mp h with rfl | h
    · exact w4
    cases h
  · rcases List.mem_cons.mp h with rfl | h
    · exact w5
    · exact h
theorem z_blind {g : zG} {σ : zS} {sz : Nat} {av : List Value} : FrameBlind (va_Pc av (z_Pre g σ sz)) := fun a U f mk q => ⟨q.1, q.2.1, q.2.2.1, va_K.moved (u := U) (U := U.calling f mk a) (Vm.Alike.refl U.vm) q.2.2.2.1, q.2.2.2.2⟩
theorem z_free {g : zG} {A : Nat → Prop} {H0 H : Heap} {locs : List Loc} {σ : zS} (hD : va_D A (z_w g σ)) (hA : ∀ q, H0.size ≤ q → A q) (hS : va_S A H0 H locs) : ∀ q, va_A (z_w g σ) H.size q → A q := by
  intro q h
  rcases h with ⟨k, e, hk⟩ | h
  · exact hD.2 k _ hk
  · exact hA q (Nat.le_trans hS.1 h)
/-- the run of a call, whatever it answers -/
theorem z_run {p : Program} {l : Launch} {e : Env} {R : Room} {s : State} {m : MethodId} {args : Array Value} {below : List Frame} {meth : Method} {c : Code} {Q : State → Prop} {cells slots : Nat} {A : Nat → Prop} {H0 : Heap} {nL : Nat} {g : zG} (hx : z_ok (p, l, e, R, s, m, args, below, meth, c, Q, cells, slots, A, H0, nL, g) cc own sd) {y : MethodName} {cc' : ByteArray} {nL' n idx : Nat} {ret' : Option FieldType} {rm' : Room} {As : List Value} {k ci : Nat} {CN : String} {T : u_T} {N : Nat} {fs : List Value} {Qk : (Nat → Prop) → Array Value → State → Outcome → State → Prop}
    (hM : z_Met l y cc' nL' ret' rm' g (.ref (z_ad g k) :: As) σ Qk) (hk : k < z_N g) (hm : z_mk g k (σ k) = .inr (ci, fs)) (hc : vwCl[ci]? = some (CN, T, N)) (hCN : CN = y.cls) (hw : z_cv own idx y cc' nL' ret' n) (hR : rm'.frames + 1 ≤ R.frames ∧ 8 + (nL' + 11) + rm'.locals ≤ R.locals) (hrc : rm'.cells = 0 ∧ rm'.slots = 0) (hn : As.length = n)
    {H : Heap} {locs : List Loc} {ls : Array Slot} (hP : va_P g.2.2.2.2.2 vwCl (z_w g σ) H) (hl : ls.size = nL) {stk : List Value} (hst : stk = As.reverse ++ .ref (z_ad g k) :: st) (hsum : (st.map fun v => v.category).sum ≤ 8) (hd : decode cc pc = .ok (.invokevirtual idx, 3)) :
    va_Run p l e R s m args below meth c H locs cells slots 0 0 (F0 m pc ls stk) st (Qk (va_A (z_w g σ) H.size) (Value.ref (z_ad g k) :: As).toArray) (va_A (z_w g σ) H.size) := by
  have he := z_wd_get (mk := z_mk g) (ad := g.2.1) (σ := σ) hk
  rw [hm] at he
  obtain ⟨h1, h2, h3, h4, h5, h6, h7, h8, h9, h10, h11, h12⟩ := hx
  subst hCN
  exact va_runV (As := As) (rest := st) ⟨h1, h2, h3, h4, h5⟩ (hM H.size) (cwV n h5 (fun w h => ⟨hw.1 w h, good_of_word (List.mem_filter.mp (hw.1 w h)).2⟩) rfl hrc.1 hrc.2 ⟨rfl, hw.2.2⟩ hR) ⟨z_blind, va_recv h6 hP hc he, fun U hU hW => ⟨rfl, by rw [hU], by rw [hU]; exact hP, va_K.moved hW.alike h6, (h7 σ).weaken (fun _ _ _ _ => trivial)⟩⟩ rfl hn hl hst (lv_room hsum) hd ⟨h10, h11⟩
theorem z_calli (hx : z_ok C cc own sd) {y : MethodName} {cc' : ByteArray} {nL' n idx : Nat} {ret' : Option FieldType} {rm' : Room} {As : List Value} {k ci : Nat} {CN : String} {T : u_T} {N : Nat} {fs : List Value} {r0 : Int} {σ1 : zS}
    (hM : z_Met (z_l C) y cc' nL' ret' rm' (z_g C) (.ref (z_ad (z_g C) k) :: As) σ (z_QI (z_g C) r0 σ1)) (hk : k < z_N (z_g C)) (hm : z_mk (z_g C) k (σ k) = .inr (ci, fs)) (hc : vwCl[ci]? = some (CN, T, N)) (hCN : CN = y.cls) (hw : z_cv own idx y cc' nL' ret' n) (hR : rm'.frames + 1 ≤ (z_R C).frames ∧ 8 + (nL' + 11) + rm'.locals ≤ (z_R C).locals) (hrc : rm'.cells = 0 ∧ rm'.slots = 0) (hn : As.length = n)
    {stk : List Value} (hst : stk = As.reverse ++ .ref (z_ad (z_g C) k) :: st) (hsum : (st.map fun v => v.category).sum ≤ 8) (hd : decode cc pc = .ok (.invokevirtual idx, 3)) (kk : z_W C σ1 (pc + 3) lv (.int (zi r0) :: st)) : z_W C σ pc lv stk := by
  obtain ⟨p, l, e, R, s, m, args, below, meth, c, Q, cells, slots, A, H0, nL, g⟩ := C
  intro H locs ls hP hS hl
  have hF := z_free (g := g) (σ := σ) (hx.2.2.2.2.2.2.1 σ) hx.2.2.2.2.2.2.2.1 hS
  refine va_calli (z_run hx hM hk hm hc hCN hw hR hrc hn hP hl.1 hst hsum hd) hS (fun q _ h => hF q h) hF (fun r1 u t H1 locs1 ht hvm hw1 hB hz1 hk1 hS1 => ?_)
  obtain ⟨rfl, rfl⟩ := hw1
  obtain ⟨hP1, hK1, hD1⟩ := hB
  rw [ht] at hP1
  exact kk H1 locs1 ls hP1 hS1 hl
theorem z_callv (hx : z_ok C cc own sd) {y : MethodName} {cc' : ByteArray} {nL' n idx : Nat} {ret' : Option FieldType} {rm' : Room} {As : List Value} {k ci : Nat} {CN : String} {T : u_T} {N : Nat} {fs : List Value} {σ1 : zS}
    (hM : z_Met (z_l C) y cc' nL' ret' rm' (z_g C) (.ref (z_ad (z_g C) k) :: As) σ (z_QV (z_g C) σ1)) (hk : k < z_N (z_g C)) (hm : z_mk (z_g C) k (σ k) = .inr (ci, fs)) (hc : vwCl[ci]? = some (CN, T, N)) (hCN : CN = y.cls) (hw : z_cv own idx y cc' nL' ret' n) (hR : rm'.frames + 1 ≤ (z_R C).frames ∧ 8 + (nL' + 11) + rm'.locals ≤ (z_R C).locals) (hrc : rm'.cells = 0 ∧ rm'.slots = 0) (hn : As.length = n)
    {stk : List Value} (hst : stk = As.reverse ++ .ref (z_ad (z_g C) k) :: st) (hsum : (st.map fun v => v.category).sum ≤ 8) (hd : decode cc pc = .ok (.invokevirtual idx, 3)) (kk : z_W C σ1 (pc + 3) lv st) : z_W C σ pc lv stk := by
  obtain ⟨p, l, e, R, s, m, args, below, meth, c, Q, cells, slots, A, H0, nL, g⟩ := C
  intro H locs ls hP hS hl
  have hF := z_free (g := g) (σ := σ) (hx.2.2.2.2.2.2.1 σ) hx.2.2.2.2.2.2.2.1 hS
  refine va_callv (z_run hx hM hk hm hc hCN hw hR hrc hn hP hl.1 hst hsum hd) hS (fun q _ h => hF q h) hF (fun u t H1 locs1 ht hvm hw1 hB hz1 hk1 hS1 => ?_)
  obtain rfl := hw1
  obtain ⟨hP1, hK1, hD1⟩ := hB
  rw [ht] at hP1
  exact kk H1 locs1 ls hP1 hS1 hl
theorem z_calll (hx : z_ok C cc own sd) {y : MethodName} {cc' : ByteArray} {nL' n idx : Nat} {ret' : Option FieldType} {rm' : Room} {As : List Value} {k ci : Nat} {CN : String} {T : u_T} {N : Nat} {fs : List Value} {r0 : Int} {σ1 : zS}
    (hM : z_Met (z_l C) y cc' nL' ret' rm' (z_g C) (.ref (z_ad (z_g C) k) :: As) σ (z_QL (z_g C) r0 σ1)) (hk : k < z_N (z_g C)) (hm : z_mk (z_g C) k (σ k) = .inr (ci, fs)) (hc : vwCl[ci]? = some (CN, T, N)) (hCN : CN = y.cls) (hw : z_cv own idx y cc' nL' ret' n) (hR : rm'.frames + 1 ≤ (z_R C).frames ∧ 8 + (nL' + 11) + rm'.locals ≤ (z_R C).locals) (hrc : rm'.cells = 0 ∧ rm'.slots = 0) (hn : As.length = n)
    {stk : List Value} (hst : stk = As.reverse ++ .ref (z_ad (z_g C) k) :: st) (hsum : (st.map fun v => v.category).sum ≤ 8) (hd : decode cc pc = .ok (.invokevirtual idx, 3)) (kk : z_W C σ1 (pc + 3) lv (.long (zl r0) :: st)) : z_W C σ pc lv stk := by
  obtain ⟨p, l, e, R, s, m, args, below, meth, c, Q, cells, slots, A, H0, nL, g⟩ := C
  intro H locs ls hP hS hl
  have hF := z_free (g := g) (σ := σ) (hx.2.2.2.2.2.2.1 σ) hx.2.2.2.2.2.2.2.1 hS
  refine va_calll (z_run hx hM hk hm hc hCN hw hR hrc hn hP hl.1 hst hsum hd) hS (fun q _ h => hF q h) hF (fun r1 u t H1 locs1 ht hvm hw1 hB hz1 hk1 hS1 => ?_)
  obtain ⟨rfl, rfl⟩ := hw1
  obtain ⟨hP1, hK1, hD1⟩ := hB
  rw [ht] at hP1
  exact kk H1 locs1 ls hP1 hS1 hl
theorem z_callr (hx : z_ok C cc own sd) {y : MethodName} {cc' : ByteArray} {nL' n idx : Nat} {ret' : Option FieldType} {rm' : Room} {As : List Value} {k ci kr : Nat} {CN : String} {T : u_T} {N : Nat} {fs : List Value} {σ1 : zS}
    (hM : z_Met (z_l C) y cc' nL' ret' rm' (z_g C) (.ref (z_ad (z_g C) k) :: As) σ (z_QR (z_g C) kr σ1)) (hk : k < z_N (z_g C)) (hm : z_mk (z_g C) k (σ k) = .inr (ci, fs)) (hc : vwCl[ci]? = some (CN, T, N)) (hCN : CN = y.cls) (hw : z_cv own idx y cc' nL' ret' n) (hR : rm'.frames + 1 ≤ (z_R C).frames ∧ 8 + (nL' + 11) + rm'.locals ≤ (z_R C).locals) (hrc : rm'.cells = 0 ∧ rm'.slots = 0) (hn : As.length = n)
    {stk : List Value} (hst : stk = As.reverse ++ .ref (z_ad (z_g C) k) :: st) (hsum : (st.map fun v => v.category).sum ≤ 8) (hd : decode cc pc = .ok (.invokevirtual idx, 3)) (kk : z_W C σ1 (pc + 3) lv (.ref (z_ad (z_g C) kr) :: st)) : z_W C σ pc lv stk := by
  obtain ⟨p, l, e, R, s, m, args, below, meth, c, Q, cells, slots, A, H0, nL, g⟩ := C
  intro H locs ls hP hS hl
  have hF := z_free (g := g) (σ := σ) (hx.2.2.2.2.2.2.1 σ) hx.2.2.2.2.2.2.2.1 hS
  refine va_callr (z_run hx hM hk hm hc hCN hw hR hrc hn hP hl.1 hst hsum hd) hS (fun q _ h => hF q h) hF (fun u ra t H1 locs1 ht hvm hw1 hB hz1 hk1 hS1 => ?_)
  obtain rfl := hw1
  obtain ⟨rfl, hP1, hK1, hD1⟩ := hB
  rw [ht] at hP1
  exact kk H1 locs1 ls hP1 hS1 hl
end
end
section
/-! STATIC CALLS, MATH, COPIES, SWITCHES, ROWS OF REFERENCES -/
section
variable {C : zC} {cc : ByteArray} {own : String} {sd : Nat} {σ : zS} {pc : Nat} {lv : List (Nat × Value)} {st : List Value} {α : Type} {r : α}
/-- the words of a call of a static method -/
def z_cs (own : String) (idx : Nat) (y : MethodName) (cc : ByteArray) (nL : Nat) (ret : Option FieldType) (n : Nat) : Prop :=
  (∀ w ∈ va_wsS own idx y (.code y cc nL ret :: z_ws), w ∈ z_ws) ∧ (y.cls ≠ "java/lang/invoke/MethodHandle" ∧ y.cls ≠ "java/lang/invoke/VarHandle" ∧ (parseMethodDescriptor y.desc).map (fun d => d.parameters.length) = some n)
theorem z_cs_of {own : String} {idx : Nat} {y : MethodName} {cc : ByteArray} {nL : Nat} {ret : Option FieldType} {n : Nat} (w1 : Cond.methodLink own idx y ∈ z_ws) (w2 : Cond.static y ∈ z_ws) (w4 : Cond.initialized y.cls ∈ z_ws) (w5 : Cond.code y cc nL ret ∈ z_ws) (hd : y.cls ≠ "java/lang/invoke/MethodHandle" ∧ y.cls ≠ "java/lang/invoke/VarHandle" ∧ (parseMethodDescriptor y.desc).map (fun d => d.parameters.length) = some n) : z_cs own idx y cc nL ret n := by
  refine ⟨fun w hw => ?_, hd⟩
  rcases List.mem_append.mp hw with h | h
  · rcases List.mem_cons.mp h with rfl | h
    · exact w1
    rcases List.mem_cons.mp h with rfl | h
    · exact w2
    rcases List.mem_cons.mp h with rfl | h
    · exact w4
    cases h
  · rcases List.mem_cons.mp h with rfl | h
    · exact w5
    · exact h
theorem z_calls (hx : z_ok C cc own sd) {y : MethodName} {cc' : ByteArray} {nL' n idx : Nat} {ret' : Option FieldType} {rm' : Room} {As : List Value} {r0 : Int} {σ1 : zS}
    (hM : z_Met (z_l C) y cc' nL' ret' rm' (z_g C) As σ (z_QI (z_g C) r0 σ1)) (hw : z_cs own idx y cc' nL' ret' n) (hR : rm'.frames + 1 ≤ (z_R C).frames ∧ 8 + (nL' + 11) + rm'.locals ≤ (z_R C).locals) (hrc : rm'.cells = 0 ∧ rm'.slots = 0) (hn : As.length = n)
    {stk : List Value} (hst : stk = As.reverse ++ st) (hsum : (st.map fun v => v.category).sum ≤ 8) (hd : decode cc pc = .ok (.invokestatic idx, 3)) (kk : z_W C σ1 (pc + 3) lv (.int (zi r0) :: st)) : z_W C σ pc lv stk := by
  obtain ⟨p, l, e, R, s, m, args, below, meth, c, Q, cells, slots, A, H0, nL, g⟩ := C
  intro H locs ls hP hS hl
  have hF := z_free (g := g) (σ := σ) (hx.2.2.2.2.2.2.1 σ) hx.2.2.2.2.2.2.2.1 hS
  obtain ⟨h1, h2, h3, h4, h5, h6, h7, h8, h9, h10, h11, h12⟩ := hx
  refine va_calli (va_runS (As := As) (rest := st) ⟨h1, h2, h3, h4, h5⟩ (hM H.size) (va_cwS n h5 (fun w h => ⟨hw.1 w h, good_of_word (List.mem_filter.mp (hw.1 w h)).2⟩) rfl hrc.1 hrc.2 hw.2 hR) ⟨z_blind, fun U hU hW => ⟨rfl, by rw [hU], by rw [hU]; exact hP, va_K.moved hW.alike h6, (h7 σ).weaken (fun _ _ _ _ => trivial)⟩⟩ rfl hn hl.1 hst (lv_room hsum) hd ⟨h10, h11⟩) hS (fun q _ h => hF q h) hF (fun r1 u t H1 locs1 ht hvm hw1 hB hz1 hk1 hS1 => ?_)
  obtain ⟨rfl, rfl⟩ := hw1
  obtain ⟨hP1, hK1, hD1⟩ := hB
  rw [ht] at hP1
  exact kk H1 locs1 ls hP1 hS1 hl
theorem z_max (hx : z_ok C cc own sd) {a b : Int} {A : Option α} {index : Nat} (w1 : Cond.methodLink own index Lib.Math.max.name ∈ z_ws) (w2 : Cond.static Lib.Math.max.name ∈ z_ws) (w3 : Cond.initialized "java/lang/Math" ∈ z_ws) (w4 : Cond.code Lib.Math.max.name Lib.Math.max.code 2 (some .int) ∈ z_ws) (hR : 1 ≤ (z_R C).frames ∧ 21 ≤ (z_R C).locals) (hsum : (st.map fun v => v.category).sum ≤ 8) (hd : decode cc pc = .ok (.invokestatic index, 3)) (h : (if zr a ∧ zr b then A else none) = some r) (kk : A = some r → z_W C σ (pc + 3) lv (.int (zi (if a < b then b else a)) :: st)) : z_W C σ pc lv (.int (zi b) :: .int (zi a) :: st) := by
  obtain ⟨⟨ha, hb⟩, h⟩ := z_gd h
  have kk := kk h
  obtain ⟨p, l, e, R, s, m, args, below, meth, c, Q, cells, slots, A, H0, nL, g⟩ := C
  intro H locs ls hP hS hl
  obtain ⟨h1, h2, h3, h4, h5, h6, h7, h8, h9, h10, h11, h12⟩ := hx
  refine va_mmax h1 h2 (by rw [h3, hl.1]) h4 (h5 _ w1) (h5 _ w2) (h5 _ w3) (h5 _ w4) hR.1 (by have : 21 ≤ R.locals := hR.2; omega) h10 h11 hd ?_
  have e9 : (if zi a < zi b then zi b else zi a) = zi (if a < b then b else a) := by
    by_cases h9 : a < b
    · rw [if_pos h9, if_pos ((zi_lt ha hb).mpr h9)]
    · rw [if_neg h9, if_neg (fun h8 => h9 ((zi_lt ha hb).mp h8))]
  rw [e9]
  exact kk H locs ls hP hS hl
theorem z_min (hx : z_ok C cc own sd) {a b : Int} {A : Option α} {index : Nat} (w1 : Cond.methodLink own index Lib.Math.min.name ∈ z_ws) (w2 : Cond.static Lib.Math.min.name ∈ z_ws) (w3 : Cond.initialized "java/lang/Math" ∈ z_ws) (w4 : Cond.code Lib.Math.min.name Lib.Math.min.code 2 (some .int) ∈ z_ws) (hR : 1 ≤ (z_R C).frames ∧ 21 ≤ (z_R C).locals) (hsum : (st.map fun v => v.category).sum ≤ 8) (hd : decode cc pc = .ok (.invokestatic index, 3)) (h : (if zr a ∧ zr b then A else none) = some r) (kk : A = some r → z_W C σ (pc + 3) lv (.int (zi (if b < a then b else a)) :: st)) : z_W C σ pc lv (.int (zi b) :: .int (zi a) :: st) := by
  obtain ⟨⟨ha, hb⟩, h⟩ := z_gd h
  have kk := kk h
  obtain ⟨p, l, e, R, s, m, args, below, meth, c, Q, cells, slots, A, H0, nL, g⟩ := C
  intro H locs ls hP hS hl
  obtain ⟨h1, h2, h3, h4, h5, h6, h7, h8, h9, h10, h11, h12⟩ := hx
  refine va_mmin h1 h2 (by rw [h3, hl.1]) h4 (h5 _ w1) (h5 _ w2) (h5 _ w3) (h5 _ w4) hR.1 (by have : 21 ≤ R.locals := hR.2; omega) h10 h11 hd ?_
  have e9 : (if zi b < zi a then zi b else zi a) = zi (if b < a then b else a) := by
    by_cases h9 : b < a
    · rw [if_pos h9, if_pos ((zi_lt hb ha).mpr h9)]
    · rw [if_neg h9, if_neg (fun h8 => h9 ((zi_lt hb ha).mp h8))]
  rw [e9]
  exact kk H locs ls hP hS hl
theorem z_abs (hx : z_ok C cc own sd) {a : Int} {A : Option α} {index : Nat} (w1 : Cond.methodLink own index Lib.Math.abs.name ∈ z_ws) (w2 : Cond.static Lib.Math.abs.name ∈ z_ws) (w3 : Cond.initialized "java/lang/Math" ∈ z_ws) (w4 : Cond.code Lib.Math.abs.name Lib.Math.abs.code 1 (some .int) ∈ z_ws) (hR : 1 ≤ (z_R C).frames ∧ 21 ≤ (z_R C).locals) (hsum : (st.map fun v => v.category).sum ≤ 8) (hd : decode cc pc = .ok (.invokestatic index, 3)) (h : (if zr a then A else none) = some r) (kk : A = some r → z_W C σ (pc + 3) lv (.int (zi (if 0 ≤ a then a else 0 - a)) :: st)) : z_W C σ pc lv (.int (zi a) :: st) := by
  obtain ⟨ha, h⟩ := z_gd h
  have kk := kk h
  obtain ⟨p, l, e, R, s, m, args, below, meth, c, Q, cells, slots, A, H0, nL, g⟩ := C
  intro H locs ls hP hS hl
  obtain ⟨h1, h2, h3, h4, h5, h6, h7, h8, h9, h10, h11, h12⟩ := hx
  refine va_mabs h1 h2 (by rw [h3, hl.1]) h4 (h5 _ w1) (h5 _ w2) (h5 _ w3) (h5 _ w4) hR.1 (by have : 21 ≤ R.locals := hR.2; omega) h10 h11 hd ?_
  have e0 : (0 : Int32) ≤ zi a ↔ 0 ≤ a := zi_le zr_0 ha
  have e9 : (if 0 ≤ zi a then zi a else 0 - zi a) = zi (if 0 ≤ a then a else 0 - a) := by
    by_cases h9 : 0 ≤ a
    · rw [if_pos h9, if_pos (e0.mpr h9)]
    · rw [if_neg h9, if_neg (fun h8 => h9 (e0.mp h8))]
      exact zi_sub 0 a
  rw [e9]
  exact kk H locs ls hP hS hl
theorem z_cpy_row (σ : zS) (k1 : Nat) (i1 : Int) (k2 : Nat) (i2 n : Int) : z_cpy σ k1 i1 k2 i2 n k2 = fun b => if i2 ≤ b ∧ b < i2 + n then σ k1 (i1 + (b - i2)) else σ k2 b := by
  funext b; simp [z_cpy]
theorem z_cpy_ne (σ : zS) (k1 : Nat) (i1 : Int) (k2 : Nat) (i2 n : Int) (a : Nat) (h : a ≠ k2) : z_cpy σ k1 i1 k2 i2 n a = σ a := by
  funext b; simp [z_cpy, h]
theorem z_ar_cpy {f g : Int → Int} {a b n : Int} (ha : 0 ≤ a ∧ a < 2147483648) (hb : 0 ≤ b ∧ b < 2147483648) (hn : 0 ≤ n ∧ n < 2147483648) : va_cpy (z_ar f) (z_ar g) (zi a).toNatClampNeg (zi b).toNatClampNeg (zi n).toNatClampNeg = z_ar (fun j => if b ≤ j ∧ j < b + n then f (a + (j - b)) else g j) := by
  funext j
  rw [zi_clamp ha.1 ha.2, zi_clamp hb.1 hb.2, zi_clamp hn.1 hn.2]
  simp only [va_cpy, z_ar]
  by_cases h : b.toNat ≤ j ∧ j < b.toNat + n.toNat
  · rw [if_pos h, if_pos (by omega)]
    exact congrArg (fun z => zi (f z)) (by omega)
  · rw [if_neg h, if_neg (by omega)]
theorem z_copyi (hx : z_ok C cc own sd) {k1 k2 N1 N2 : Nat} {n1 n2 : Int} (hk1 : k1 < z_N (z_g C)) (hk2 : k2 < z_N (z_g C)) (hm1 : z_mk (z_g C) k1 (σ k1) = .inl ((z_g C).2.2.1, N1, .inl (z_ar (σ k1)))) (hm2 : ∀ f, z_mk (z_g C) k2 f = .inl ((z_g C).2.2.1, N2, .inl (z_ar f))) (hN1 : (N1 : Int) = n1) (hN2 : (N2 : Int) = n2) (hb1 : n1 ≤ 2147483647) (hb2 : n2 ≤ 2147483647) {a b n : Int} {K : zS → Option α} {index : Nat} (w1 : Cond.methodLink own index arraycopyName ∈ z_ws) (w2 : Cond.native arraycopyName ∈ z_ws) (w3 : Cond.static arraycopyName ∈ z_ws) (w4 : Cond.initialized "java/lang/System" ∈ z_ws) (hR : 1 ≤ (z_R C).frames ∧ 8 + (nativeFrameWords "java/lang/System" "arraycopy" 5 + 11) ≤ (z_R C).locals) (hsum : (st.map fun v => v.category).sum ≤ 8)
    (hd : decode cc pc = .ok (.invokestatic index, 3)) (h : (if 0 ≤ a ∧ 0 ≤ b ∧ 0 ≤ n ∧ a + n ≤ n1 ∧ b + n ≤ n2 then z_copy σ k1 a k2 b n K else none) = some r) (kk : ∀ σ1, K σ1 = some r → z_W C σ1 (pc + 3) lv st) : z_W C σ pc lv (.int (zi n) :: .int (zi b) :: .ref (z_ad (z_g C) k2) :: .int (zi a) :: .ref (z_ad (z_g C) k1) :: st) := by
  obtain ⟨⟨a0, b0, n0, ha, hb⟩, h⟩ := z_gd h
  have kk := kk _ h
  obtain ⟨p, l, e, R, s, m, args, below, meth, c, Q, cells, slots, A, H0, nL, g⟩ := C
  intro H locs ls hP hS hl
  have he1 := z_wd_get (mk := z_mk g) (ad := g.2.1) (σ := σ) hk1
  have he2 := z_wd_get (mk := z_mk g) (ad := g.2.1) (σ := σ) hk2
  rw [hm1] at he1
  rw [hm2] at he2
  obtain ⟨h1, h2, h3, h4, h5, h6, h7, h8, h9, h10, h11, h12⟩ := hx
  have hra : zr a := ⟨by omega, by omega⟩
  have hrb : zr b := ⟨by omega, by omega⟩
  have hrn : zr n := ⟨by omega, by omega⟩
  refine va_copyi h1 h2 (by rw [h3, hl.1]) h4 (h5 _ w1) (h5 _ w2) (h5 _ w3) (h5 _ w4) h6 hP (h7 σ) hS k1 k2 0 0 (ty := .int) he1 he2 rfl rfl rfl (by rw [zi_neg_iff hra]; omega) (by rw [zi_neg_iff hrb]; omega) (by rw [zi_neg_iff hrn]; omega) (by rw [zi_clamp a0 (by omega), zi_clamp n0 (by omega)]; omega) (by rw [zi_clamp b0 (by omega), zi_clamp n0 (by omega)]; omega) (fun _ _ => rfl) hR.1 (by have h9 : 8 + (nativeFrameWords "java/lang/System" "arraycopy" 5 + 11) ≤ R.locals := hR.2; omega) hd (fun H1 locs1 hP1 hD1 hS1 => ?_)
  refine kk H1 locs1 ls ?_ hS1 hl
  rw [z_ar_cpy ⟨a0, by omega⟩ ⟨b0, by omega⟩ ⟨n0, by omega⟩] at hP1
  have e1 := z_wd_set (mk := z_mk g) (N := z_N g) (ad := g.2.1) (σ := σ) (τ := z_cpy σ k1 a k2 b n) (k := k2) (e := .inl (g.2.2.1, N2, .inl (z_ar (fun j => if b ≤ j ∧ j < b + n then σ k1 (a + (j - b)) else σ k2 j)))) (by rw [z_cpy_row]; exact (hm2 _).symm) (fun a' ha' => z_cpy_ne σ k1 a k2 b n a' ha')
  show va_P g.2.2.2.2.2 vwCl (z_wd (z_mk g) (z_N g) g.2.1 (z_cpy σ k1 a k2 b n)) H1
  rw [← e1]
  exact hP1
theorem z_tswOut (hx : z_ok C cc own sd) {dflt lo hi : Int} {offs : Array Int} {len : Nat} {a : Int} {tgt : Nat} (hd : decode cc pc = .ok (.tableswitch dflt lo hi offs, len)) (hr : zr a) (h : a < lo ∨ hi < a) (ht : (pc : Int) + dflt = (tgt : Int)) (kk : z_W C σ tgt lv st) : z_W C σ pc lv (.int (zi a) :: st) := by
  obtain ⟨p, l, e, R, s, m, args, below, meth, c, Q, cells, slots, A, H0, nL, g⟩ := C
  intro H locs ls hP hS hl
  exact lv_tableOut hx.1 hx.2.1 hd (by rw [zi_int hr]; exact h) ht (kk H locs ls hP hS hl)
theorem z_tswIn (hx : z_ok C cc own sd) {dflt lo hi : Int} {offs : Array Int} {len : Nat} {a : Int} {off : Int} {tgt : Nat} (hd : decode cc pc = .ok (.tableswitch dflt lo hi offs, len)) (hr : zr a) (h1 : ¬ a < lo) (h2 : ¬ hi < a) (ho : offs[(a - lo).toNat]? = some off) (ht : (pc : Int) + off = (tgt : Int)) (kk : z_W C σ tgt lv st) : z_W C σ pc lv (.int (zi a) :: st) := by
  obtain ⟨p, l, e, R, s, m, args, below, meth, c, Q, cells, slots, A, H0, nL, g⟩ := C
  intro H locs ls hP hS hl
  exact lv_tableIn hx.1 hx.2.1 hd (by rw [zi_int hr]; exact h1) (by rw [zi_int hr]; exact h2) (by rw [zi_int hr]; exact ho) ht (kk H locs ls hP hS hl)
theorem z_lookup (hx : z_ok C cc own sd) {dflt : Int} {ps : Array (Int × Int)} {len : Nat} {a : Int} {off : Int} {tgt : Nat} (hd : decode cc pc = .ok (.lookupswitch dflt ps, len)) (hp : (ps.toList.zip (ps.toList.drop 1)).all (fun (a, next) => a.1 < next.1) = true) (hr : zr a) (ho : Op.lookupswitch.offset ps.toList dflt a = off) (ht : (pc : Int) + off = (tgt : Int)) (kk : z_W C σ tgt lv st) : z_W C σ pc lv (.int (zi a) :: st) := by
  obtain ⟨p, l, e, R, s, m, args, below, meth, c, Q, cells, slots, A, H0, nL, g⟩ := C
  intro H locs ls hP hS hl
  exact lv_lookup hx.1 hx.2.1 hd hp (by rw [zi_int hr]; exact ho) ht (kk H locs ls hP hS hl)
end
end
section
/-! the words of the tables that the walks need -/
theorem wf_X2_19 : Cond.fieldLink RX2 19 RX2 "kinds" "[I" ∈ z_ws := z_ws_t 35 (by decide +kernel) (by decide +kernel)
theorem wf_X2_22 : Cond.fieldLink RX2 22 RX2 "firsts" "[I" ∈ z_ws := z_ws_t 38 (by decide +kernel) (by decide +kernel)
theorem wf_X2_25 : Cond.fieldLink RX2 25 RX2 "ends" "[I" ∈ z_ws := z_ws_t 41 (by decide +kernel) (by decide +kernel)
theorem wf_X2_28 : Cond.fieldLink RX2 28 RX2 "doubts" "[I" ∈ z_ws := z_ws_t 44 (by decide +kernel) (by decide +kernel)
theorem wf_X2_31 : Cond.fieldLink RX2 31 RX2 "held" "[Z" ∈ z_ws := z_ws_t 46 (by decide +kernel) (by decide +kernel)
theorem wf_X2_15 : Cond.fieldLink RX2 15 RX2 "frames" "I" ∈ z_ws := z_ws_t 31 (by decide +kernel) (by decide +kernel)
theorem wf_X2_9 : Cond.fieldLink RX2 9 RX2 "levels" "[I" ∈ z_ws := z_ws_t 29 (by decide +kernel) (by decide +kernel)
theorem wm_X2_44 : Cond.methodLink RX2 44 arraycopyName ∈ z_ws := z_ws_t 26 (by decide +kernel) (by decide +kernel)
theorem wna_ac : Cond.native arraycopyName ∈ z_ws := z_ws_t 28 (by decide +kernel) (by decide +kernel)
theorem wst_ac : Cond.static arraycopyName ∈ z_ws := z_ws_t 27 (by decide +kernel) (by decide +kernel)
theorem wi_J10 : Cond.initialized "java/lang/System" ∈ z_ws := z_ws_t 3 (by decide +kernel) (by decide +kernel)
theorem wf_X2_35 : Cond.fieldLink RX2 35 RX2 "marks" "I" ∈ z_ws := z_ws_t 49 (by decide +kernel) (by decide +kernel)
theorem wm_X2_54 : Cond.methodLink RX2 54 yX2_copyMark ∈ z_ws := z_ws_t 264 (by decide +kernel) (by decide +kernel)
theorem wi_X2 : Cond.initialized RX2 ∈ z_ws := z_ws_t 2 (by decide +kernel) (by decide +kernel)
theorem wc_X2_copyMark : Cond.code yX2_copyMark cX2_copyMark 4 none ∈ z_ws := z_ws_t 267 (by decide +kernel) (by decide +kernel)
theorem win_X2_copyMark : Cond.instanceMethod yX2_copyMark ∈ z_ws := z_ws_t 265 (by decide +kernel) (by decide +kernel)
theorem wse_X2_copyMark : Cond.selects RX2 yX2_copyMark yX2_copyMark ∈ z_ws := z_ws_t 266 (by decide +kernel) (by decide +kernel)
theorem cv_X2_54 : z_cv RX2 54 yX2_copyMark cX2_copyMark 4 none 3 := z_cv_of wm_X2_54 win_X2_copyMark wse_X2_copyMark wi_X2 wc_X2_copyMark (by decide +kernel)
theorem wm_X2_50 : Cond.methodLink RX2 50 yX2_copySound ∈ z_ws := z_ws_t 280 (by decide +kernel) (by decide +kernel)
theorem wc_X2_copySound : Cond.code yX2_copySound cX2_copySound 3 none ∈ z_ws := z_ws_t 283 (by decide +kernel) (by decide +kernel)
theorem win_X2_copySound : Cond.instanceMethod yX2_copySound ∈ z_ws := z_ws_t 281 (by decide +kernel) (by decide +kernel)
theorem wse_X2_copySound : Cond.selects RX2 yX2_copySound yX2_copySound ∈ z_ws := z_ws_t 282 (by decide +kernel) (by decide +kernel)
theorem cv_X2_50 : z_cv RX2 50 yX2_copySound cX2_copySound 3 none 1 := z_cv_of wm_X2_50 win_X2_copySound wse_X2_copySound wi_X2 wc_X2_copySound (by decide +kernel)
theorem wf_X2_38 : Cond.fieldLink RX2 38 RX2 "settings" "[I" ∈ z_ws := z_ws_t 54 (by decide +kernel) (by decide +kernel)
theorem wm_X2_58 : Cond.methodLink RX2 58 yX2_hasMark ∈ z_ws := z_ws_t 316 (by decide +kernel) (by decide +kernel)
theorem wc_X2_hasMark : Cond.code yX2_hasMark cX2_hasMark 2 (some .boolean) ∈ z_ws := z_ws_t 311 (by decide +kernel) (by decide +kernel)
theorem win_X2_hasMark : Cond.instanceMethod yX2_hasMark ∈ z_ws := z_ws_t 309 (by decide +kernel) (by decide +kernel)
theorem wse_X2_hasMark : Cond.selects RX2 yX2_hasMark yX2_hasMark ∈ z_ws := z_ws_t 310 (by decide +kernel) (by decide +kernel)
theorem cv_X2_58 : z_cv RX2 58 yX2_hasMark cX2_hasMark 2 (some .boolean) 1 := z_cv_of wm_X2_58 win_X2_hasMark wse_X2_hasMark wi_X2 wc_X2_hasMark (by decide +kernel)
theorem wm_X2_65 : Cond.methodLink RX2 65 yX2_levelAt ∈ z_ws := z_ws_t 366 (by decide +kernel) (by decide +kernel)
theorem wc_X2_levelAt : Cond.code yX2_levelAt cX2_levelAt 2 (some .int) ∈ z_ws := z_ws_t 369 (by decide +kernel) (by decide +kernel)
theorem win_X2_levelAt : Cond.instanceMethod yX2_levelAt ∈ z_ws := z_ws_t 367 (by decide +kernel) (by decide +kernel)
theorem wse_X2_levelAt : Cond.selects RX2 yX2_levelAt yX2_levelAt ∈ z_ws := z_ws_t 368 (by decide +kernel) (by decide +kernel)
theorem cv_X2_65 : z_cv RX2 65 yX2_levelAt cX2_levelAt 2 (some .int) 1 := z_cv_of wm_X2_65 win_X2_levelAt wse_X2_levelAt wi_X2 wc_X2_levelAt (by decide +kernel)
theorem wm_X2_62 : Cond.methodLink RX2 62 yX2_isQuiet ∈ z_ws := z_ws_t 362 (by decide +kernel) (by decide +kernel)
theorem wc_X2_isQuiet : Cond.code yX2_isQuiet cX2_isQuiet 3 (some .boolean) ∈ z_ws := z_ws_t 365 (by decide +kernel) (by decide +kernel)
theorem win_X2_isQuiet : Cond.instanceMethod yX2_isQuiet ∈ z_ws := z_ws_t 363 (by decide +kernel) (by decide +kernel)
theorem wse_X2_isQuiet : Cond.selects RX2 yX2_isQuiet yX2_isQuiet ∈ z_ws := z_ws_t 364 (by decide +kernel) (by decide +kernel)
theorem cv_X2_62 : z_cv RX2 62 yX2_isQuiet cX2_isQuiet 3 (some .boolean) 1 := z_cv_of wm_X2_62 win_X2_isQuiet wse_X2_isQuiet wi_X2 wc_X2_isQuiet (by decide +kernel)
theorem wf_X0_28 : Cond.fieldLink RX0 28 RX0 "count" "I" ∈ z_ws := z_ws_t 140 (by decide +kernel) (by decide +kernel)
theorem wf_X0_15 : Cond.fieldLink RX0 15 RX0 "ends" "[I" ∈ z_ws := z_ws_t 134 (by decide +kernel) (by decide +kernel)
theorem wf_X0_9 : Cond.fieldLink RX0 9 RX0 "begins" "[I" ∈ z_ws := z_ws_t 132 (by decide +kernel) (by decide +kernel)
theorem wf_X0_18 : Cond.fieldLink RX0 18 RX0 "pauses" "[I" ∈ z_ws := z_ws_t 136 (by decide +kernel) (by decide +kernel)
theorem wf_X0_21 : Cond.fieldLink RX0 21 RX0 "rough" "[Z" ∈ z_ws := z_ws_t 138 (by decide +kernel) (by decide +kernel)
theorem wf_X0_25 : Cond.fieldLink RX0 25 RX0 "markNumbers" "[I" ∈ z_ws := z_ws_t 139 (by decide +kernel) (by decide +kernel)
theorem wf_X0_54 : Cond.fieldLink RX0 54 RX2 "ends" "[I" ∈ z_ws := z_ws_t 42 (by decide +kernel) (by decide +kernel)
theorem wm_X0_55 : Cond.methodLink RX0 55 yX0_endOfLastCut ∈ z_ws := z_ws_t 347 (by decide +kernel) (by decide +kernel)
theorem wi_X0 : Cond.initialized RX0 ∈ z_ws := z_ws_t 6 (by decide +kernel) (by decide +kernel)
theorem wc_X0_endOfLastCut : Cond.code yX0_endOfLastCut cX0_endOfLastCut 1 (some .int) ∈ z_ws := z_ws_t 350 (by decide +kernel) (by decide +kernel)
theorem win_X0_endOfLastCut : Cond.instanceMethod yX0_endOfLastCut ∈ z_ws := z_ws_t 348 (by decide +kernel) (by decide +kernel)
theorem wse_X0_endOfLastCut : Cond.selects RX0 yX0_endOfLastCut yX0_endOfLastCut ∈ z_ws := z_ws_t 349 (by decide +kernel) (by decide +kernel)
theorem cv_X0_55 : z_cv RX0 55 yX0_endOfLastCut cX0_endOfLastCut 1 (some .int) 0 := z_cv_of wm_X0_55 win_X0_endOfLastCut wse_X0_endOfLastCut wi_X0 wc_X0_endOfLastCut (by decide +kernel)
theorem wm_X0_59 : Cond.methodLink RX0 59 yX2_endOfMarkBefore ∈ z_ws := z_ws_t 351 (by decide +kernel) (by decide +kernel)
theorem wc_X2_endOfMarkBefore : Cond.code yX2_endOfMarkBefore cX2_endOfMarkBefore 2 (some .int) ∈ z_ws := z_ws_t 354 (by decide +kernel) (by decide +kernel)
theorem win_X2_endOfMarkBefore : Cond.instanceMethod yX2_endOfMarkBefore ∈ z_ws := z_ws_t 352 (by decide +kernel) (by decide +kernel)
theorem wse_X2_endOfMarkBefore : Cond.selects RX2 yX2_endOfMarkBefore yX2_endOfMarkBefore ∈ z_ws := z_ws_t 353 (by decide +kernel) (by decide +kernel)
theorem cv_X0_59 : z_cv RX0 59 yX2_endOfMarkBefore cX2_endOfMarkBefore 2 (some .int) 1 := z_cv_of wm_X0_59 win_X2_endOfMarkBefore wse_X2_endOfMarkBefore wi_X2 wc_X2_endOfMarkBefore (by decide +kernel)
theorem wm_X0_63 : Cond.methodLink RX0 63 Lib.Math.max.name ∈ z_ws := z_ws_t 355 (by decide +kernel) (by decide +kernel)
theorem wst_J9_max : Cond.static Lib.Math.max.name ∈ z_ws := z_ws_t 356 (by decide +kernel) (by decide +kernel)
theorem wi_J9 : Cond.initialized "java/lang/Math" ∈ z_ws := z_ws_t 9 (by decide +kernel) (by decide +kernel)
theorem wc_J9_max : Cond.code Lib.Math.max.name Lib.Math.max.code 2 (some .int) ∈ z_ws := z_ws_t 357 (by decide +kernel) (by decide +kernel)
theorem wf_X0_69 : Cond.fieldLink RX0 69 RX2 "firsts" "[I" ∈ z_ws := z_ws_t 39 (by decide +kernel) (by decide +kernel)
theorem wm_X0_72 : Cond.methodLink RX0 72 yX2_nearestQuietSeam ∈ z_ws := z_ws_t 358 (by decide +kernel) (by decide +kernel)
theorem wc_X2_nearestQuietSeam : Cond.code yX2_nearestQuietSeam cX2_nearestQuietSeam 8 (some .int) ∈ z_ws := z_ws_t 361 (by decide +kernel) (by decide +kernel)
theorem win_X2_nearestQuietSeam : Cond.instanceMethod yX2_nearestQuietSeam ∈ z_ws := z_ws_t 359 (by decide +kernel) (by decide +kernel)
theorem wse_X2_nearestQuietSeam : Cond.selects RX2 yX2_nearestQuietSeam yX2_nearestQuietSeam ∈ z_ws := z_ws_t 360 (by decide +kernel) (by decide +kernel)
theorem cv_X0_72 : z_cv RX0 72 yX2_nearestQuietSeam cX2_nearestQuietSeam 8 (some .int) 4 := z_cv_of wm_X0_72 win_X2_nearestQuietSeam wse_X2_nearestQuietSeam wi_X2 wc_X2_nearestQuietSeam (by decide +kernel)
theorem wm_X0_76 : Cond.methodLink RX0 76 yX2_firstOfMarkAfter ∈ z_ws := z_ws_t 370 (by decide +kernel) (by decide +kernel)
theorem wc_X2_firstOfMarkAfter : Cond.code yX2_firstOfMarkAfter cX2_firstOfMarkAfter 2 (some .int) ∈ z_ws := z_ws_t 373 (by decide +kernel) (by decide +kernel)
theorem win_X2_firstOfMarkAfter : Cond.instanceMethod yX2_firstOfMarkAfter ∈ z_ws := z_ws_t 371 (by decide +kernel) (by decide +kernel)
theorem wse_X2_firstOfMarkAfter : Cond.selects RX2 yX2_firstOfMarkAfter yX2_firstOfMarkAfter ∈ z_ws := z_ws_t 372 (by decide +kernel) (by decide +kernel)
theorem cv_X0_76 : z_cv RX0 76 yX2_firstOfMarkAfter cX2_firstOfMarkAfter 2 (some .int) 1 := z_cv_of wm_X0_76 win_X2_firstOfMarkAfter wse_X2_firstOfMarkAfter wi_X2 wc_X2_firstOfMarkAfter (by decide +kernel)
theorem wf_X0_79 : Cond.fieldLink RX0 79 RX2 "settings" "[I" ∈ z_ws := z_ws_t 55 (by decide +kernel) (by decide +kernel)
theorem wm_X0_82 : Cond.methodLink RX0 82 Lib.Math.min.name ∈ z_ws := z_ws_t 374 (by decide +kernel) (by decide +kernel)
theorem wst_J9_min : Cond.static Lib.Math.min.name ∈ z_ws := z_ws_t 375 (by decide +kernel) (by decide +kernel)
theorem wc_J9_min : Cond.code Lib.Math.min.name Lib.Math.min.code 2 (some .int) ∈ z_ws := z_ws_t 376 (by decide +kernel) (by decide +kernel)
theorem wm_X0_85 : Cond.methodLink RX0 85 yX0_addCut ∈ z_ws := z_ws_t 377 (by decide +kernel) (by decide +kernel)
theorem wc_X0_addCut : Cond.code yX0_addCut cX0_addCut 6 none ∈ z_ws := z_ws_t 380 (by decide +kernel) (by decide +kernel)
theorem win_X0_addCut : Cond.instanceMethod yX0_addCut ∈ z_ws := z_ws_t 378 (by decide +kernel) (by decide +kernel)
theorem wse_X0_addCut : Cond.selects RX0 yX0_addCut yX0_addCut ∈ z_ws := z_ws_t 379 (by decide +kernel) (by decide +kernel)
theorem cv_X0_85 : z_cv RX0 85 yX0_addCut cX0_addCut 6 none 5 := z_cv_of wm_X0_85 win_X0_addCut wse_X0_addCut wi_X0 wc_X0_addCut (by decide +kernel)
theorem wf_X0_32 : Cond.fieldLink RX0 32 RX2 "marks" "I" ∈ z_ws := z_ws_t 50 (by decide +kernel) (by decide +kernel)
theorem wf_X0_37 : Cond.fieldLink RX0 37 RX2 "held" "[Z" ∈ z_ws := z_ws_t 47 (by decide +kernel) (by decide +kernel)
theorem wf_X0_40 : Cond.fieldLink RX0 40 RX2 "kinds" "[I" ∈ z_ws := z_ws_t 36 (by decide +kernel) (by decide +kernel)
theorem wf_X0_43 : Cond.fieldLink RX0 43 RX2 "doubts" "[I" ∈ z_ws := z_ws_t 45 (by decide +kernel) (by decide +kernel)
theorem wm_X0_46 : Cond.methodLink RX0 46 yX0_addFillerCut ∈ z_ws := z_ws_t 343 (by decide +kernel) (by decide +kernel)
theorem wc_X0_addFillerCut : Cond.code yX0_addFillerCut cX0_addFillerCut 13 none ∈ z_ws := z_ws_t 346 (by decide +kernel) (by decide +kernel)
theorem win_X0_addFillerCut : Cond.instanceMethod yX0_addFillerCut ∈ z_ws := z_ws_t 344 (by decide +kernel) (by decide +kernel)
theorem wse_X0_addFillerCut : Cond.selects RX0 yX0_addFillerCut yX0_addFillerCut ∈ z_ws := z_ws_t 345 (by decide +kernel) (by decide +kernel)
theorem cv_X0_46 : z_cv RX0 46 yX0_addFillerCut cX0_addFillerCut 13 none 3 := z_cv_of wm_X0_46 win_X0_addFillerCut wse_X0_addFillerCut wi_X0 wc_X0_addFillerCut (by decide +kernel)
theorem wm_X0_50 : Cond.methodLink RX0 50 yX0_addBreathCut ∈ z_ws := z_ws_t 381 (by decide +kernel) (by decide +kernel)
theorem wc_X0_addBreathCut : Cond.code yX0_addBreathCut cX0_addBreathCut 6 none ∈ z_ws := z_ws_t 384 (by decide +kernel) (by decide +kernel)
theorem win_X0_addBreathCut : Cond.instanceMethod yX0_addBreathCut ∈ z_ws := z_ws_t 382 (by decide +kernel) (by decide +kernel)
theorem wse_X0_addBreathCut : Cond.selects RX0 yX0_addBreathCut yX0_addBreathCut ∈ z_ws := z_ws_t 383 (by decide +kernel) (by decide +kernel)
theorem cv_X0_50 : z_cv RX0 50 yX0_addBreathCut cX0_addBreathCut 6 none 2 := z_cv_of wm_X0_50 win_X0_addBreathCut wse_X0_addBreathCut wi_X0 wc_X0_addBreathCut (by decide +kernel)
theorem wf_X1_11 : Cond.fieldLink RX1 11 RX1 "states" "[LSpeechCleaner$Recording;" ∈ z_ws := z_ws_t 87 (by decide +kernel) (by decide +kernel)
theorem wf_X1_17 : Cond.fieldLink RX1 17 RX1 "count" "I" ∈ z_ws := z_ws_t 88 (by decide +kernel) (by decide +kernel)
theorem wm_X1_22 : Cond.methodLink RX1 22 yX1_dropOldest ∈ z_ws := z_ws_t 272 (by decide +kernel) (by decide +kernel)
theorem wi_X1 : Cond.initialized RX1 ∈ z_ws := z_ws_t 4 (by decide +kernel) (by decide +kernel)
theorem wc_X1_dropOldest : Cond.code yX1_dropOldest cX1_dropOldest 3 none ∈ z_ws := z_ws_t 275 (by decide +kernel) (by decide +kernel)
theorem win_X1_dropOldest : Cond.instanceMethod yX1_dropOldest ∈ z_ws := z_ws_t 273 (by decide +kernel) (by decide +kernel)
theorem wse_X1_dropOldest : Cond.selects RX1 yX1_dropOldest yX1_dropOldest ∈ z_ws := z_ws_t 274 (by decide +kernel) (by decide +kernel)
theorem cv_X1_22 : z_cv RX1 22 yX1_dropOldest cX1_dropOldest 3 none 0 := z_cv_of wm_X1_22 win_X1_dropOldest wse_X1_dropOldest wi_X1 wc_X1_dropOldest (by decide +kernel)
theorem wm_X1_25 : Cond.methodLink RX1 25 yX2_copyAll ∈ z_ws := z_ws_t 276 (by decide +kernel) (by decide +kernel)
theorem wc_X2_copyAll : Cond.code yX2_copyAll cX2_copyAll 2 none ∈ z_ws := z_ws_t 279 (by decide +kernel) (by decide +kernel)
theorem win_X2_copyAll : Cond.instanceMethod yX2_copyAll ∈ z_ws := z_ws_t 277 (by decide +kernel) (by decide +kernel)
theorem wse_X2_copyAll : Cond.selects RX2 yX2_copyAll yX2_copyAll ∈ z_ws := z_ws_t 278 (by decide +kernel) (by decide +kernel)
theorem cv_X1_25 : z_cv RX1 25 yX2_copyAll cX2_copyAll 2 none 1 := z_cv_of wm_X1_25 win_X2_copyAll wse_X2_copyAll wi_X2 wc_X2_copyAll (by decide +kernel)
theorem wf_X3_25 : Cond.fieldLink RX3 25 RX3 "roomFrames" "I" ∈ z_ws := z_ws_t 169 (by decide +kernel) (by decide +kernel)
theorem wf_X3_22 : Cond.fieldLink RX3 22 RX3 "room" "[I" ∈ z_ws := z_ws_t 168 (by decide +kernel) (by decide +kernel)
theorem wf_X3_31 : Cond.fieldLink RX3 31 RX3 "noisy" "[Z" ∈ z_ws := z_ws_t 171 (by decide +kernel) (by decide +kernel)
theorem wf_X3_28 : Cond.fieldLink RX3 28 RX3 "roomPlace" "I" ∈ z_ws := z_ws_t 170 (by decide +kernel) (by decide +kernel)
theorem wf_X3_64 : Cond.fieldLink RX3 64 RX2 "marks" "I" ∈ z_ws := z_ws_t 51 (by decide +kernel) (by decide +kernel)
theorem wf_X3_67 : Cond.fieldLink RX3 67 RX2 "firsts" "[I" ∈ z_ws := z_ws_t 40 (by decide +kernel) (by decide +kernel)
theorem wf_X3_70 : Cond.fieldLink RX3 70 RX2 "ends" "[I" ∈ z_ws := z_ws_t 43 (by decide +kernel) (by decide +kernel)
theorem wf_X3_71 : Cond.fieldLink RX3 71 RX2 "kinds" "[I" ∈ z_ws := z_ws_t 37 (by decide +kernel) (by decide +kernel)
theorem wm_X3_74 : Cond.methodLink RX3 74 yX3_gatherFrame ∈ z_ws := z_ws_t 458 (by decide +kernel) (by decide +kernel)
theorem wi_X3 : Cond.initialized RX3 ∈ z_ws := z_ws_t 7 (by decide +kernel) (by decide +kernel)
theorem wc_X3_gatherFrame : Cond.code yX3_gatherFrame cX3_gatherFrame 3 none ∈ z_ws := z_ws_t 461 (by decide +kernel) (by decide +kernel)
theorem win_X3_gatherFrame : Cond.instanceMethod yX3_gatherFrame ∈ z_ws := z_ws_t 459 (by decide +kernel) (by decide +kernel)
theorem wse_X3_gatherFrame : Cond.selects RX3 yX3_gatherFrame yX3_gatherFrame ∈ z_ws := z_ws_t 460 (by decide +kernel) (by decide +kernel)
theorem cv_X3_74 : z_cv RX3 74 yX3_gatherFrame cX3_gatherFrame 3 none 2 := z_cv_of wm_X3_74 win_X3_gatherFrame wse_X3_gatherFrame wi_X3 wc_X3_gatherFrame (by decide +kernel)
theorem wf_X3_18 : Cond.fieldLink RX3 18 RX3 "count" "I" ∈ z_ws := z_ws_t 166 (by decide +kernel) (by decide +kernel)
theorem wf_X3_9 : Cond.fieldLink RX3 9 RX3 "sources" "[I" ∈ z_ws := z_ws_t 162 (by decide +kernel) (by decide +kernel)
theorem wf_X3_15 : Cond.fieldLink RX3 15 RX3 "levels" "[I" ∈ z_ws := z_ws_t 164 (by decide +kernel) (by decide +kernel)
theorem wm_X3_78 : Cond.methodLink RX3 78 yX2_hasFrame ∈ z_ws := z_ws_t 466 (by decide +kernel) (by decide +kernel)
theorem wc_X2_hasFrame : Cond.code yX2_hasFrame cX2_hasFrame 2 (some .boolean) ∈ z_ws := z_ws_t 400 (by decide +kernel) (by decide +kernel)
theorem win_X2_hasFrame : Cond.instanceMethod yX2_hasFrame ∈ z_ws := z_ws_t 398 (by decide +kernel) (by decide +kernel)
theorem wse_X2_hasFrame : Cond.selects RX2 yX2_hasFrame yX2_hasFrame ∈ z_ws := z_ws_t 399 (by decide +kernel) (by decide +kernel)
theorem cv_X3_78 : z_cv RX3 78 yX2_hasFrame cX2_hasFrame 2 (some .boolean) 1 := z_cv_of wm_X3_78 win_X2_hasFrame wse_X2_hasFrame wi_X2 wc_X2_hasFrame (by decide +kernel)
theorem wm_X3_82 : Cond.methodLink RX3 82 yX2_levelAt ∈ z_ws := z_ws_t 467 (by decide +kernel) (by decide +kernel)
theorem cv_X3_82 : z_cv RX3 82 yX2_levelAt cX2_levelAt 2 (some .int) 1 := z_cv_of wm_X3_82 win_X2_levelAt wse_X2_levelAt wi_X2 wc_X2_levelAt (by decide +kernel)
theorem wm_X3_86 : Cond.methodLink RX3 86 yX3_add ∈ z_ws := z_ws_t 468 (by decide +kernel) (by decide +kernel)
theorem wc_X3_add : Cond.code yX3_add cX3_add 3 none ∈ z_ws := z_ws_t 471 (by decide +kernel) (by decide +kernel)
theorem win_X3_add : Cond.instanceMethod yX3_add ∈ z_ws := z_ws_t 469 (by decide +kernel) (by decide +kernel)
theorem wse_X3_add : Cond.selects RX3 yX3_add yX3_add ∈ z_ws := z_ws_t 470 (by decide +kernel) (by decide +kernel)
theorem cv_X3_86 : z_cv RX3 86 yX3_add cX3_add 3 none 2 := z_cv_of wm_X3_86 win_X3_add wse_X3_add wi_X3 wc_X3_add (by decide +kernel)
theorem wm_X3_89 : Cond.methodLink RX3 89 yX3_nextRoomFrame ∈ z_ws := z_ws_t 476 (by decide +kernel) (by decide +kernel)
theorem wc_X3_nextRoomFrame : Cond.code yX3_nextRoomFrame cX3_nextRoomFrame 2 (some .int) ∈ z_ws := z_ws_t 479 (by decide +kernel) (by decide +kernel)
theorem win_X3_nextRoomFrame : Cond.instanceMethod yX3_nextRoomFrame ∈ z_ws := z_ws_t 477 (by decide +kernel) (by decide +kernel)
theorem wse_X3_nextRoomFrame : Cond.selects RX3 yX3_nextRoomFrame yX3_nextRoomFrame ∈ z_ws := z_ws_t 478 (by decide +kernel) (by decide +kernel)
theorem cv_X3_89 : z_cv RX3 89 yX3_nextRoomFrame cX3_nextRoomFrame 2 (some .int) 0 := z_cv_of wm_X3_89 win_X3_nextRoomFrame wse_X3_nextRoomFrame wi_X3 wc_X3_nextRoomFrame (by decide +kernel)
theorem wm_X3_35 : Cond.methodLink RX3 35 yX3_gatherRoomAndNoise ∈ z_ws := z_ws_t 454 (by decide +kernel) (by decide +kernel)
theorem wc_X3_gatherRoomAndNoise : Cond.code yX3_gatherRoomAndNoise cX3_gatherRoomAndNoise 4 none ∈ z_ws := z_ws_t 457 (by decide +kernel) (by decide +kernel)
theorem win_X3_gatherRoomAndNoise : Cond.instanceMethod yX3_gatherRoomAndNoise ∈ z_ws := z_ws_t 455 (by decide +kernel) (by decide +kernel)
theorem wse_X3_gatherRoomAndNoise : Cond.selects RX3 yX3_gatherRoomAndNoise yX3_gatherRoomAndNoise ∈ z_ws := z_ws_t 456 (by decide +kernel) (by decide +kernel)
theorem cv_X3_35 : z_cv RX3 35 yX3_gatherRoomAndNoise cX3_gatherRoomAndNoise 4 none 1 := z_cv_of wm_X3_35 win_X3_gatherRoomAndNoise wse_X3_gatherRoomAndNoise wi_X3 wc_X3_gatherRoomAndNoise (by decide +kernel)
theorem wf_X3_39 : Cond.fieldLink RX3 39 RX0 "count" "I" ∈ z_ws := z_ws_t 141 (by decide +kernel) (by decide +kernel)
theorem wf_X3_59 : Cond.fieldLink RX3 59 RX2 "frames" "I" ∈ z_ws := z_ws_t 32 (by decide +kernel) (by decide +kernel)
theorem wm_X3_45 : Cond.methodLink RX3 45 yX3_addRecorded ∈ z_ws := z_ws_t 462 (by decide +kernel) (by decide +kernel)
theorem wc_X3_addRecorded : Cond.code yX3_addRecorded cX3_addRecorded 6 none ∈ z_ws := z_ws_t 465 (by decide +kernel) (by decide +kernel)
theorem win_X3_addRecorded : Cond.instanceMethod yX3_addRecorded ∈ z_ws := z_ws_t 463 (by decide +kernel) (by decide +kernel)
theorem wse_X3_addRecorded : Cond.selects RX3 yX3_addRecorded yX3_addRecorded ∈ z_ws := z_ws_t 464 (by decide +kernel) (by decide +kernel)
theorem cv_X3_45 : z_cv RX3 45 yX3_addRecorded cX3_addRecorded 6 none 3 := z_cv_of wm_X3_45 win_X3_addRecorded wse_X3_addRecorded wi_X3 wc_X3_addRecorded (by decide +kernel)
theorem wf_X3_42 : Cond.fieldLink RX3 42 RX0 "begins" "[I" ∈ z_ws := z_ws_t 133 (by decide +kernel) (by decide +kernel)
theorem wf_X3_49 : Cond.fieldLink RX3 49 RX0 "pauses" "[I" ∈ z_ws := z_ws_t 137 (by decide +kernel) (by decide +kernel)
theorem wm_X3_52 : Cond.methodLink RX3 52 yX3_addPause ∈ z_ws := z_ws_t 472 (by decide +kernel) (by decide +kernel)
theorem wc_X3_addPause : Cond.code yX3_addPause cX3_addPause 5 none ∈ z_ws := z_ws_t 475 (by decide +kernel) (by decide +kernel)
theorem win_X3_addPause : Cond.instanceMethod yX3_addPause ∈ z_ws := z_ws_t 473 (by decide +kernel) (by decide +kernel)
theorem wse_X3_addPause : Cond.selects RX3 yX3_addPause yX3_addPause ∈ z_ws := z_ws_t 474 (by decide +kernel) (by decide +kernel)
theorem cv_X3_52 : z_cv RX3 52 yX3_addPause cX3_addPause 5 none 2 := z_cv_of wm_X3_52 win_X3_addPause wse_X3_addPause wi_X3 wc_X3_addPause (by decide +kernel)
theorem wf_X3_56 : Cond.fieldLink RX3 56 RX0 "ends" "[I" ∈ z_ws := z_ws_t 135 (by decide +kernel) (by decide +kernel)
theorem wm_X3_93 : Cond.methodLink RX3 93 Lib.Math.abs.name ∈ z_ws := z_ws_t 500 (by decide +kernel) (by decide +kernel)
theorem wst_J9_abs : Cond.static Lib.Math.abs.name ∈ z_ws := z_ws_t 501 (by decide +kernel) (by decide +kernel)
theorem wc_J9_abs : Cond.code Lib.Math.abs.name Lib.Math.abs.code 1 (some .int) ∈ z_ws := z_ws_t 502 (by decide +kernel) (by decide +kernel)
theorem wm_X3_98 : Cond.methodLink RX3 98 Lib.Math.max.name ∈ z_ws := z_ws_t 523 (by decide +kernel) (by decide +kernel)
theorem wm_X4_48 : Cond.methodLink RX4 48 yX4_isDigit ∈ z_ws := z_ws_t 237 (by decide +kernel) (by decide +kernel)
theorem wi_X4 : Cond.initialized RX4 ∈ z_ws := z_ws_t 5 (by decide +kernel) (by decide +kernel)
theorem wc_X4_isDigit : Cond.code yX4_isDigit cX4_isDigit 1 (some .boolean) ∈ z_ws := z_ws_t 239 (by decide +kernel) (by decide +kernel)
theorem wst_X4_isDigit : Cond.static yX4_isDigit ∈ z_ws := z_ws_t 238 (by decide +kernel) (by decide +kernel)
theorem cv_X4_48 : z_cs RX4 48 yX4_isDigit cX4_isDigit 1 (some .boolean) 1 := z_cs_of wm_X4_48 wst_X4_isDigit wi_X4 wc_X4_isDigit (by decide +kernel)
theorem wf_X4_12 : Cond.fieldLink RX4 12 RX4 "draft" "LSpeechCleaner$Recording;" ∈ z_ws := z_ws_t 103 (by decide +kernel) (by decide +kernel)
theorem wf_X4_55 : Cond.fieldLink RX4 55 RX2 "marks" "I" ∈ z_ws := z_ws_t 52 (by decide +kernel) (by decide +kernel)
theorem wf_X4_21 : Cond.fieldLink RX4 21 RX4 "stage" "I" ∈ z_ws := z_ws_t 105 (by decide +kernel) (by decide +kernel)
theorem wm_X4_51 : Cond.methodLink RX4 51 yX2_addFrame ∈ z_ws := z_ws_t 240 (by decide +kernel) (by decide +kernel)
theorem wc_X2_addFrame : Cond.code yX2_addFrame cX2_addFrame 2 none ∈ z_ws := z_ws_t 243 (by decide +kernel) (by decide +kernel)
theorem win_X2_addFrame : Cond.instanceMethod yX2_addFrame ∈ z_ws := z_ws_t 241 (by decide +kernel) (by decide +kernel)
theorem wse_X2_addFrame : Cond.selects RX2 yX2_addFrame yX2_addFrame ∈ z_ws := z_ws_t 242 (by decide +kernel) (by decide +kernel)
theorem cv_X4_51 : z_cv RX4 51 yX2_addFrame cX2_addFrame 2 none 1 := z_cv_of wm_X4_51 win_X2_addFrame wse_X2_addFrame wi_X2 wc_X2_addFrame (by decide +kernel)
theorem wf_X4_58 : Cond.fieldLink RX4 58 RX4 "doubt" "I" ∈ z_ws := z_ws_t 108 (by decide +kernel) (by decide +kernel)
theorem wf_X4_61 : Cond.fieldLink RX4 61 RX4 "doubtDigits" "I" ∈ z_ws := z_ws_t 109 (by decide +kernel) (by decide +kernel)
theorem wf_X4_64 : Cond.fieldLink RX4 64 RX4 "kind" "I" ∈ z_ws := z_ws_t 106 (by decide +kernel) (by decide +kernel)
theorem wf_X4_67 : Cond.fieldLink RX4 67 RX2 "frames" "I" ∈ z_ws := z_ws_t 34 (by decide +kernel) (by decide +kernel)
theorem wf_X4_70 : Cond.fieldLink RX4 70 RX4 "first" "I" ∈ z_ws := z_ws_t 107 (by decide +kernel) (by decide +kernel)
theorem wm_X4_42 : Cond.methodLink RX4 42 yX4_takesColon ∈ z_ws := z_ws_t 252 (by decide +kernel) (by decide +kernel)
theorem wc_X4_takesColon : Cond.code yX4_takesColon cX4_takesColon 2 (some .boolean) ∈ z_ws := z_ws_t 255 (by decide +kernel) (by decide +kernel)
theorem win_X4_takesColon : Cond.instanceMethod yX4_takesColon ∈ z_ws := z_ws_t 253 (by decide +kernel) (by decide +kernel)
theorem wse_X4_takesColon : Cond.selects RX4 yX4_takesColon yX4_takesColon ∈ z_ws := z_ws_t 254 (by decide +kernel) (by decide +kernel)
theorem cv_X4_42 : z_cv RX4 42 yX4_takesColon cX4_takesColon 2 (some .boolean) 1 := z_cv_of wm_X4_42 win_X4_takesColon wse_X4_takesColon wi_X4 wc_X4_takesColon (by decide +kernel)
theorem wf_X4_25 : Cond.fieldLink RX4 25 RX4 "wrongDoubtPlace" "I" ∈ z_ws := z_ws_t 110 (by decide +kernel) (by decide +kernel)
theorem wm_X4_73 : Cond.methodLink RX4 73 yX2_addMark ∈ z_ws := z_ws_t 260 (by decide +kernel) (by decide +kernel)
theorem wc_X2_addMark : Cond.code yX2_addMark cX2_addMark 6 (some .int) ∈ z_ws := z_ws_t 263 (by decide +kernel) (by decide +kernel)
theorem win_X2_addMark : Cond.instanceMethod yX2_addMark ∈ z_ws := z_ws_t 261 (by decide +kernel) (by decide +kernel)
theorem wse_X2_addMark : Cond.selects RX2 yX2_addMark yX2_addMark ∈ z_ws := z_ws_t 262 (by decide +kernel) (by decide +kernel)
theorem cv_X4_73 : z_cv RX4 73 yX2_addMark cX2_addMark 6 (some .int) 4 := z_cv_of wm_X4_73 win_X2_addMark wse_X2_addMark wi_X2 wc_X2_addMark (by decide +kernel)
theorem wm_X4_45 : Cond.methodLink RX4 45 yX4_takesInside ∈ z_ws := z_ws_t 256 (by decide +kernel) (by decide +kernel)
theorem wc_X4_takesInside : Cond.code yX4_takesInside cX4_takesInside 2 (some .boolean) ∈ z_ws := z_ws_t 259 (by decide +kernel) (by decide +kernel)
theorem win_X4_takesInside : Cond.instanceMethod yX4_takesInside ∈ z_ws := z_ws_t 257 (by decide +kernel) (by decide +kernel)
theorem wse_X4_takesInside : Cond.selects RX4 yX4_takesInside yX4_takesInside ∈ z_ws := z_ws_t 258 (by decide +kernel) (by decide +kernel)
theorem cv_X4_45 : z_cv RX4 45 yX4_takesInside cX4_takesInside 2 (some .boolean) 1 := z_cv_of wm_X4_45 win_X4_takesInside wse_X4_takesInside wi_X4 wc_X4_takesInside (by decide +kernel)
theorem wm_X4_39 : Cond.methodLink RX4 39 yX4_takesDoubt ∈ z_ws := z_ws_t 248 (by decide +kernel) (by decide +kernel)
theorem wc_X4_takesDoubt : Cond.code yX4_takesDoubt cX4_takesDoubt 3 (some .boolean) ∈ z_ws := z_ws_t 251 (by decide +kernel) (by decide +kernel)
theorem win_X4_takesDoubt : Cond.instanceMethod yX4_takesDoubt ∈ z_ws := z_ws_t 249 (by decide +kernel) (by decide +kernel)
theorem wse_X4_takesDoubt : Cond.selects RX4 yX4_takesDoubt yX4_takesDoubt ∈ z_ws := z_ws_t 250 (by decide +kernel) (by decide +kernel)
theorem cv_X4_39 : z_cv RX4 39 yX4_takesDoubt cX4_takesDoubt 3 (some .boolean) 2 := z_cv_of wm_X4_39 win_X4_takesDoubt wse_X4_takesDoubt wi_X4 wc_X4_takesDoubt (by decide +kernel)
theorem wm_X4_36 : Cond.methodLink RX4 36 yX4_takesKind ∈ z_ws := z_ws_t 244 (by decide +kernel) (by decide +kernel)
theorem wc_X4_takesKind : Cond.code yX4_takesKind cX4_takesKind 2 (some .boolean) ∈ z_ws := z_ws_t 247 (by decide +kernel) (by decide +kernel)
theorem win_X4_takesKind : Cond.instanceMethod yX4_takesKind ∈ z_ws := z_ws_t 245 (by decide +kernel) (by decide +kernel)
theorem wse_X4_takesKind : Cond.selects RX4 yX4_takesKind yX4_takesKind ∈ z_ws := z_ws_t 246 (by decide +kernel) (by decide +kernel)
theorem cv_X4_36 : z_cv RX4 36 yX4_takesKind cX4_takesKind 2 (some .boolean) 1 := z_cv_of wm_X4_36 win_X4_takesKind wse_X4_takesKind wi_X4 wc_X4_takesKind (by decide +kernel)
theorem wm_X4_32 : Cond.methodLink RX4 32 yX4_takesOutside ∈ z_ws := z_ws_t 233 (by decide +kernel) (by decide +kernel)
theorem wc_X4_takesOutside : Cond.code yX4_takesOutside cX4_takesOutside 2 (some .boolean) ∈ z_ws := z_ws_t 236 (by decide +kernel) (by decide +kernel)
theorem win_X4_takesOutside : Cond.instanceMethod yX4_takesOutside ∈ z_ws := z_ws_t 234 (by decide +kernel) (by decide +kernel)
theorem wse_X4_takesOutside : Cond.selects RX4 yX4_takesOutside yX4_takesOutside ∈ z_ws := z_ws_t 235 (by decide +kernel) (by decide +kernel)
theorem cv_X4_32 : z_cv RX4 32 yX4_takesOutside cX4_takesOutside 2 (some .boolean) 1 := z_cv_of wm_X4_32 win_X4_takesOutside wse_X4_takesOutside wi_X4 wc_X4_takesOutside (by decide +kernel)
theorem wm_X4_18 : Cond.methodLink RX4 18 yX2_removeSound ∈ z_ws := z_ws_t 225 (by decide +kernel) (by decide +kernel)
theorem wc_X2_removeSound : Cond.code yX2_removeSound cX2_removeSound 1 none ∈ z_ws := z_ws_t 228 (by decide +kernel) (by decide +kernel)
theorem win_X2_removeSound : Cond.instanceMethod yX2_removeSound ∈ z_ws := z_ws_t 226 (by decide +kernel) (by decide +kernel)
theorem wse_X2_removeSound : Cond.selects RX2 yX2_removeSound yX2_removeSound ∈ z_ws := z_ws_t 227 (by decide +kernel) (by decide +kernel)
theorem cv_X4_18 : z_cv RX4 18 yX2_removeSound cX2_removeSound 1 none 0 := z_cv_of wm_X4_18 win_X2_removeSound wse_X2_removeSound wi_X2 wc_X2_removeSound (by decide +kernel)
theorem wm_X4_28 : Cond.methodLink RX4 28 yX4_takes ∈ z_ws := z_ws_t 229 (by decide +kernel) (by decide +kernel)
theorem wc_X4_takes : Cond.code yX4_takes cX4_takes 3 (some .boolean) ∈ z_ws := z_ws_t 232 (by decide +kernel) (by decide +kernel)
theorem win_X4_takes : Cond.instanceMethod yX4_takes ∈ z_ws := z_ws_t 230 (by decide +kernel) (by decide +kernel)
theorem wse_X4_takes : Cond.selects RX4 yX4_takes yX4_takes ∈ z_ws := z_ws_t 231 (by decide +kernel) (by decide +kernel)
theorem cv_X4_28 : z_cv RX4 28 yX4_takes cX4_takes 3 (some .boolean) 2 := z_cv_of wm_X4_28 win_X4_takes wse_X4_takes wi_X4 wc_X4_takes (by decide +kernel)
theorem wf_X5_13 : Cond.fieldLink RX5 13 RX5 "characters" "I" ∈ z_ws := z_ws_t 188 (by decide +kernel) (by decide +kernel)
theorem wf_X5_9 : Cond.fieldLink RX5 9 RX5 "buffer" "[I" ∈ z_ws := z_ws_t 187 (by decide +kernel) (by decide +kernel)
theorem wf_X5_34 : Cond.fieldLink RX5 34 RX5 "reader" "LSpeechCleaner$TextReader;" ∈ z_ws := z_ws_t 191 (by decide +kernel) (by decide +kernel)
theorem wm_X5_52 : Cond.methodLink RX5 52 yX4_parse ∈ z_ws := z_ws_t 221 (by decide +kernel) (by decide +kernel)
theorem wc_X4_parse : Cond.code yX4_parse cX4_parse 4 (some .int) ∈ z_ws := z_ws_t 224 (by decide +kernel) (by decide +kernel)
theorem win_X4_parse : Cond.instanceMethod yX4_parse ∈ z_ws := z_ws_t 222 (by decide +kernel) (by decide +kernel)
theorem wse_X4_parse : Cond.selects RX4 yX4_parse yX4_parse ∈ z_ws := z_ws_t 223 (by decide +kernel) (by decide +kernel)
theorem cv_X5_52 : z_cv RX5 52 yX4_parse cX4_parse 4 (some .int) 2 := z_cv_of wm_X5_52 win_X4_parse wse_X4_parse wi_X4 wc_X4_parse (by decide +kernel)
theorem wf_X5_27 : Cond.fieldLink RX5 27 RX5 "history" "LSpeechCleaner$History;" ∈ z_ws := z_ws_t 190 (by decide +kernel) (by decide +kernel)
theorem wf_X5_20 : Cond.fieldLink RX5 20 RX5 "recording" "LSpeechCleaner$Recording;" ∈ z_ws := z_ws_t 189 (by decide +kernel) (by decide +kernel)
theorem wm_X5_56 : Cond.methodLink RX5 56 yX1_keep ∈ z_ws := z_ws_t 268 (by decide +kernel) (by decide +kernel)
theorem wc_X1_keep : Cond.code yX1_keep cX1_keep 2 none ∈ z_ws := z_ws_t 271 (by decide +kernel) (by decide +kernel)
theorem win_X1_keep : Cond.instanceMethod yX1_keep ∈ z_ws := z_ws_t 269 (by decide +kernel) (by decide +kernel)
theorem wse_X1_keep : Cond.selects RX1 yX1_keep yX1_keep ∈ z_ws := z_ws_t 270 (by decide +kernel) (by decide +kernel)
theorem cv_X5_56 : z_cv RX5 56 yX1_keep cX1_keep 2 none 1 := z_cv_of wm_X5_56 win_X1_keep wse_X1_keep wi_X1 wc_X1_keep (by decide +kernel)
theorem wf_X5_60 : Cond.fieldLink RX5 60 RX4 "draft" "LSpeechCleaner$Recording;" ∈ z_ws := z_ws_t 104 (by decide +kernel) (by decide +kernel)
theorem wm_X5_63 : Cond.methodLink RX5 63 yX2_copySound ∈ z_ws := z_ws_t 284 (by decide +kernel) (by decide +kernel)
theorem cv_X5_63 : z_cv RX5 63 yX2_copySound cX2_copySound 3 none 1 := z_cv_of wm_X5_63 win_X2_copySound wse_X2_copySound wi_X2 wc_X2_copySound (by decide +kernel)
theorem wf_X5_66 : Cond.fieldLink RX5 66 RX2 "frames" "I" ∈ z_ws := z_ws_t 33 (by decide +kernel) (by decide +kernel)
theorem wm_X5_69 : Cond.methodLink RX5 69 yX2_addFrame ∈ z_ws := z_ws_t 289 (by decide +kernel) (by decide +kernel)
theorem cv_X5_69 : z_cv RX5 69 yX2_addFrame cX2_addFrame 2 none 1 := z_cv_of wm_X5_69 win_X2_addFrame wse_X2_addFrame wi_X2 wc_X2_addFrame (by decide +kernel)
theorem wk_X5_73 : Cond.constant RX5 73 (zi 1103515245) ∈ z_ws := z_ws_t 294 (by decide +kernel) (by decide +kernel)
theorem wm_X5_74 : Cond.methodLink RX5 74 yX2_overlaps ∈ z_ws := z_ws_t 299 (by decide +kernel) (by decide +kernel)
theorem wc_X2_overlaps : Cond.code yX2_overlaps cX2_overlaps 4 (some .boolean) ∈ z_ws := z_ws_t 302 (by decide +kernel) (by decide +kernel)
theorem win_X2_overlaps : Cond.instanceMethod yX2_overlaps ∈ z_ws := z_ws_t 300 (by decide +kernel) (by decide +kernel)
theorem wse_X2_overlaps : Cond.selects RX2 yX2_overlaps yX2_overlaps ∈ z_ws := z_ws_t 301 (by decide +kernel) (by decide +kernel)
theorem cv_X5_74 : z_cv RX5 74 yX2_overlaps cX2_overlaps 4 (some .boolean) 2 := z_cv_of wm_X5_74 win_X2_overlaps wse_X2_overlaps wi_X2 wc_X2_overlaps (by decide +kernel)
theorem wf_X5_78 : Cond.fieldLink RX5 78 RX2 "marks" "I" ∈ z_ws := z_ws_t 53 (by decide +kernel) (by decide +kernel)
theorem wm_X5_81 : Cond.methodLink RX5 81 yX2_addMark ∈ z_ws := z_ws_t 303 (by decide +kernel) (by decide +kernel)
theorem cv_X5_81 : z_cv RX5 81 yX2_addMark cX2_addMark 6 (some .int) 4 := z_cv_of wm_X5_81 win_X2_addMark wse_X2_addMark wi_X2 wc_X2_addMark (by decide +kernel)
theorem wm_X5_85 : Cond.methodLink RX5 85 yX2_hasMark ∈ z_ws := z_ws_t 308 (by decide +kernel) (by decide +kernel)
theorem cv_X5_85 : z_cv RX5 85 yX2_hasMark cX2_hasMark 2 (some .boolean) 1 := z_cv_of wm_X5_85 win_X2_hasMark wse_X2_hasMark wi_X2 wc_X2_hasMark (by decide +kernel)
theorem wm_X5_89 : Cond.methodLink RX5 89 yX2_removeMark ∈ z_ws := z_ws_t 312 (by decide +kernel) (by decide +kernel)
theorem wc_X2_removeMark : Cond.code yX2_removeMark cX2_removeMark 3 none ∈ z_ws := z_ws_t 315 (by decide +kernel) (by decide +kernel)
theorem win_X2_removeMark : Cond.instanceMethod yX2_removeMark ∈ z_ws := z_ws_t 313 (by decide +kernel) (by decide +kernel)
theorem wse_X2_removeMark : Cond.selects RX2 yX2_removeMark yX2_removeMark ∈ z_ws := z_ws_t 314 (by decide +kernel) (by decide +kernel)
theorem cv_X5_89 : z_cv RX5 89 yX2_removeMark cX2_removeMark 3 none 1 := z_cv_of wm_X5_89 win_X2_removeMark wse_X2_removeMark wi_X2 wc_X2_removeMark (by decide +kernel)
theorem wf_X5_92 : Cond.fieldLink RX5 92 RX2 "held" "[Z" ∈ z_ws := z_ws_t 48 (by decide +kernel) (by decide +kernel)
theorem wf_X5_99 : Cond.fieldLink RX5 99 RX2 "settings" "[I" ∈ z_ws := z_ws_t 56 (by decide +kernel) (by decide +kernel)
theorem wf_X5_41 : Cond.fieldLink RX5 41 RX5 "cutList" "LSpeechCleaner$CutList;" ∈ z_ws := z_ws_t 192 (by decide +kernel) (by decide +kernel)
theorem wm_X5_136 : Cond.methodLink RX5 136 yX0_find ∈ z_ws := z_ws_t 339 (by decide +kernel) (by decide +kernel)
theorem wc_X0_find : Cond.code yX0_find cX0_find 5 none ∈ z_ws := z_ws_t 342 (by decide +kernel) (by decide +kernel)
theorem win_X0_find : Cond.instanceMethod yX0_find ∈ z_ws := z_ws_t 340 (by decide +kernel) (by decide +kernel)
theorem wse_X0_find : Cond.selects RX0 yX0_find yX0_find ∈ z_ws := z_ws_t 341 (by decide +kernel) (by decide +kernel)
theorem cv_X5_136 : z_cv RX5 136 yX0_find cX0_find 5 none 3 := z_cv_of wm_X5_136 win_X0_find wse_X0_find wi_X0 wc_X0_find (by decide +kernel)
theorem wm_X5_110 : Cond.methodLink RX5 110 yX2_numberOfMark ∈ z_ws := z_ws_t 389 (by decide +kernel) (by decide +kernel)
theorem wc_X2_numberOfMark : Cond.code yX2_numberOfMark cX2_numberOfMark 3 (some .int) ∈ z_ws := z_ws_t 392 (by decide +kernel) (by decide +kernel)
theorem win_X2_numberOfMark : Cond.instanceMethod yX2_numberOfMark ∈ z_ws := z_ws_t 390 (by decide +kernel) (by decide +kernel)
theorem wse_X2_numberOfMark : Cond.selects RX2 yX2_numberOfMark yX2_numberOfMark ∈ z_ws := z_ws_t 391 (by decide +kernel) (by decide +kernel)
theorem cv_X5_110 : z_cv RX5 110 yX2_numberOfMark cX2_numberOfMark 3 (some .int) 2 := z_cv_of wm_X5_110 win_X2_numberOfMark wse_X2_numberOfMark wi_X2 wc_X2_numberOfMark (by decide +kernel)
theorem wm_X5_102 : Cond.methodLink RX5 102 yX5_currentCuts ∈ z_ws := z_ws_t 335 (by decide +kernel) (by decide +kernel)
theorem wi_X5 : Cond.initialized RX5 ∈ z_ws := z_ws_t 1 (by decide +kernel) (by decide +kernel)
theorem wc_X5_currentCuts : Cond.code yX5_currentCuts cX5_currentCuts 1 (some (.object "SpeechCleaner$CutList")) ∈ z_ws := z_ws_t 338 (by decide +kernel) (by decide +kernel)
theorem win_X5_currentCuts : Cond.instanceMethod yX5_currentCuts ∈ z_ws := z_ws_t 337 (by decide +kernel) (by decide +kernel)
theorem wse_X5_currentCuts : Cond.selects RX5 yX5_currentCuts yX5_currentCuts ∈ z_ws := z_ws_p 0 (by decide +kernel) (by decide +kernel)
theorem cv_X5_102 : z_cv RX5 102 yX5_currentCuts cX5_currentCuts 1 (some (.object "SpeechCleaner$CutList")) 0 := z_cv_of wm_X5_102 win_X5_currentCuts wse_X5_currentCuts wi_X5 wc_X5_currentCuts (by decide +kernel)
theorem wm_X5_106 : Cond.methodLink RX5 106 yX0_cutOfMark ∈ z_ws := z_ws_t 385 (by decide +kernel) (by decide +kernel)
theorem wc_X0_cutOfMark : Cond.code yX0_cutOfMark cX0_cutOfMark 3 (some .int) ∈ z_ws := z_ws_t 388 (by decide +kernel) (by decide +kernel)
theorem win_X0_cutOfMark : Cond.instanceMethod yX0_cutOfMark ∈ z_ws := z_ws_t 386 (by decide +kernel) (by decide +kernel)
theorem wse_X0_cutOfMark : Cond.selects RX0 yX0_cutOfMark yX0_cutOfMark ∈ z_ws := z_ws_t 387 (by decide +kernel) (by decide +kernel)
theorem cv_X5_106 : z_cv RX5 106 yX0_cutOfMark cX0_cutOfMark 3 (some .int) 1 := z_cv_of wm_X5_106 win_X0_cutOfMark wse_X0_cutOfMark wi_X0 wc_X0_cutOfMark (by decide +kernel)
theorem wm_X5_114 : Cond.methodLink RX5 114 yX2_hasFrame ∈ z_ws := z_ws_t 397 (by decide +kernel) (by decide +kernel)
theorem cv_X5_114 : z_cv RX5 114 yX2_hasFrame cX2_hasFrame 2 (some .boolean) 1 := z_cv_of wm_X5_114 win_X2_hasFrame wse_X2_hasFrame wi_X2 wc_X2_hasFrame (by decide +kernel)
theorem wm_X5_117 : Cond.methodLink RX5 117 yX2_levelAt ∈ z_ws := z_ws_t 401 (by decide +kernel) (by decide +kernel)
theorem cv_X5_117 : z_cv RX5 117 yX2_levelAt cX2_levelAt 2 (some .int) 1 := z_cv_of wm_X5_117 win_X2_levelAt wse_X2_levelAt wi_X2 wc_X2_levelAt (by decide +kernel)
theorem wf_X5_120 : Cond.fieldLink RX5 120 RX0 "count" "I" ∈ z_ws := z_ws_t 142 (by decide +kernel) (by decide +kernel)
theorem wm_X5_123 : Cond.methodLink RX5 123 yX0_numberOfCut ∈ z_ws := z_ws_t 410 (by decide +kernel) (by decide +kernel)
theorem wc_X0_numberOfCut : Cond.code yX0_numberOfCut cX0_numberOfCut 3 (some .int) ∈ z_ws := z_ws_t 413 (by decide +kernel) (by decide +kernel)
theorem win_X0_numberOfCut : Cond.instanceMethod yX0_numberOfCut ∈ z_ws := z_ws_t 411 (by decide +kernel) (by decide +kernel)
theorem wse_X0_numberOfCut : Cond.selects RX0 yX0_numberOfCut yX0_numberOfCut ∈ z_ws := z_ws_t 412 (by decide +kernel) (by decide +kernel)
theorem cv_X5_123 : z_cv RX5 123 yX0_numberOfCut cX0_numberOfCut 3 (some .int) 2 := z_cv_of wm_X5_123 win_X0_numberOfCut wse_X0_numberOfCut wi_X0 wc_X0_numberOfCut (by decide +kernel)
theorem wm_X5_133 : Cond.methodLink RX5 133 yX0_roughCuts ∈ z_ws := z_ws_t 426 (by decide +kernel) (by decide +kernel)
theorem wc_X0_roughCuts : Cond.code yX0_roughCuts cX0_roughCuts 3 (some .int) ∈ z_ws := z_ws_t 429 (by decide +kernel) (by decide +kernel)
theorem win_X0_roughCuts : Cond.instanceMethod yX0_roughCuts ∈ z_ws := z_ws_t 427 (by decide +kernel) (by decide +kernel)
theorem wse_X0_roughCuts : Cond.selects RX0 yX0_roughCuts yX0_roughCuts ∈ z_ws := z_ws_t 428 (by decide +kernel) (by decide +kernel)
theorem cv_X5_133 : z_cv RX5 133 yX0_roughCuts cX0_roughCuts 3 (some .int) 0 := z_cv_of wm_X5_133 win_X0_roughCuts wse_X0_roughCuts wi_X0 wc_X0_roughCuts (by decide +kernel)
theorem wm_X5_130 : Cond.methodLink RX5 130 yX0_pauseFrames ∈ z_ws := z_ws_t 422 (by decide +kernel) (by decide +kernel)
theorem wc_X0_pauseFrames : Cond.code yX0_pauseFrames cX0_pauseFrames 3 (some .int) ∈ z_ws := z_ws_t 425 (by decide +kernel) (by decide +kernel)
theorem win_X0_pauseFrames : Cond.instanceMethod yX0_pauseFrames ∈ z_ws := z_ws_t 423 (by decide +kernel) (by decide +kernel)
theorem wse_X0_pauseFrames : Cond.selects RX0 yX0_pauseFrames yX0_pauseFrames ∈ z_ws := z_ws_t 424 (by decide +kernel) (by decide +kernel)
theorem cv_X5_130 : z_cv RX5 130 yX0_pauseFrames cX0_pauseFrames 3 (some .int) 0 := z_cv_of wm_X5_130 win_X0_pauseFrames wse_X0_pauseFrames wi_X0 wc_X0_pauseFrames (by decide +kernel)
theorem wm_X5_126 : Cond.methodLink RX5 126 yX0_cutFrames ∈ z_ws := z_ws_t 418 (by decide +kernel) (by decide +kernel)
theorem wc_X0_cutFrames : Cond.code yX0_cutFrames cX0_cutFrames 3 (some .int) ∈ z_ws := z_ws_t 421 (by decide +kernel) (by decide +kernel)
theorem win_X0_cutFrames : Cond.instanceMethod yX0_cutFrames ∈ z_ws := z_ws_t 419 (by decide +kernel) (by decide +kernel)
theorem wse_X0_cutFrames : Cond.selects RX0 yX0_cutFrames yX0_cutFrames ∈ z_ws := z_ws_t 420 (by decide +kernel) (by decide +kernel)
theorem cv_X5_126 : z_cv RX5 126 yX0_cutFrames cX0_cutFrames 3 (some .int) 0 := z_cv_of wm_X5_126 win_X0_cutFrames wse_X0_cutFrames wi_X0 wc_X0_cutFrames (by decide +kernel)
theorem wm_X5_140 : Cond.methodLink RX5 140 yX2_hasFillerOfDoubt ∈ z_ws := z_ws_t 438 (by decide +kernel) (by decide +kernel)
theorem wc_X2_hasFillerOfDoubt : Cond.code yX2_hasFillerOfDoubt cX2_hasFillerOfDoubt 3 (some .boolean) ∈ z_ws := z_ws_t 441 (by decide +kernel) (by decide +kernel)
theorem win_X2_hasFillerOfDoubt : Cond.instanceMethod yX2_hasFillerOfDoubt ∈ z_ws := z_ws_t 439 (by decide +kernel) (by decide +kernel)
theorem wse_X2_hasFillerOfDoubt : Cond.selects RX2 yX2_hasFillerOfDoubt yX2_hasFillerOfDoubt ∈ z_ws := z_ws_t 440 (by decide +kernel) (by decide +kernel)
theorem cv_X5_140 : z_cv RX5 140 yX2_hasFillerOfDoubt cX2_hasFillerOfDoubt 3 (some .boolean) 1 := z_cv_of wm_X5_140 win_X2_hasFillerOfDoubt wse_X2_hasFillerOfDoubt wi_X2 wc_X2_hasFillerOfDoubt (by decide +kernel)
theorem wf_X5_48 : Cond.fieldLink RX5 48 RX5 "result" "LSpeechCleaner$Result;" ∈ z_ws := z_ws_t 193 (by decide +kernel) (by decide +kernel)
theorem wm_X5_189 : Cond.methodLink RX5 189 yX3_build ∈ z_ws := z_ws_t 450 (by decide +kernel) (by decide +kernel)
theorem wc_X3_build : Cond.code yX3_build cX3_build 5 none ∈ z_ws := z_ws_t 453 (by decide +kernel) (by decide +kernel)
theorem win_X3_build : Cond.instanceMethod yX3_build ∈ z_ws := z_ws_t 451 (by decide +kernel) (by decide +kernel)
theorem wse_X3_build : Cond.selects RX3 yX3_build yX3_build ∈ z_ws := z_ws_t 452 (by decide +kernel) (by decide +kernel)
theorem cv_X5_189 : z_cv RX5 189 yX3_build cX3_build 5 none 2 := z_cv_of wm_X5_189 win_X3_build wse_X3_build wi_X3 wc_X3_build (by decide +kernel)
theorem wm_X5_143 : Cond.methodLink RX5 143 yX5_currentResult ∈ z_ws := z_ws_t 446 (by decide +kernel) (by decide +kernel)
theorem wc_X5_currentResult : Cond.code yX5_currentResult cX5_currentResult 1 (some (.object "SpeechCleaner$Result")) ∈ z_ws := z_ws_t 449 (by decide +kernel) (by decide +kernel)
theorem win_X5_currentResult : Cond.instanceMethod yX5_currentResult ∈ z_ws := z_ws_t 448 (by decide +kernel) (by decide +kernel)
theorem wse_X5_currentResult : Cond.selects RX5 yX5_currentResult yX5_currentResult ∈ z_ws := z_ws_p 1 (by decide +kernel) (by decide +kernel)
theorem cv_X5_143 : z_cv RX5 143 yX5_currentResult cX5_currentResult 1 (some (.object "SpeechCleaner$Result")) 0 := z_cv_of wm_X5_143 win_X5_currentResult wse_X5_currentResult wi_X5 wc_X5_currentResult (by decide +kernel)
theorem wf_X5_147 : Cond.fieldLink RX5 147 RX3 "count" "I" ∈ z_ws := z_ws_t 167 (by decide +kernel) (by decide +kernel)
theorem wf_X5_151 : Cond.fieldLink RX5 151 RX3 "levels" "[I" ∈ z_ws := z_ws_t 165 (by decide +kernel) (by decide +kernel)
theorem wf_X5_148 : Cond.fieldLink RX5 148 RX3 "sources" "[I" ∈ z_ws := z_ws_t 163 (by decide +kernel) (by decide +kernel)
theorem wm_X5_154 : Cond.methodLink RX5 154 yX3_placeOfSource ∈ z_ws := z_ws_t 488 (by decide +kernel) (by decide +kernel)
theorem wc_X3_placeOfSource : Cond.code yX3_placeOfSource cX3_placeOfSource 3 (some .int) ∈ z_ws := z_ws_t 491 (by decide +kernel) (by decide +kernel)
theorem win_X3_placeOfSource : Cond.instanceMethod yX3_placeOfSource ∈ z_ws := z_ws_t 489 (by decide +kernel) (by decide +kernel)
theorem wse_X3_placeOfSource : Cond.selects RX3 yX3_placeOfSource yX3_placeOfSource ∈ z_ws := z_ws_t 490 (by decide +kernel) (by decide +kernel)
theorem cv_X5_154 : z_cv RX5 154 yX3_placeOfSource cX3_placeOfSource 3 (some .int) 1 := z_cv_of wm_X5_154 win_X3_placeOfSource wse_X3_placeOfSource wi_X3 wc_X3_placeOfSource (by decide +kernel)
theorem wm_X5_157 : Cond.methodLink RX5 157 yX3_stepsGreaterThan ∈ z_ws := z_ws_t 496 (by decide +kernel) (by decide +kernel)
theorem wc_X3_stepsGreaterThan : Cond.code yX3_stepsGreaterThan cX3_stepsGreaterThan 4 (some .int) ∈ z_ws := z_ws_t 499 (by decide +kernel) (by decide +kernel)
theorem win_X3_stepsGreaterThan : Cond.instanceMethod yX3_stepsGreaterThan ∈ z_ws := z_ws_t 497 (by decide +kernel) (by decide +kernel)
theorem wse_X3_stepsGreaterThan : Cond.selects RX3 yX3_stepsGreaterThan yX3_stepsGreaterThan ∈ z_ws := z_ws_t 498 (by decide +kernel) (by decide +kernel)
theorem cv_X5_157 : z_cv RX5 157 yX3_stepsGreaterThan cX3_stepsGreaterThan 4 (some .int) 1 := z_cv_of wm_X5_157 win_X3_stepsGreaterThan wse_X3_stepsGreaterThan wi_X3 wc_X3_stepsGreaterThan (by decide +kernel)
theorem wm_X5_163 : Cond.methodLink RX5 163 yX3_longestStretchUpTo ∈ z_ws := z_ws_t 519 (by decide +kernel) (by decide +kernel)
theorem wc_X3_longestStretchUpTo : Cond.code yX3_longestStretchUpTo cX3_longestStretchUpTo 5 (some .int) ∈ z_ws := z_ws_t 522 (by decide +kernel) (by decide +kernel)
theorem win_X3_longestStretchUpTo : Cond.instanceMethod yX3_longestStretchUpTo ∈ z_ws := z_ws_t 520 (by decide +kernel) (by decide +kernel)
theorem wse_X3_longestStretchUpTo : Cond.selects RX3 yX3_longestStretchUpTo yX3_longestStretchUpTo ∈ z_ws := z_ws_t 521 (by decide +kernel) (by decide +kernel)
theorem cv_X5_163 : z_cv RX5 163 yX3_longestStretchUpTo cX3_longestStretchUpTo 5 (some .int) 1 := z_cv_of wm_X5_163 win_X3_longestStretchUpTo wse_X3_longestStretchUpTo wi_X3 wc_X3_longestStretchUpTo (by decide +kernel)
theorem wf_X5_166 : Cond.fieldLink RX5 166 RX1 "count" "I" ∈ z_ws := z_ws_t 89 (by decide +kernel) (by decide +kernel)
theorem wm_X5_167 : Cond.methodLink RX5 167 yX1_restoreLatest ∈ z_ws := z_ws_t 528 (by decide +kernel) (by decide +kernel)
theorem wc_X1_restoreLatest : Cond.code yX1_restoreLatest cX1_restoreLatest 2 none ∈ z_ws := z_ws_t 531 (by decide +kernel) (by decide +kernel)
theorem win_X1_restoreLatest : Cond.instanceMethod yX1_restoreLatest ∈ z_ws := z_ws_t 529 (by decide +kernel) (by decide +kernel)
theorem wse_X1_restoreLatest : Cond.selects RX1 yX1_restoreLatest yX1_restoreLatest ∈ z_ws := z_ws_t 530 (by decide +kernel) (by decide +kernel)
theorem cv_X5_167 : z_cv RX5 167 yX1_restoreLatest cX1_restoreLatest 2 none 1 := z_cv_of wm_X5_167 win_X1_restoreLatest wse_X1_restoreLatest wi_X1 wc_X1_restoreLatest (by decide +kernel)
theorem wk_X5_172 : Cond.constantLong RX5 172 (zl 31) ∈ z_ws := z_ws_t 537 (by decide +kernel) (by decide +kernel)
theorem wk_X5_170 : Cond.constantLong RX5 170 (zl 151) ∈ z_ws := z_ws_t 536 (by decide +kernel) (by decide +kernel)
theorem wm_X5_174 : Cond.methodLink RX5 174 yX5_setting ∈ z_ws := z_ws_t 538 (by decide +kernel) (by decide +kernel)
theorem wc_X5_setting : Cond.code yX5_setting cX5_setting 2 (some .int) ∈ z_ws := z_ws_t 330 (by decide +kernel) (by decide +kernel)
theorem win_X5_setting : Cond.instanceMethod yX5_setting ∈ z_ws := z_ws_t 328 (by decide +kernel) (by decide +kernel)
theorem wse_X5_setting : Cond.selects RX5 yX5_setting yX5_setting ∈ z_ws := z_ws_t 329 (by decide +kernel) (by decide +kernel)
theorem cv_X5_174 : z_cv RX5 174 yX5_setting cX5_setting 2 (some .int) 1 := z_cv_of wm_X5_174 win_X5_setting wse_X5_setting wi_X5 wc_X5_setting (by decide +kernel)
theorem wm_X5_178 : Cond.methodLink RX5 178 yX5_withMarks ∈ z_ws := z_ws_t 539 (by decide +kernel) (by decide +kernel)
theorem wc_X5_withMarks : Cond.code yX5_withMarks cX5_withMarks 8 (some .long) ∈ z_ws := z_ws_t 542 (by decide +kernel) (by decide +kernel)
theorem win_X5_withMarks : Cond.instanceMethod yX5_withMarks ∈ z_ws := z_ws_t 541 (by decide +kernel) (by decide +kernel)
theorem wse_X5_withMarks : Cond.selects RX5 yX5_withMarks yX5_withMarks ∈ z_ws := z_ws_p 2 (by decide +kernel) (by decide +kernel)
theorem cv_X5_178 : z_cv RX5 178 yX5_withMarks cX5_withMarks 8 (some .long) 2 := z_cv_of wm_X5_178 win_X5_withMarks wse_X5_withMarks wi_X5 wc_X5_withMarks (by decide +kernel)
theorem wm_X5_182 : Cond.methodLink RX5 182 yX5_withCuts ∈ z_ws := z_ws_t 543 (by decide +kernel) (by decide +kernel)
theorem wc_X5_withCuts : Cond.code yX5_withCuts cX5_withCuts 8 (some .long) ∈ z_ws := z_ws_t 546 (by decide +kernel) (by decide +kernel)
theorem win_X5_withCuts : Cond.instanceMethod yX5_withCuts ∈ z_ws := z_ws_t 545 (by decide +kernel) (by decide +kernel)
theorem wse_X5_withCuts : Cond.selects RX5 yX5_withCuts yX5_withCuts ∈ z_ws := z_ws_p 3 (by decide +kernel) (by decide +kernel)
theorem cv_X5_182 : z_cv RX5 182 yX5_withCuts cX5_withCuts 8 (some .long) 2 := z_cv_of wm_X5_182 win_X5_withCuts wse_X5_withCuts wi_X5 wc_X5_withCuts (by decide +kernel)
theorem wm_X5_185 : Cond.methodLink RX5 185 yX5_withResult ∈ z_ws := z_ws_t 547 (by decide +kernel) (by decide +kernel)
theorem wc_X5_withResult : Cond.code yX5_withResult cX5_withResult 7 (some .long) ∈ z_ws := z_ws_t 550 (by decide +kernel) (by decide +kernel)
theorem win_X5_withResult : Cond.instanceMethod yX5_withResult ∈ z_ws := z_ws_t 549 (by decide +kernel) (by decide +kernel)
theorem wse_X5_withResult : Cond.selects RX5 yX5_withResult yX5_withResult ∈ z_ws := z_ws_p 4 (by decide +kernel) (by decide +kernel)
theorem cv_X5_185 : z_cv RX5 185 yX5_withResult cX5_withResult 7 (some .long) 2 := z_cv_of wm_X5_185 win_X5_withResult wse_X5_withResult wi_X5 wc_X5_withResult (by decide +kernel)
theorem wf_X5_177 : Cond.fieldLink RX5 177 RX2 "levels" "[I" ∈ z_ws := z_ws_t 30 (by decide +kernel) (by decide +kernel)
theorem wf_X6_37 : Cond.fieldLink RX6 37 RX6 "pastMany" "I" ∈ z_ws := z_ws_t 559 (by decide +kernel) (by decide +kernel)
theorem wf_X6_13 : Cond.fieldLink RX6 13 RX6 "past" "[I" ∈ z_ws := z_ws_t 558 (by decide +kernel) (by decide +kernel)
theorem wf_X6_7 : Cond.fieldLink RX6 7 RX6 "v" "[I" ∈ z_ws := z_ws_t 557 (by decide +kernel) (by decide +kernel)
theorem wm_X6_41 : Cond.methodLink RX6 41 yX6_in ∈ z_ws := z_ws_t 619 (by decide +kernel) (by decide +kernel)
theorem wi_X6 : Cond.initialized RX6 ∈ z_ws := z_ws_t 8 (by decide +kernel) (by decide +kernel)
theorem wc_X6_in : Cond.code yX6_in cX6_in 3 (some .boolean) ∈ z_ws := z_ws_t 621 (by decide +kernel) (by decide +kernel)
theorem wst_X6_in : Cond.static yX6_in ∈ z_ws := z_ws_t 620 (by decide +kernel) (by decide +kernel)
theorem cv_X6_41 : z_cs RX6 41 yX6_in cX6_in 3 (some .boolean) 3 := z_cs_of wm_X6_41 wst_X6_in wi_X6 wc_X6_in (by decide +kernel)
theorem wm_X6_45 : Cond.methodLink RX6 45 yX6_levelAt ∈ z_ws := z_ws_t 730 (by decide +kernel) (by decide +kernel)
theorem wc_X6_levelAt : Cond.code yX6_levelAt cX6_levelAt 2 (some .int) ∈ z_ws := z_ws_t 733 (by decide +kernel) (by decide +kernel)
theorem win_X6_levelAt : Cond.instanceMethod yX6_levelAt ∈ z_ws := z_ws_t 732 (by decide +kernel) (by decide +kernel)
theorem wse_X6_levelAt : Cond.selects RX6 yX6_levelAt yX6_levelAt ∈ z_ws := z_ws_p 20 (by decide +kernel) (by decide +kernel)
theorem cv_X6_45 : z_cv RX6 45 yX6_levelAt cX6_levelAt 2 (some .int) 1 := z_cv_of wm_X6_45 win_X6_levelAt wse_X6_levelAt wi_X6 wc_X6_levelAt (by decide +kernel)
theorem wf_X6_49 : Cond.fieldLink RX6 49 RX6 "typed" "I" ∈ z_ws := z_ws_t 561 (by decide +kernel) (by decide +kernel)
theorem wf_X6_16 : Cond.fieldLink RX6 16 RX6 "text" "[I" ∈ z_ws := z_ws_t 560 (by decide +kernel) (by decide +kernel)
theorem wf_X6_52 : Cond.fieldLink RX6 52 RX6 "at" "I" ∈ z_ws := z_ws_t 562 (by decide +kernel) (by decide +kernel)
theorem wm_X6_55 : Cond.methodLink RX6 55 yX6_sign ∈ z_ws := z_ws_t 638 (by decide +kernel) (by decide +kernel)
theorem wc_X6_sign : Cond.code yX6_sign cX6_sign 1 (some .int) ∈ z_ws := z_ws_t 641 (by decide +kernel) (by decide +kernel)
theorem win_X6_sign : Cond.instanceMethod yX6_sign ∈ z_ws := z_ws_t 640 (by decide +kernel) (by decide +kernel)
theorem wse_X6_sign : Cond.selects RX6 yX6_sign yX6_sign ∈ z_ws := z_ws_p 7 (by decide +kernel) (by decide +kernel)
theorem cv_X6_55 : z_cv RX6 55 yX6_sign cX6_sign 1 (some .int) 0 := z_cv_of wm_X6_55 win_X6_sign wse_X6_sign wi_X6 wc_X6_sign (by decide +kernel)
theorem wm_X6_59 : Cond.methodLink RX6 59 yX6_isDigit ∈ z_ws := z_ws_t 634 (by decide +kernel) (by decide +kernel)
theorem wc_X6_isDigit : Cond.code yX6_isDigit cX6_isDigit 1 (some .boolean) ∈ z_ws := z_ws_t 637 (by decide +kernel) (by decide +kernel)
theorem win_X6_isDigit : Cond.instanceMethod yX6_isDigit ∈ z_ws := z_ws_t 636 (by decide +kernel) (by decide +kernel)
theorem wse_X6_isDigit : Cond.selects RX6 yX6_isDigit yX6_isDigit ∈ z_ws := z_ws_p 6 (by decide +kernel) (by decide +kernel)
theorem cv_X6_59 : z_cv RX6 59 yX6_isDigit cX6_isDigit 1 (some .boolean) 0 := z_cv_of wm_X6_59 win_X6_isDigit wse_X6_isDigit wi_X6 wc_X6_isDigit (by decide +kernel)
theorem wf_X6_19 : Cond.fieldLink RX6 19 RX6 "levels" "[I" ∈ z_ws := z_ws_t 566 (by decide +kernel) (by decide +kernel)
theorem wf_X6_63 : Cond.fieldLink RX6 63 RX6 "frameMany" "I" ∈ z_ws := z_ws_t 564 (by decide +kernel) (by decide +kernel)
theorem wf_X6_22 : Cond.fieldLink RX6 22 RX6 "marks" "[I" ∈ z_ws := z_ws_t 567 (by decide +kernel) (by decide +kernel)
theorem wf_X6_66 : Cond.fieldLink RX6 66 RX6 "markMany" "I" ∈ z_ws := z_ws_t 565 (by decide +kernel) (by decide +kernel)
theorem wf_X6_69 : Cond.fieldLink RX6 69 RX6 "wrong" "I" ∈ z_ws := z_ws_t 563 (by decide +kernel) (by decide +kernel)
theorem wm_X6_72 : Cond.methodLink RX6 72 yX6_doubt ∈ z_ws := z_ws_t 650 (by decide +kernel) (by decide +kernel)
theorem wc_X6_doubt : Cond.code yX6_doubt cX6_doubt 4 (some .boolean) ∈ z_ws := z_ws_t 653 (by decide +kernel) (by decide +kernel)
theorem win_X6_doubt : Cond.instanceMethod yX6_doubt ∈ z_ws := z_ws_t 652 (by decide +kernel) (by decide +kernel)
theorem wse_X6_doubt : Cond.selects RX6 yX6_doubt yX6_doubt ∈ z_ws := z_ws_p 10 (by decide +kernel) (by decide +kernel)
theorem cv_X6_72 : z_cv RX6 72 yX6_doubt cX6_doubt 4 (some .boolean) 0 := z_cv_of wm_X6_72 win_X6_doubt wse_X6_doubt wi_X6 wc_X6_doubt (by decide +kernel)
theorem wm_X6_75 : Cond.methodLink RX6 75 yX6_takes ∈ z_ws := z_ws_t 654 (by decide +kernel) (by decide +kernel)
theorem wc_X6_takes : Cond.code yX6_takes cX6_takes 3 (some .boolean) ∈ z_ws := z_ws_t 657 (by decide +kernel) (by decide +kernel)
theorem win_X6_takes : Cond.instanceMethod yX6_takes ∈ z_ws := z_ws_t 656 (by decide +kernel) (by decide +kernel)
theorem wse_X6_takes : Cond.selects RX6 yX6_takes yX6_takes ∈ z_ws := z_ws_p 11 (by decide +kernel) (by decide +kernel)
theorem cv_X6_75 : z_cv RX6 75 yX6_takes cX6_takes 3 (some .boolean) 1 := z_cv_of wm_X6_75 win_X6_takes wse_X6_takes wi_X6 wc_X6_takes (by decide +kernel)
theorem wm_X6_79 : Cond.methodLink RX6 79 yX6_takesFrames ∈ z_ws := z_ws_t 642 (by decide +kernel) (by decide +kernel)
theorem wc_X6_takesFrames : Cond.code yX6_takesFrames cX6_takesFrames 1 none ∈ z_ws := z_ws_t 645 (by decide +kernel) (by decide +kernel)
theorem win_X6_takesFrames : Cond.instanceMethod yX6_takesFrames ∈ z_ws := z_ws_t 644 (by decide +kernel) (by decide +kernel)
theorem wse_X6_takesFrames : Cond.selects RX6 yX6_takesFrames yX6_takesFrames ∈ z_ws := z_ws_p 8 (by decide +kernel) (by decide +kernel)
theorem cv_X6_79 : z_cv RX6 79 yX6_takesFrames cX6_takesFrames 1 none 0 := z_cv_of wm_X6_79 win_X6_takesFrames wse_X6_takesFrames wi_X6 wc_X6_takesFrames (by decide +kernel)
theorem wm_X6_82 : Cond.methodLink RX6 82 yX6_readsMark ∈ z_ws := z_ws_t 646 (by decide +kernel) (by decide +kernel)
theorem wc_X6_readsMark : Cond.code yX6_readsMark cX6_readsMark 4 (some .boolean) ∈ z_ws := z_ws_t 649 (by decide +kernel) (by decide +kernel)
theorem win_X6_readsMark : Cond.instanceMethod yX6_readsMark ∈ z_ws := z_ws_t 648 (by decide +kernel) (by decide +kernel)
theorem wse_X6_readsMark : Cond.selects RX6 yX6_readsMark yX6_readsMark ∈ z_ws := z_ws_p 9 (by decide +kernel) (by decide +kernel)
theorem cv_X6_82 : z_cv RX6 82 yX6_readsMark cX6_readsMark 4 (some .boolean) 0 := z_cv_of wm_X6_82 win_X6_readsMark wse_X6_readsMark wi_X6 wc_X6_readsMark (by decide +kernel)
theorem wm_X6_85 : Cond.methodLink RX6 85 yX6_wrongAt ∈ z_ws := z_ws_t 630 (by decide +kernel) (by decide +kernel)
theorem wc_X6_wrongAt : Cond.code yX6_wrongAt cX6_wrongAt 1 (some .int) ∈ z_ws := z_ws_t 633 (by decide +kernel) (by decide +kernel)
theorem win_X6_wrongAt : Cond.instanceMethod yX6_wrongAt ∈ z_ws := z_ws_t 632 (by decide +kernel) (by decide +kernel)
theorem wse_X6_wrongAt : Cond.selects RX6 yX6_wrongAt yX6_wrongAt ∈ z_ws := z_ws_p 5 (by decide +kernel) (by decide +kernel)
theorem cv_X6_85 : z_cv RX6 85 yX6_wrongAt cX6_wrongAt 1 (some .int) 0 := z_cv_of wm_X6_85 win_X6_wrongAt wse_X6_wrongAt wi_X6 wc_X6_wrongAt (by decide +kernel)
theorem wm_X6_88 : Cond.methodLink RX6 88 yX6_act ∈ z_ws := z_ws_t 658 (by decide +kernel) (by decide +kernel)
theorem wc_X6_act : Cond.code yX6_act cX6_act 2 none ∈ z_ws := z_ws_t 661 (by decide +kernel) (by decide +kernel)
theorem win_X6_act : Cond.instanceMethod yX6_act ∈ z_ws := z_ws_t 660 (by decide +kernel) (by decide +kernel)
theorem wse_X6_act : Cond.selects RX6 yX6_act yX6_act ∈ z_ws := z_ws_p 12 (by decide +kernel) (by decide +kernel)
theorem cv_X6_88 : z_cv RX6 88 yX6_act cX6_act 2 none 0 := z_cv_of wm_X6_88 win_X6_act wse_X6_act wi_X6 wc_X6_act (by decide +kernel)
theorem wk_X6_91 : Cond.constant RX6 91 (zi 1103515245) ∈ z_ws := z_ws_t 670 (by decide +kernel) (by decide +kernel)
theorem wm_X6_92 : Cond.methodLink RX6 92 yX6_of ∈ z_ws := z_ws_t 675 (by decide +kernel) (by decide +kernel)
theorem wc_X6_of : Cond.code yX6_of cX6_of 3 (some .int) ∈ z_ws := z_ws_t 678 (by decide +kernel) (by decide +kernel)
theorem win_X6_of : Cond.instanceMethod yX6_of ∈ z_ws := z_ws_t 677 (by decide +kernel) (by decide +kernel)
theorem wse_X6_of : Cond.selects RX6 yX6_of yX6_of ∈ z_ws := z_ws_p 13 (by decide +kernel) (by decide +kernel)
theorem cv_X6_92 : z_cv RX6 92 yX6_of cX6_of 3 (some .int) 2 := z_cv_of wm_X6_92 win_X6_of wse_X6_of wi_X6 wc_X6_of (by decide +kernel)
theorem wm_X6_96 : Cond.methodLink RX6 96 yX6_isMark ∈ z_ws := z_ws_t 683 (by decide +kernel) (by decide +kernel)
theorem wc_X6_isMark : Cond.code yX6_isMark cX6_isMark 2 (some .boolean) ∈ z_ws := z_ws_t 686 (by decide +kernel) (by decide +kernel)
theorem win_X6_isMark : Cond.instanceMethod yX6_isMark ∈ z_ws := z_ws_t 685 (by decide +kernel) (by decide +kernel)
theorem wse_X6_isMark : Cond.selects RX6 yX6_isMark yX6_isMark ∈ z_ws := z_ws_p 14 (by decide +kernel) (by decide +kernel)
theorem cv_X6_96 : z_cv RX6 96 yX6_isMark cX6_isMark 2 (some .boolean) 1 := z_cv_of wm_X6_96 win_X6_isMark wse_X6_isMark wi_X6 wc_X6_isMark (by decide +kernel)
theorem wm_X6_99 : Cond.methodLink RX6 99 yX6_sets ∈ z_ws := z_ws_t 691 (by decide +kernel) (by decide +kernel)
theorem wc_X6_sets : Cond.code yX6_sets cX6_sets 4 (some .int) ∈ z_ws := z_ws_t 694 (by decide +kernel) (by decide +kernel)
theorem win_X6_sets : Cond.instanceMethod yX6_sets ∈ z_ws := z_ws_t 693 (by decide +kernel) (by decide +kernel)
theorem wse_X6_sets : Cond.selects RX6 yX6_sets yX6_sets ∈ z_ws := z_ws_p 15 (by decide +kernel) (by decide +kernel)
theorem cv_X6_99 : z_cv RX6 99 yX6_sets cX6_sets 4 (some .int) 2 := z_cv_of wm_X6_99 win_X6_sets wse_X6_sets wi_X6 wc_X6_sets (by decide +kernel)
theorem wm_X6_102 : Cond.methodLink RX6 102 yX6_most ∈ z_ws := z_ws_t 699 (by decide +kernel) (by decide +kernel)
theorem wc_X6_most : Cond.code yX6_most cX6_most 1 (some .int) ∈ z_ws := z_ws_t 701 (by decide +kernel) (by decide +kernel)
theorem wst_X6_most : Cond.static yX6_most ∈ z_ws := z_ws_t 700 (by decide +kernel) (by decide +kernel)
theorem cv_X6_102 : z_cs RX6 102 yX6_most cX6_most 1 (some .int) 1 := z_cs_of wm_X6_102 wst_X6_most wi_X6 wc_X6_most (by decide +kernel)
theorem wm_X6_105 : Cond.methodLink RX6 105 yX6_isQuiet ∈ z_ws := z_ws_t 726 (by decide +kernel) (by decide +kernel)
theorem wc_X6_isQuiet : Cond.code yX6_isQuiet cX6_isQuiet 2 (some .boolean) ∈ z_ws := z_ws_t 729 (by decide +kernel) (by decide +kernel)
theorem win_X6_isQuiet : Cond.instanceMethod yX6_isQuiet ∈ z_ws := z_ws_t 728 (by decide +kernel) (by decide +kernel)
theorem wse_X6_isQuiet : Cond.selects RX6 yX6_isQuiet yX6_isQuiet ∈ z_ws := z_ws_p 19 (by decide +kernel) (by decide +kernel)
theorem cv_X6_105 : z_cv RX6 105 yX6_isQuiet cX6_isQuiet 2 (some .boolean) 1 := z_cv_of wm_X6_105 win_X6_isQuiet wse_X6_isQuiet wi_X6 wc_X6_isQuiet (by decide +kernel)
theorem wf_X6_108 : Cond.fieldLink RX6 108 RX6 "cutMany" "I" ∈ z_ws := z_ws_t 569 (by decide +kernel) (by decide +kernel)
theorem wf_X6_25 : Cond.fieldLink RX6 25 RX6 "cut" "[I" ∈ z_ws := z_ws_t 568 (by decide +kernel) (by decide +kernel)
theorem wm_X6_111 : Cond.methodLink RX6 111 yX6_seam ∈ z_ws := z_ws_t 722 (by decide +kernel) (by decide +kernel)
theorem wc_X6_seam : Cond.code yX6_seam cX6_seam 5 (some .int) ∈ z_ws := z_ws_t 725 (by decide +kernel) (by decide +kernel)
theorem win_X6_seam : Cond.instanceMethod yX6_seam ∈ z_ws := z_ws_t 724 (by decide +kernel) (by decide +kernel)
theorem wse_X6_seam : Cond.selects RX6 yX6_seam yX6_seam ∈ z_ws := z_ws_p 18 (by decide +kernel) (by decide +kernel)
theorem cv_X6_111 : z_cv RX6 111 yX6_seam cX6_seam 5 (some .int) 3 := z_cv_of wm_X6_111 win_X6_seam wse_X6_seam wi_X6 wc_X6_seam (by decide +kernel)
theorem wm_X6_115 : Cond.methodLink RX6 115 yX6_lays ∈ z_ws := z_ws_t 734 (by decide +kernel) (by decide +kernel)
theorem wc_X6_lays : Cond.code yX6_lays cX6_lays 7 none ∈ z_ws := z_ws_t 737 (by decide +kernel) (by decide +kernel)
theorem win_X6_lays : Cond.instanceMethod yX6_lays ∈ z_ws := z_ws_t 736 (by decide +kernel) (by decide +kernel)
theorem wse_X6_lays : Cond.selects RX6 yX6_lays yX6_lays ∈ z_ws := z_ws_p 21 (by decide +kernel) (by decide +kernel)
theorem cv_X6_115 : z_cv RX6 115 yX6_lays cX6_lays 7 none 5 := z_cv_of wm_X6_115 win_X6_lays wse_X6_lays wi_X6 wc_X6_lays (by decide +kernel)
theorem wm_X6_119 : Cond.methodLink RX6 119 yX6_fills ∈ z_ws := z_ws_t 718 (by decide +kernel) (by decide +kernel)
theorem wc_X6_fills : Cond.code yX6_fills cX6_fills 10 none ∈ z_ws := z_ws_t 721 (by decide +kernel) (by decide +kernel)
theorem win_X6_fills : Cond.instanceMethod yX6_fills ∈ z_ws := z_ws_t 720 (by decide +kernel) (by decide +kernel)
theorem wse_X6_fills : Cond.selects RX6 yX6_fills yX6_fills ∈ z_ws := z_ws_p 17 (by decide +kernel) (by decide +kernel)
theorem cv_X6_119 : z_cv RX6 119 yX6_fills cX6_fills 10 none 1 := z_cv_of wm_X6_119 win_X6_fills wse_X6_fills wi_X6 wc_X6_fills (by decide +kernel)
theorem wm_X6_123 : Cond.methodLink RX6 123 yX6_cutOf ∈ z_ws := z_ws_t 742 (by decide +kernel) (by decide +kernel)
theorem wc_X6_cutOf : Cond.code yX6_cutOf cX6_cutOf 4 (some .int) ∈ z_ws := z_ws_t 745 (by decide +kernel) (by decide +kernel)
theorem win_X6_cutOf : Cond.instanceMethod yX6_cutOf ∈ z_ws := z_ws_t 744 (by decide +kernel) (by decide +kernel)
theorem wse_X6_cutOf : Cond.selects RX6 yX6_cutOf yX6_cutOf ∈ z_ws := z_ws_p 23 (by decide +kernel) (by decide +kernel)
theorem cv_X6_123 : z_cv RX6 123 yX6_cutOf cX6_cutOf 4 (some .int) 1 := z_cv_of wm_X6_123 win_X6_cutOf wse_X6_cutOf wi_X6 wc_X6_cutOf (by decide +kernel)
theorem wm_X6_126 : Cond.methodLink RX6 126 yX6_finds ∈ z_ws := z_ws_t 714 (by decide +kernel) (by decide +kernel)
theorem wc_X6_finds : Cond.code yX6_finds cX6_finds 3 none ∈ z_ws := z_ws_t 717 (by decide +kernel) (by decide +kernel)
theorem win_X6_finds : Cond.instanceMethod yX6_finds ∈ z_ws := z_ws_t 716 (by decide +kernel) (by decide +kernel)
theorem wse_X6_finds : Cond.selects RX6 yX6_finds yX6_finds ∈ z_ws := z_ws_p 16 (by decide +kernel) (by decide +kernel)
theorem cv_X6_126 : z_cv RX6 126 yX6_finds cX6_finds 3 none 0 := z_cv_of wm_X6_126 win_X6_finds wse_X6_finds wi_X6 wc_X6_finds (by decide +kernel)
theorem wm_X6_129 : Cond.methodLink RX6 129 yX6_told ∈ z_ws := z_ws_t 738 (by decide +kernel) (by decide +kernel)
theorem wc_X6_told : Cond.code yX6_told cX6_told 3 (some .int) ∈ z_ws := z_ws_t 741 (by decide +kernel) (by decide +kernel)
theorem win_X6_told : Cond.instanceMethod yX6_told ∈ z_ws := z_ws_t 740 (by decide +kernel) (by decide +kernel)
theorem wse_X6_told : Cond.selects RX6 yX6_told yX6_told ∈ z_ws := z_ws_p 22 (by decide +kernel) (by decide +kernel)
theorem cv_X6_129 : z_cv RX6 129 yX6_told cX6_told 3 (some .int) 2 := z_cv_of wm_X6_129 win_X6_told wse_X6_told wi_X6 wc_X6_told (by decide +kernel)
theorem wm_X6_132 : Cond.methodLink RX6 132 yX6_sumOf ∈ z_ws := z_ws_t 758 (by decide +kernel) (by decide +kernel)
theorem wc_X6_sumOf : Cond.code yX6_sumOf cX6_sumOf 4 (some .int) ∈ z_ws := z_ws_t 761 (by decide +kernel) (by decide +kernel)
theorem win_X6_sumOf : Cond.instanceMethod yX6_sumOf ∈ z_ws := z_ws_t 760 (by decide +kernel) (by decide +kernel)
theorem wse_X6_sumOf : Cond.selects RX6 yX6_sumOf yX6_sumOf ∈ z_ws := z_ws_p 24 (by decide +kernel) (by decide +kernel)
theorem cv_X6_132 : z_cv RX6 132 yX6_sumOf cX6_sumOf 4 (some .int) 1 := z_cv_of wm_X6_132 win_X6_sumOf wse_X6_sumOf wi_X6 wc_X6_sumOf (by decide +kernel)
theorem wf_X6_28 : Cond.fieldLink RX6 28 RX6 "source" "[I" ∈ z_ws := z_ws_t 570 (by decide +kernel) (by decide +kernel)
theorem wf_X6_135 : Cond.fieldLink RX6 135 RX6 "heardMany" "I" ∈ z_ws := z_ws_t 572 (by decide +kernel) (by decide +kernel)
theorem wf_X6_31 : Cond.fieldLink RX6 31 RX6 "heardLevel" "[I" ∈ z_ws := z_ws_t 571 (by decide +kernel) (by decide +kernel)
theorem wf_X6_138 : Cond.fieldLink RX6 138 RX6 "roomMany" "I" ∈ z_ws := z_ws_t 574 (by decide +kernel) (by decide +kernel)
theorem wf_X6_34 : Cond.fieldLink RX6 34 RX6 "room" "[I" ∈ z_ws := z_ws_t 573 (by decide +kernel) (by decide +kernel)
theorem wf_X6_141 : Cond.fieldLink RX6 141 RX6 "taken" "I" ∈ z_ws := z_ws_t 575 (by decide +kernel) (by decide +kernel)
theorem wm_X6_144 : Cond.methodLink RX6 144 yX6_hears ∈ z_ws := z_ws_t 782 (by decide +kernel) (by decide +kernel)
theorem wc_X6_hears : Cond.code yX6_hears cX6_hears 3 none ∈ z_ws := z_ws_t 785 (by decide +kernel) (by decide +kernel)
theorem win_X6_hears : Cond.instanceMethod yX6_hears ∈ z_ws := z_ws_t 784 (by decide +kernel) (by decide +kernel)
theorem wse_X6_hears : Cond.selects RX6 yX6_hears yX6_hears ∈ z_ws := z_ws_p 27 (by decide +kernel) (by decide +kernel)
theorem cv_X6_144 : z_cv RX6 144 yX6_hears cX6_hears 3 none 2 := z_cv_of wm_X6_144 win_X6_hears wse_X6_hears wi_X6 wc_X6_hears (by decide +kernel)
theorem wm_X6_151 : Cond.methodLink RX6 151 yX6_pauses ∈ z_ws := z_ws_t 786 (by decide +kernel) (by decide +kernel)
theorem wc_X6_pauses : Cond.code yX6_pauses cX6_pauses 4 none ∈ z_ws := z_ws_t 789 (by decide +kernel) (by decide +kernel)
theorem win_X6_pauses : Cond.instanceMethod yX6_pauses ∈ z_ws := z_ws_t 788 (by decide +kernel) (by decide +kernel)
theorem wse_X6_pauses : Cond.selects RX6 yX6_pauses yX6_pauses ∈ z_ws := z_ws_p 28 (by decide +kernel) (by decide +kernel)
theorem cv_X6_151 : z_cv RX6 151 yX6_pauses cX6_pauses 4 none 1 := z_cv_of wm_X6_151 win_X6_pauses wse_X6_pauses wi_X6 wc_X6_pauses (by decide +kernel)
theorem wm_X6_148 : Cond.methodLink RX6 148 yX6_isNoise ∈ z_ws := z_ws_t 778 (by decide +kernel) (by decide +kernel)
theorem wc_X6_isNoise : Cond.code yX6_isNoise cX6_isNoise 4 (some .boolean) ∈ z_ws := z_ws_t 781 (by decide +kernel) (by decide +kernel)
theorem win_X6_isNoise : Cond.instanceMethod yX6_isNoise ∈ z_ws := z_ws_t 780 (by decide +kernel) (by decide +kernel)
theorem wse_X6_isNoise : Cond.selects RX6 yX6_isNoise yX6_isNoise ∈ z_ws := z_ws_p 26 (by decide +kernel) (by decide +kernel)
theorem cv_X6_148 : z_cv RX6 148 yX6_isNoise cX6_isNoise 4 (some .boolean) 1 := z_cv_of wm_X6_148 win_X6_isNoise wse_X6_isNoise wi_X6 wc_X6_isNoise (by decide +kernel)
theorem wm_X6_154 : Cond.methodLink RX6 154 yX6_plays ∈ z_ws := z_ws_t 774 (by decide +kernel) (by decide +kernel)
theorem wc_X6_plays : Cond.code yX6_plays cX6_plays 4 none ∈ z_ws := z_ws_t 777 (by decide +kernel) (by decide +kernel)
theorem win_X6_plays : Cond.instanceMethod yX6_plays ∈ z_ws := z_ws_t 776 (by decide +kernel) (by decide +kernel)
theorem wse_X6_plays : Cond.selects RX6 yX6_plays yX6_plays ∈ z_ws := z_ws_p 25 (by decide +kernel) (by decide +kernel)
theorem cv_X6_154 : z_cv RX6 154 yX6_plays cX6_plays 4 none 0 := z_cv_of wm_X6_154 win_X6_plays wse_X6_plays wi_X6 wc_X6_plays (by decide +kernel)
theorem wk_X6_157 : Cond.constantLong RX6 157 (zl 151) ∈ z_ws := z_ws_t 822 (by decide +kernel) (by decide +kernel)
theorem wk_X6_159 : Cond.constantLong RX6 159 (zl 31) ∈ z_ws := z_ws_t 823 (by decide +kernel) (by decide +kernel)
end
section
/-! THE CELLS OF THE WORLDS, AND A ROW FOR EACH FIELD (by program) -/
theorem z_lt0 {g : zG} (h : g.1 = 0) {k : Nat} (hk : k < 64) : k < z_N g := by rw [z_N0 h]; exact hk
theorem z_lt1 {g : zG} (h : g.1 = 1) {k : Nat} (hk : k < 10) : k < z_N g := by rw [z_N1 h]; exact hk
theorem z_room {C : zC} {rm : Room} (hR : z_R C = rm) {a b : Nat} (h : a ≤ rm.frames ∧ b ≤ rm.locals) : a ≤ (z_R C).frames ∧ b ≤ (z_R C).locals := by rw [hR]; exact h
theorem z_lk4 {a b c d oa ob oc od dflt x : Int} (ha : ¬ x = a) (hb : ¬ x = b) (hc : ¬ x = c) (hd : ¬ x = d) : Op.lookupswitch.offset [(a, oa), (b, ob), (c, oc), (d, od)] dflt x = dflt := by
  rw [Op.lookupswitch.offset_cons, if_neg (Ne.symm ha), Op.lookupswitch.offset_cons, if_neg (Ne.symm hb), Op.lookupswitch.offset_cons, if_neg (Ne.symm hc), Op.lookupswitch.offset_cons, if_neg (Ne.symm hd)]
  rfl
theorem z_ka0 {g : zG} (h : g.1 = 0) {j : Nat} (hj : j < 6) (f : Int → Int) : z_mk g (8 * j) f = .inr (2, [.ref (g.2.1 (8 * j + 1)), .int (zi (f 1)), .ref (g.2.1 (8 * j + 2)), .ref (g.2.1 (8 * j + 3)), .ref (g.2.1 (8 * j + 4)), .ref (g.2.1 (8 * j + 5)), .ref (g.2.1 (8 * j + 6)), .int (zi (f 7)), .ref (g.2.1 (8 * j + 7))]) := by
  rw [z_side0 h]
  rcases (show j = 0 ∨ j = 1 ∨ j = 2 ∨ j = 3 ∨ j = 4 ∨ j = 5 by omega) with rfl | rfl | rfl | rfl | rfl | rfl <;> rfl
theorem z_ka1 {g : zG} (h : g.1 = 0) {j : Nat} (hj : j < 6) (f : Int → Int) : z_mk g (8 * j + 1) f = .inl (g.2.2.1, 200, .inl (z_ar f)) := by
  rw [z_side0 h]
  rcases (show j = 0 ∨ j = 1 ∨ j = 2 ∨ j = 3 ∨ j = 4 ∨ j = 5 by omega) with rfl | rfl | rfl | rfl | rfl | rfl <;> rfl
theorem z_ka2 {g : zG} (h : g.1 = 0) {j : Nat} (hj : j < 6) (f : Int → Int) : z_mk g (8 * j + 2) f = .inl (g.2.2.1, 20, .inl (z_ar f)) := by
  rw [z_side0 h]
  rcases (show j = 0 ∨ j = 1 ∨ j = 2 ∨ j = 3 ∨ j = 4 ∨ j = 5 by omega) with rfl | rfl | rfl | rfl | rfl | rfl <;> rfl
theorem z_ka3 {g : zG} (h : g.1 = 0) {j : Nat} (hj : j < 6) (f : Int → Int) : z_mk g (8 * j + 3) f = .inl (g.2.2.1, 20, .inl (z_ar f)) := by
  rw [z_side0 h]
  rcases (show j = 0 ∨ j = 1 ∨ j = 2 ∨ j = 3 ∨ j = 4 ∨ j = 5 by omega) with rfl | rfl | rfl | rfl | rfl | rfl <;> rfl
theorem z_ka4 {g : zG} (h : g.1 = 0) {j : Nat} (hj : j < 6) (f : Int → Int) : z_mk g (8 * j + 4) f = .inl (g.2.2.1, 20, .inl (z_ar f)) := by
  rw [z_side0 h]
  rcases (show j = 0 ∨ j = 1 ∨ j = 2 ∨ j = 3 ∨ j = 4 ∨ j = 5 by omega) with rfl | rfl | rfl | rfl | rfl | rfl <;> rfl
theorem z_ka5 {g : zG} (h : g.1 = 0) {j : Nat} (hj : j < 6) (f : Int → Int) : z_mk g (8 * j + 5) f = .inl (g.2.2.1, 20, .inl (z_ar f)) := by
  rw [z_side0 h]
  rcases (show j = 0 ∨ j = 1 ∨ j = 2 ∨ j = 3 ∨ j = 4 ∨ j = 5 by omega) with rfl | rfl | rfl | rfl | rfl | rfl <;> rfl
theorem z_ka6 {g : zG} (h : g.1 = 0) {j : Nat} (hj : j < 6) (f : Int → Int) : z_mk g (8 * j + 6) f = .inl (g.2.2.2.1, 20, .inl (z_ar f)) := by
  rw [z_side0 h]
  rcases (show j = 0 ∨ j = 1 ∨ j = 2 ∨ j = 3 ∨ j = 4 ∨ j = 5 by omega) with rfl | rfl | rfl | rfl | rfl | rfl <;> rfl
theorem z_ka7 {g : zG} (h : g.1 = 0) {j : Nat} (hj : j < 6) (f : Int → Int) : z_mk g (8 * j + 7) f = .inl (g.2.2.1, 7, .inl (z_ar f)) := by
  rw [z_side0 h]
  rcases (show j = 0 ∨ j = 1 ∨ j = 2 ∨ j = 3 ∨ j = 4 ∨ j = 5 by omega) with rfl | rfl | rfl | rfl | rfl | rfl <;> rfl
theorem z_kb48 {g : zG} (h : g.1 = 0) (f : Int → Int) : z_mk g 48 f = .inr (0, [.ref (g.2.1 49), .ref (g.2.1 50), .ref (g.2.1 51), .ref (g.2.1 52), .ref (g.2.1 53), .int (zi (f 5))]) := by
  rw [z_side0 h]
  rfl
theorem z_kb49 {g : zG} (h : g.1 = 0) (f : Int → Int) : z_mk g 49 f = .inl (g.2.2.1, 20, .inl (z_ar f)) := by
  rw [z_side0 h]
  rfl
theorem z_kb50 {g : zG} (h : g.1 = 0) (f : Int → Int) : z_mk g 50 f = .inl (g.2.2.1, 20, .inl (z_ar f)) := by
  rw [z_side0 h]
  rfl
theorem z_kb51 {g : zG} (h : g.1 = 0) (f : Int → Int) : z_mk g 51 f = .inl (g.2.2.1, 20, .inl (z_ar f)) := by
  rw [z_side0 h]
  rfl
theorem z_kb52 {g : zG} (h : g.1 = 0) (f : Int → Int) : z_mk g 52 f = .inl (g.2.2.2.1, 20, .inl (z_ar f)) := by
  rw [z_side0 h]
  rfl
theorem z_kb53 {g : zG} (h : g.1 = 0) (f : Int → Int) : z_mk g 53 f = .inl (g.2.2.1, 20, .inl (z_ar f)) := by
  rw [z_side0 h]
  rfl
theorem z_kb60 {g : zG} (h : g.1 = 0) (f : Int → Int) : z_mk g 60 f = .inr (1, [.ref (g.2.1 61), .int (zi (f 1))]) := by
  rw [z_side0 h]
  rfl
theorem z_kb54 {g : zG} (h : g.1 = 0) (f : Int → Int) : z_mk g 54 f = .inr (3, [.ref (g.2.1 55), .ref (g.2.1 56), .int (zi (f 2)), .ref (g.2.1 57), .int (zi (f 4)), .int (zi (f 5)), .ref (g.2.1 58)]) := by
  rw [z_side0 h]
  rfl
theorem z_kb55 {g : zG} (h : g.1 = 0) (f : Int → Int) : z_mk g 55 f = .inl (g.2.2.1, 200, .inl (z_ar f)) := by
  rw [z_side0 h]
  rfl
theorem z_kb56 {g : zG} (h : g.1 = 0) (f : Int → Int) : z_mk g 56 f = .inl (g.2.2.1, 200, .inl (z_ar f)) := by
  rw [z_side0 h]
  rfl
theorem z_kb57 {g : zG} (h : g.1 = 0) (f : Int → Int) : z_mk g 57 f = .inl (g.2.2.1, 200, .inl (z_ar f)) := by
  rw [z_side0 h]
  rfl
theorem z_kb58 {g : zG} (h : g.1 = 0) (f : Int → Int) : z_mk g 58 f = .inl (g.2.2.2.1, 200, .inl (z_ar f)) := by
  rw [z_side0 h]
  rfl
theorem z_kb59 {g : zG} (h : g.1 = 0) (f : Int → Int) : z_mk g 59 f = .inr (4, [.ref (g.2.1 (8 * 5)), .int (zi (f 1)), .int (zi (f 2)), .int (zi (f 3)), .int (zi (f 4)), .int (zi (f 5)), .int (zi (f 6))]) := by
  rw [z_side0 h]
  rfl
theorem z_kb62 {g : zG} (h : g.1 = 0) (f : Int → Int) : z_mk g 62 f = .inr (5, [.ref (g.2.1 63), .int (zi (f 1)), .ref (g.2.1 (8 * 0)), .ref (g.2.1 60), .ref (g.2.1 59), .ref (g.2.1 48), .ref (g.2.1 54)]) := by
  rw [z_side0 h]
  rfl
theorem z_kb63 {g : zG} (h : g.1 = 0) (f : Int → Int) : z_mk g 63 f = .inl (g.2.2.1, 120, .inl (z_ar f)) := by
  rw [z_side0 h]
  rfl
theorem z_kc0 {g : zG} (h : g.1 = 1) (f : Int → Int) : z_mk g 0 f = .inr (6, [.ref (g.2.1 1), .ref (g.2.1 2), .int (zi (f 2)), .ref (g.2.1 3), .int (zi (f 4)), .int (zi (f 5)), .int (zi (f 6)), .int (zi (f 7)), .int (zi (f 8)), .ref (g.2.1 4), .ref (g.2.1 5), .ref (g.2.1 6), .int (zi (f 12)), .ref (g.2.1 7), .ref (g.2.1 8), .int (zi (f 15)), .ref (g.2.1 9), .int (zi (f 17)), .int (zi (f 18))]) := by
  rw [z_side1 h]
  rfl
theorem z_kc1 {g : zG} (h : g.1 = 1) (f : Int → Int) : z_mk g 1 f = .inl (g.2.2.1, 320, .inl (z_ar f)) := by
  rw [z_side1 h]
  rfl
theorem z_kc2 {g : zG} (h : g.1 = 1) (f : Int → Int) : z_mk g 2 f = .inl (g.2.2.1, 1280, .inl (z_ar f)) := by
  rw [z_side1 h]
  rfl
theorem z_kc3 {g : zG} (h : g.1 = 1) (f : Int → Int) : z_mk g 3 f = .inl (g.2.2.1, 120, .inl (z_ar f)) := by
  rw [z_side1 h]
  rfl
theorem z_kc4 {g : zG} (h : g.1 = 1) (f : Int → Int) : z_mk g 4 f = .inl (g.2.2.1, 120, .inl (z_ar f)) := by
  rw [z_side1 h]
  rfl
theorem z_kc5 {g : zG} (h : g.1 = 1) (f : Int → Int) : z_mk g 5 f = .inl (g.2.2.1, 100, .inl (z_ar f)) := by
  rw [z_side1 h]
  rfl
theorem z_kc6 {g : zG} (h : g.1 = 1) (f : Int → Int) : z_mk g 6 f = .inl (g.2.2.1, 100, .inl (z_ar f)) := by
  rw [z_side1 h]
  rfl
theorem z_kc7 {g : zG} (h : g.1 = 1) (f : Int → Int) : z_mk g 7 f = .inl (g.2.2.1, 1400, .inl (z_ar f)) := by
  rw [z_side1 h]
  rfl
theorem z_kc8 {g : zG} (h : g.1 = 1) (f : Int → Int) : z_mk g 8 f = .inl (g.2.2.1, 1400, .inl (z_ar f)) := by
  rw [z_side1 h]
  rfl
theorem z_kc9 {g : zG} (h : g.1 = 1) (f : Int → Int) : z_mk g 9 f = .inl (g.2.2.1, 200, .inl (z_ar f)) := by
  rw [z_side1 h]
  rfl
theorem z_kb61 {g : zG} (h : g.1 = 0) (f : Int → Int) : z_mk g 61 f = .inl (g.2.2.2.2.1, 4, .inr (.inr (.inr (.inr (fun i => some (g.2.1 (8 * (f (i : Int)).toNat))))))) := by
  rw [z_side0 h]
  rfl
section
variable {C : zC} {cc : ByteArray} {own : String} {σ : zS} {pc : Nat} {lv : List (Nat × Value)} {st : List Value} {α : Type} {r : α}
theorem gf_X0_begins (hx : z_ok C cc own 0) {idx : Nat} (hw : Cond.fieldLink own idx RX0 "begins" "[I" ∈ z_ws) (hd : decode cc pc = .ok (.getfield idx, 3)) (kk : z_W C σ (pc + 3) lv (.ref (z_ad (z_g C) 49) :: st)) : z_W C σ pc lv (.ref (z_ad (z_g C) 48) :: st) := z_getf hx (z_lt0 (z_ok_sd hx) (by omega)) (z_kb48 (z_ok_sd hx) _) rfl z_inX0 0 (by decide) hw rfl rfl hd kk
theorem gf_X0_ends (hx : z_ok C cc own 0) {idx : Nat} (hw : Cond.fieldLink own idx RX0 "ends" "[I" ∈ z_ws) (hd : decode cc pc = .ok (.getfield idx, 3)) (kk : z_W C σ (pc + 3) lv (.ref (z_ad (z_g C) 50) :: st)) : z_W C σ pc lv (.ref (z_ad (z_g C) 48) :: st) := z_getf hx (z_lt0 (z_ok_sd hx) (by omega)) (z_kb48 (z_ok_sd hx) _) rfl z_inX0 1 (by decide) hw rfl rfl hd kk
theorem gf_X0_pauses (hx : z_ok C cc own 0) {idx : Nat} (hw : Cond.fieldLink own idx RX0 "pauses" "[I" ∈ z_ws) (hd : decode cc pc = .ok (.getfield idx, 3)) (kk : z_W C σ (pc + 3) lv (.ref (z_ad (z_g C) 51) :: st)) : z_W C σ pc lv (.ref (z_ad (z_g C) 48) :: st) := z_getf hx (z_lt0 (z_ok_sd hx) (by omega)) (z_kb48 (z_ok_sd hx) _) rfl z_inX0 2 (by decide) hw rfl rfl hd kk
theorem gf_X0_rough (hx : z_ok C cc own 0) {idx : Nat} (hw : Cond.fieldLink own idx RX0 "rough" "[Z" ∈ z_ws) (hd : decode cc pc = .ok (.getfield idx, 3)) (kk : z_W C σ (pc + 3) lv (.ref (z_ad (z_g C) 52) :: st)) : z_W C σ pc lv (.ref (z_ad (z_g C) 48) :: st) := z_getf hx (z_lt0 (z_ok_sd hx) (by omega)) (z_kb48 (z_ok_sd hx) _) rfl z_inX0 3 (by decide) hw rfl rfl hd kk
theorem gf_X0_markNumbers (hx : z_ok C cc own 0) {idx : Nat} (hw : Cond.fieldLink own idx RX0 "markNumbers" "[I" ∈ z_ws) (hd : decode cc pc = .ok (.getfield idx, 3)) (kk : z_W C σ (pc + 3) lv (.ref (z_ad (z_g C) 53) :: st)) : z_W C σ pc lv (.ref (z_ad (z_g C) 48) :: st) := z_getf hx (z_lt0 (z_ok_sd hx) (by omega)) (z_kb48 (z_ok_sd hx) _) rfl z_inX0 4 (by decide) hw rfl rfl hd kk
theorem gf_X0_count (hx : z_ok C cc own 0) {idx : Nat} (hw : Cond.fieldLink own idx RX0 "count" "I" ∈ z_ws) (hd : decode cc pc = .ok (.getfield idx, 3)) (kk : z_W C σ (pc + 3) lv (.int (zi (σ 48 5)) :: st)) : z_W C σ pc lv (.ref (z_ad (z_g C) 48) :: st) := z_getf hx (z_lt0 (z_ok_sd hx) (by omega)) (z_kb48 (z_ok_sd hx) _) rfl z_inX0 5 (by decide) hw rfl rfl hd kk
theorem pf_X0_count (hx : z_ok C cc own 0) {idx : Nat} (hw : Cond.fieldLink own idx RX0 "count" "I" ∈ z_ws) {v : Int} {K : zS → Option α} (hd : decode cc pc = .ok (.putfield idx, 3)) (h : z_put σ 48 5 v K = some r) (kk : ∀ σ1, K σ1 = some r → z_W C σ1 (pc + 3) lv st) : z_W C σ pc lv (.int (zi v) :: .ref (z_ad (z_g C) 48) :: st) := z_putf hx (z_lt0 (z_ok_sd hx) (by omega)) (fun f => [.ref (z_ad (z_g C) 49), .ref (z_ad (z_g C) 50), .ref (z_ad (z_g C) 51), .ref (z_ad (z_g C) 52), .ref (z_ad (z_g C) 53), .int (zi (f 5))]) (z_kb48 (z_ok_sd hx)) rfl z_inX0 tyX0 tyX0_ok nmX0 5 (by decide) hw rfl rfl rfl (fun _ => by simp) (fun f => by simp) rfl hd h kk
theorem gf_X1_states (hx : z_ok C cc own 0) {idx : Nat} (hw : Cond.fieldLink own idx RX1 "states" "[LSpeechCleaner$Recording;" ∈ z_ws) (hd : decode cc pc = .ok (.getfield idx, 3)) (kk : z_W C σ (pc + 3) lv (.ref (z_ad (z_g C) 61) :: st)) : z_W C σ pc lv (.ref (z_ad (z_g C) 60) :: st) := z_getf hx (z_lt0 (z_ok_sd hx) (by omega)) (z_kb60 (z_ok_sd hx) _) rfl z_inX1 0 (by decide) hw rfl rfl hd kk
theorem gf_X1_count (hx : z_ok C cc own 0) {idx : Nat} (hw : Cond.fieldLink own idx RX1 "count" "I" ∈ z_ws) (hd : decode cc pc = .ok (.getfield idx, 3)) (kk : z_W C σ (pc + 3) lv (.int (zi (σ 60 1)) :: st)) : z_W C σ pc lv (.ref (z_ad (z_g C) 60) :: st) := z_getf hx (z_lt0 (z_ok_sd hx) (by omega)) (z_kb60 (z_ok_sd hx) _) rfl z_inX1 1 (by decide) hw rfl rfl hd kk
theorem pf_X1_count (hx : z_ok C cc own 0) {idx : Nat} (hw : Cond.fieldLink own idx RX1 "count" "I" ∈ z_ws) {v : Int} {K : zS → Option α} (hd : decode cc pc = .ok (.putfield idx, 3)) (h : z_put σ 60 1 v K = some r) (kk : ∀ σ1, K σ1 = some r → z_W C σ1 (pc + 3) lv st) : z_W C σ pc lv (.int (zi v) :: .ref (z_ad (z_g C) 60) :: st) := z_putf hx (z_lt0 (z_ok_sd hx) (by omega)) (fun f => [.ref (z_ad (z_g C) 61), .int (zi (f 1))]) (z_kb60 (z_ok_sd hx)) rfl z_inX1 tyX1 tyX1_ok nmX1 1 (by decide) hw rfl rfl rfl (fun _ => by simp) (fun f => by simp) rfl hd h kk
theorem gf_X2_levels (hx : z_ok C cc own 0) {idx : Nat} (hw : Cond.fieldLink own idx RX2 "levels" "[I" ∈ z_ws) {j : Nat} (hj : j < 6) (hd : decode cc pc = .ok (.getfield idx, 3)) (kk : z_W C σ (pc + 3) lv (.ref (z_ad (z_g C) (8 * j + 1)) :: st)) : z_W C σ pc lv (.ref (z_ad (z_g C) (8 * j)) :: st) := z_getf hx (z_lt0 (z_ok_sd hx) (by omega)) (z_ka0 (z_ok_sd hx) hj _) rfl z_inX2 0 (by decide) hw rfl rfl hd kk
theorem gf_X2_frames (hx : z_ok C cc own 0) {idx : Nat} (hw : Cond.fieldLink own idx RX2 "frames" "I" ∈ z_ws) {j : Nat} (hj : j < 6) (hd : decode cc pc = .ok (.getfield idx, 3)) (kk : z_W C σ (pc + 3) lv (.int (zi (σ (8 * j) 1)) :: st)) : z_W C σ pc lv (.ref (z_ad (z_g C) (8 * j)) :: st) := z_getf hx (z_lt0 (z_ok_sd hx) (by omega)) (z_ka0 (z_ok_sd hx) hj _) rfl z_inX2 1 (by decide) hw rfl rfl hd kk
theorem pf_X2_frames (hx : z_ok C cc own 0) {idx : Nat} (hw : Cond.fieldLink own idx RX2 "frames" "I" ∈ z_ws) {j : Nat} (hj : j < 6) {v : Int} {K : zS → Option α} (hd : decode cc pc = .ok (.putfield idx, 3)) (h : z_put σ (8 * j) 1 v K = some r) (kk : ∀ σ1, K σ1 = some r → z_W C σ1 (pc + 3) lv st) : z_W C σ pc lv (.int (zi v) :: .ref (z_ad (z_g C) (8 * j)) :: st) := z_putf hx (z_lt0 (z_ok_sd hx) (by omega)) (fun f => [.ref (z_ad (z_g C) (8 * j + 1)), .int (zi (f 1)), .ref (z_ad (z_g C) (8 * j + 2)), .ref (z_ad (z_g C) (8 * j + 3)), .ref (z_ad (z_g C) (8 * j + 4)), .ref (z_ad (z_g C) (8 * j + 5)), .ref (z_ad (z_g C) (8 * j + 6)), .int (zi (f 7)), .ref (z_ad (z_g C) (8 * j + 7))]) (z_ka0 (z_ok_sd hx) hj) rfl z_inX2 tyX2 tyX2_ok nmX2 1 (by decide) hw rfl rfl rfl (fun _ => by simp) (fun f => by simp) rfl hd h kk
theorem gf_X2_kinds (hx : z_ok C cc own 0) {idx : Nat} (hw : Cond.fieldLink own idx RX2 "kinds" "[I" ∈ z_ws) {j : Nat} (hj : j < 6) (hd : decode cc pc = .ok (.getfield idx, 3)) (kk : z_W C σ (pc + 3) lv (.ref (z_ad (z_g C) (8 * j + 2)) :: st)) : z_W C σ pc lv (.ref (z_ad (z_g C) (8 * j)) :: st) := z_getf hx (z_lt0 (z_ok_sd hx) (by omega)) (z_ka0 (z_ok_sd hx) hj _) rfl z_inX2 2 (by decide) hw rfl rfl hd kk
theorem gf_X2_firsts (hx : z_ok C cc own 0) {idx : Nat} (hw : Cond.fieldLink own idx RX2 "firsts" "[I" ∈ z_ws) {j : Nat} (hj : j < 6) (hd : decode cc pc = .ok (.getfield idx, 3)) (kk : z_W C σ (pc + 3) lv (.ref (z_ad (z_g C) (8 * j + 3)) :: st)) : z_W C σ pc lv (.ref (z_ad (z_g C) (8 * j)) :: st) := z_getf hx (z_lt0 (z_ok_sd hx) (by omega)) (z_ka0 (z_ok_sd hx) hj _) rfl z_inX2 3 (by decide) hw rfl rfl hd kk
theorem gf_X2_ends (hx : z_ok C cc own 0) {idx : Nat} (hw : Cond.fieldLink own idx RX2 "ends" "[I" ∈ z_ws) {j : Nat} (hj : j < 6) (hd : decode cc pc = .ok (.getfield idx, 3)) (kk : z_W C σ (pc + 3) lv (.ref (z_ad (z_g C) (8 * j + 4)) :: st)) : z_W C σ pc lv (.ref (z_ad (z_g C) (8 * j)) :: st) := z_getf hx (z_lt0 (z_ok_sd hx) (by omega)) (z_ka0 (z_ok_sd hx) hj _) rfl z_inX2 4 (by decide) hw rfl rfl hd kk
theorem gf_X2_doubts (hx : z_ok C cc own 0) {idx : Nat} (hw : Cond.fieldLink own idx RX2 "doubts" "[I" ∈ z_ws) {j : Nat} (hj : j < 6) (hd : decode cc pc = .ok (.getfield idx, 3)) (kk : z_W C σ (pc + 3) lv (.ref (z_ad (z_g C) (8 * j + 5)) :: st)) : z_W C σ pc lv (.ref (z_ad (z_g C) (8 * j)) :: st) := z_getf hx (z_lt0 (z_ok_sd hx) (by omega)) (z_ka0 (z_ok_sd hx) hj _) rfl z_inX2 5 (by decide) hw rfl rfl hd kk
theorem gf_X2_held (hx : z_ok C cc own 0) {idx : Nat} (hw : Cond.fieldLink own idx RX2 "held" "[Z" ∈ z_ws) {j : Nat} (hj : j < 6) (hd : decode cc pc = .ok (.getfield idx, 3)) (kk : z_W C σ (pc + 3) lv (.ref (z_ad (z_g C) (8 * j + 6)) :: st)) : z_W C σ pc lv (.ref (z_ad (z_g C) (8 * j)) :: st) := z_getf hx (z_lt0 (z_ok_sd hx) (by omega)) (z_ka0 (z_ok_sd hx) hj _) rfl z_inX2 6 (by decide) hw rfl rfl hd kk
theorem gf_X2_marks (hx : z_ok C cc own 0) {idx : Nat} (hw : Cond.fieldLink own idx RX2 "marks" "I" ∈ z_ws) {j : Nat} (hj : j < 6) (hd : decode cc pc = .ok (.getfield idx, 3)) (kk : z_W C σ (pc + 3) lv (.int (zi (σ (8 * j) 7)) :: st)) : z_W C σ pc lv (.ref (z_ad (z_g C) (8 * j)) :: st) := z_getf hx (z_lt0 (z_ok_sd hx) (by omega)) (z_ka0 (z_ok_sd hx) hj _) rfl z_inX2 7 (by decide) hw rfl rfl hd kk
theorem pf_X2_marks (hx : z_ok C cc own 0) {idx : Nat} (hw : Cond.fieldLink own idx RX2 "marks" "I" ∈ z_ws) {j : Nat} (hj : j < 6) {v : Int} {K : zS → Option α} (hd : decode cc pc = .ok (.putfield idx, 3)) (h : z_put σ (8 * j) 7 v K = some r) (kk : ∀ σ1, K σ1 = some r → z_W C σ1 (pc + 3) lv st) : z_W C σ pc lv (.int (zi v) :: .ref (z_ad (z_g C) (8 * j)) :: st) := z_putf hx (z_lt0 (z_ok_sd hx) (by omega)) (fun f => [.ref (z_ad (z_g C) (8 * j + 1)), .int (zi (f 1)), .ref (z_ad (z_g C) (8 * j + 2)), .ref (z_ad (z_g C) (8 * j + 3)), .ref (z_ad (z_g C) (8 * j + 4)), .ref (z_ad (z_g C) (8 * j + 5)), .ref (z_ad (z_g C) (8 * j + 6)), .int (zi (f 7)), .ref (z_ad (z_g C) (8 * j + 7))]) (z_ka0 (z_ok_sd hx) hj) rfl z_inX2 tyX2 tyX2_ok nmX2 7 (by decide) hw rfl rfl rfl (fun _ => by simp) (fun f => by simp) rfl hd h kk
theorem gf_X2_settings (hx : z_ok C cc own 0) {idx : Nat} (hw : Cond.fieldLink own idx RX2 "settings" "[I" ∈ z_ws) {j : Nat} (hj : j < 6) (hd : decode cc pc = .ok (.getfield idx, 3)) (kk : z_W C σ (pc + 3) lv (.ref (z_ad (z_g C) (8 * j + 7)) :: st)) : z_W C σ pc lv (.ref (z_ad (z_g C) (8 * j)) :: st) := z_getf hx (z_lt0 (z_ok_sd hx) (by omega)) (z_ka0 (z_ok_sd hx) hj _) rfl z_inX2 8 (by decide) hw rfl rfl hd kk
theorem gf_X3_sources (hx : z_ok C cc own 0) {idx : Nat} (hw : Cond.fieldLink own idx RX3 "sources" "[I" ∈ z_ws) (hd : decode cc pc = .ok (.getfield idx, 3)) (kk : z_W C σ (pc + 3) lv (.ref (z_ad (z_g C) 55) :: st)) : z_W C σ pc lv (.ref (z_ad (z_g C) 54) :: st) := z_getf hx (z_lt0 (z_ok_sd hx) (by omega)) (z_kb54 (z_ok_sd hx) _) rfl z_inX3 0 (by decide) hw rfl rfl hd kk
theorem gf_X3_levels (hx : z_ok C cc own 0) {idx : Nat} (hw : Cond.fieldLink own idx RX3 "levels" "[I" ∈ z_ws) (hd : decode cc pc = .ok (.getfield idx, 3)) (kk : z_W C σ (pc + 3) lv (.ref (z_ad (z_g C) 56) :: st)) : z_W C σ pc lv (.ref (z_ad (z_g C) 54) :: st) := z_getf hx (z_lt0 (z_ok_sd hx) (by omega)) (z_kb54 (z_ok_sd hx) _) rfl z_inX3 1 (by decide) hw rfl rfl hd kk
theorem gf_X3_count (hx : z_ok C cc own 0) {idx : Nat} (hw : Cond.fieldLink own idx RX3 "count" "I" ∈ z_ws) (hd : decode cc pc = .ok (.getfield idx, 3)) (kk : z_W C σ (pc + 3) lv (.int (zi (σ 54 2)) :: st)) : z_W C σ pc lv (.ref (z_ad (z_g C) 54) :: st) := z_getf hx (z_lt0 (z_ok_sd hx) (by omega)) (z_kb54 (z_ok_sd hx) _) rfl z_inX3 2 (by decide) hw rfl rfl hd kk
theorem pf_X3_count (hx : z_ok C cc own 0) {idx : Nat} (hw : Cond.fieldLink own idx RX3 "count" "I" ∈ z_ws) {v : Int} {K : zS → Option α} (hd : decode cc pc = .ok (.putfield idx, 3)) (h : z_put σ 54 2 v K = some r) (kk : ∀ σ1, K σ1 = some r → z_W C σ1 (pc + 3) lv st) : z_W C σ pc lv (.int (zi v) :: .ref (z_ad (z_g C) 54) :: st) := z_putf hx (z_lt0 (z_ok_sd hx) (by omega)) (fun f => [.ref (z_ad (z_g C) 55), .ref (z_ad (z_g C) 56), .int (zi (f 2)), .ref (z_ad (z_g C) 57), .int (zi (f 4)), .int (zi (f 5)), .ref (z_ad (z_g C) 58)]) (z_kb54 (z_ok_sd hx)) rfl z_inX3 tyX3 tyX3_ok nmX3 2 (by decide) hw rfl rfl rfl (fun _ => by simp) (fun f => by simp) rfl hd h kk
theorem gf_X3_room (hx : z_ok C cc own 0) {idx : Nat} (hw : Cond.fieldLink own idx RX3 "room" "[I" ∈ z_ws) (hd : decode cc pc = .ok (.getfield idx, 3)) (kk : z_W C σ (pc + 3) lv (.ref (z_ad (z_g C) 57) :: st)) : z_W C σ pc lv (.ref (z_ad (z_g C) 54) :: st) := z_getf hx (z_lt0 (z_ok_sd hx) (by omega)) (z_kb54 (z_ok_sd hx) _) rfl z_inX3 3 (by decide) hw rfl rfl hd kk
theorem gf_X3_roomFrames (hx : z_ok C cc own 0) {idx : Nat} (hw : Cond.fieldLink own idx RX3 "roomFrames" "I" ∈ z_ws) (hd : decode cc pc = .ok (.getfield idx, 3)) (kk : z_W C σ (pc + 3) lv (.int (zi (σ 54 4)) :: st)) : z_W C σ pc lv (.ref (z_ad (z_g C) 54) :: st) := z_getf hx (z_lt0 (z_ok_sd hx) (by omega)) (z_kb54 (z_ok_sd hx) _) rfl z_inX3 4 (by decide) hw rfl rfl hd kk
theorem pf_X3_roomFrames (hx : z_ok C cc own 0) {idx : Nat} (hw : Cond.fieldLink own idx RX3 "roomFrames" "I" ∈ z_ws) {v : Int} {K : zS → Option α} (hd : decode cc pc = .ok (.putfield idx, 3)) (h : z_put σ 54 4 v K = some r) (kk : ∀ σ1, K σ1 = some r → z_W C σ1 (pc + 3) lv st) : z_W C σ pc lv (.int (zi v) :: .ref (z_ad (z_g C) 54) :: st) := z_putf hx (z_lt0 (z_ok_sd hx) (by omega)) (fun f => [.ref (z_ad (z_g C) 55), .ref (z_ad (z_g C) 56), .int (zi (f 2)), .ref (z_ad (z_g C) 57), .int (zi (f 4)), .int (zi (f 5)), .ref (z_ad (z_g C) 58)]) (z_kb54 (z_ok_sd hx)) rfl z_inX3 tyX3 tyX3_ok nmX3 4 (by decide) hw rfl rfl rfl (fun _ => by simp) (fun f => by simp) rfl hd h kk
theorem gf_X3_roomPlace (hx : z_ok C cc own 0) {idx : Nat} (hw : Cond.fieldLink own idx RX3 "roomPlace" "I" ∈ z_ws) (hd : decode cc pc = .ok (.getfield idx, 3)) (kk : z_W C σ (pc + 3) lv (.int (zi (σ 54 5)) :: st)) : z_W C σ pc lv (.ref (z_ad (z_g C) 54) :: st) := z_getf hx (z_lt0 (z_ok_sd hx) (by omega)) (z_kb54 (z_ok_sd hx) _) rfl z_inX3 5 (by decide) hw rfl rfl hd kk
theorem pf_X3_roomPlace (hx : z_ok C cc own 0) {idx : Nat} (hw : Cond.fieldLink own idx RX3 "roomPlace" "I" ∈ z_ws) {v : Int} {K : zS → Option α} (hd : decode cc pc = .ok (.putfield idx, 3)) (h : z_put σ 54 5 v K = some r) (kk : ∀ σ1, K σ1 = some r → z_W C σ1 (pc + 3) lv st) : z_W C σ pc lv (.int (zi v) :: .ref (z_ad (z_g C) 54) :: st) := z_putf hx (z_lt0 (z_ok_sd hx) (by omega)) (fun f => [.ref (z_ad (z_g C) 55), .ref (z_ad (z_g C) 56), .int (zi (f 2)), .ref (z_ad (z_g C) 57), .int (zi (f 4)), .int (zi (f 5)), .ref (z_ad (z_g C) 58)]) (z_kb54 (z_ok_sd hx)) rfl z_inX3 tyX3 tyX3_ok nmX3 5 (by decide) hw rfl rfl rfl (fun _ => by simp) (fun f => by simp) rfl hd h kk
theorem gf_X3_noisy (hx : z_ok C cc own 0) {idx : Nat} (hw : Cond.fieldLink own idx RX3 "noisy" "[Z" ∈ z_ws) (hd : decode cc pc = .ok (.getfield idx, 3)) (kk : z_W C σ (pc + 3) lv (.ref (z_ad (z_g C) 58) :: st)) : z_W C σ pc lv (.ref (z_ad (z_g C) 54) :: st) := z_getf hx (z_lt0 (z_ok_sd hx) (by omega)) (z_kb54 (z_ok_sd hx) _) rfl z_inX3 6 (by decide) hw rfl rfl hd kk
theorem gf_X4_draft (hx : z_ok C cc own 0) {idx : Nat} (hw : Cond.fieldLink own idx RX4 "draft" "LSpeechCleaner$Recording;" ∈ z_ws) (hd : decode cc pc = .ok (.getfield idx, 3)) (kk : z_W C σ (pc + 3) lv (.ref (z_ad (z_g C) (8 * 5)) :: st)) : z_W C σ pc lv (.ref (z_ad (z_g C) 59) :: st) := z_getf hx (z_lt0 (z_ok_sd hx) (by omega)) (z_kb59 (z_ok_sd hx) _) rfl z_inX4 0 (by decide) hw rfl rfl hd kk
theorem gf_X4_stage (hx : z_ok C cc own 0) {idx : Nat} (hw : Cond.fieldLink own idx RX4 "stage" "I" ∈ z_ws) (hd : decode cc pc = .ok (.getfield idx, 3)) (kk : z_W C σ (pc + 3) lv (.int (zi (σ 59 1)) :: st)) : z_W C σ pc lv (.ref (z_ad (z_g C) 59) :: st) := z_getf hx (z_lt0 (z_ok_sd hx) (by omega)) (z_kb59 (z_ok_sd hx) _) rfl z_inX4 1 (by decide) hw rfl rfl hd kk
theorem pf_X4_stage (hx : z_ok C cc own 0) {idx : Nat} (hw : Cond.fieldLink own idx RX4 "stage" "I" ∈ z_ws) {v : Int} {K : zS → Option α} (hd : decode cc pc = .ok (.putfield idx, 3)) (h : z_put σ 59 1 v K = some r) (kk : ∀ σ1, K σ1 = some r → z_W C σ1 (pc + 3) lv st) : z_W C σ pc lv (.int (zi v) :: .ref (z_ad (z_g C) 59) :: st) := z_putf hx (z_lt0 (z_ok_sd hx) (by omega)) (fun f => [.ref (z_ad (z_g C) (8 * 5)), .int (zi (f 1)), .int (zi (f 2)), .int (zi (f 3)), .int (zi (f 4)), .int (zi (f 5)), .int (zi (f 6))]) (z_kb59 (z_ok_sd hx)) rfl z_inX4 tyX4 tyX4_ok nmX4 1 (by decide) hw rfl rfl rfl (fun _ => by simp) (fun f => by simp) rfl hd h kk
theorem gf_X4_kind (hx : z_ok C cc own 0) {idx : Nat} (hw : Cond.fieldLink own idx RX4 "kind" "I" ∈ z_ws) (hd : decode cc pc = .ok (.getfield idx, 3)) (kk : z_W C σ (pc + 3) lv (.int (zi (σ 59 2)) :: st)) : z_W C σ pc lv (.ref (z_ad (z_g C) 59) :: st) := z_getf hx (z_lt0 (z_ok_sd hx) (by omega)) (z_kb59 (z_ok_sd hx) _) rfl z_inX4 2 (by decide) hw rfl rfl hd kk
theorem pf_X4_kind (hx : z_ok C cc own 0) {idx : Nat} (hw : Cond.fieldLink own idx RX4 "kind" "I" ∈ z_ws) {v : Int} {K : zS → Option α} (hd : decode cc pc = .ok (.putfield idx, 3)) (h : z_put σ 59 2 v K = some r) (kk : ∀ σ1, K σ1 = some r → z_W C σ1 (pc + 3) lv st) : z_W C σ pc lv (.int (zi v) :: .ref (z_ad (z_g C) 59) :: st) := z_putf hx (z_lt0 (z_ok_sd hx) (by omega)) (fun f => [.ref (z_ad (z_g C) (8 * 5)), .int (zi (f 1)), .int (zi (f 2)), .int (zi (f 3)), .int (zi (f 4)), .int (zi (f 5)), .int (zi (f 6))]) (z_kb59 (z_ok_sd hx)) rfl z_inX4 tyX4 tyX4_ok nmX4 2 (by decide) hw rfl rfl rfl (fun _ => by simp) (fun f => by simp) rfl hd h kk
theorem gf_X4_first (hx : z_ok C cc own 0) {idx : Nat} (hw : Cond.fieldLink own idx RX4 "first" "I" ∈ z_ws) (hd : decode cc pc = .ok (.getfield idx, 3)) (kk : z_W C σ (pc + 3) lv (.int (zi (σ 59 3)) :: st)) : z_W C σ pc lv (.ref (z_ad (z_g C) 59) :: st) := z_getf hx (z_lt0 (z_ok_sd hx) (by omega)) (z_kb59 (z_ok_sd hx) _) rfl z_inX4 3 (by decide) hw rfl rfl hd kk
theorem pf_X4_first (hx : z_ok C cc own 0) {idx : Nat} (hw : Cond.fieldLink own idx RX4 "first" "I" ∈ z_ws) {v : Int} {K : zS → Option α} (hd : decode cc pc = .ok (.putfield idx, 3)) (h : z_put σ 59 3 v K = some r) (kk : ∀ σ1, K σ1 = some r → z_W C σ1 (pc + 3) lv st) : z_W C σ pc lv (.int (zi v) :: .ref (z_ad (z_g C) 59) :: st) := z_putf hx (z_lt0 (z_ok_sd hx) (by omega)) (fun f => [.ref (z_ad (z_g C) (8 * 5)), .int (zi (f 1)), .int (zi (f 2)), .int (zi (f 3)), .int (zi (f 4)), .int (zi (f 5)), .int (zi (f 6))]) (z_kb59 (z_ok_sd hx)) rfl z_inX4 tyX4 tyX4_ok nmX4 3 (by decide) hw rfl rfl rfl (fun _ => by simp) (fun f => by simp) rfl hd h kk
theorem gf_X4_doubt (hx : z_ok C cc own 0) {idx : Nat} (hw : Cond.fieldLink own idx RX4 "doubt" "I" ∈ z_ws) (hd : decode cc pc = .ok (.getfield idx, 3)) (kk : z_W C σ (pc + 3) lv (.int (zi (σ 59 4)) :: st)) : z_W C σ pc lv (.ref (z_ad (z_g C) 59) :: st) := z_getf hx (z_lt0 (z_ok_sd hx) (by omega)) (z_kb59 (z_ok_sd hx) _) rfl z_inX4 4 (by decide) hw rfl rfl hd kk
theorem pf_X4_doubt (hx : z_ok C cc own 0) {idx : Nat} (hw : Cond.fieldLink own idx RX4 "doubt" "I" ∈ z_ws) {v : Int} {K : zS → Option α} (hd : decode cc pc = .ok (.putfield idx, 3)) (h : z_put σ 59 4 v K = some r) (kk : ∀ σ1, K σ1 = some r → z_W C σ1 (pc + 3) lv st) : z_W C σ pc lv (.int (zi v) :: .ref (z_ad (z_g C) 59) :: st) := z_putf hx (z_lt0 (z_ok_sd hx) (by omega)) (fun f => [.ref (z_ad (z_g C) (8 * 5)), .int (zi (f 1)), .int (zi (f 2)), .int (zi (f 3)), .int (zi (f 4)), .int (zi (f 5)), .int (zi (f 6))]) (z_kb59 (z_ok_sd hx)) rfl z_inX4 tyX4 tyX4_ok nmX4 4 (by decide) hw rfl rfl rfl (fun _ => by simp) (fun f => by simp) rfl hd h kk
theorem gf_X4_doubtDigits (hx : z_ok C cc own 0) {idx : Nat} (hw : Cond.fieldLink own idx RX4 "doubtDigits" "I" ∈ z_ws) (hd : decode cc pc = .ok (.getfield idx, 3)) (kk : z_W C σ (pc + 3) lv (.int (zi (σ 59 5)) :: st)) : z_W C σ pc lv (.ref (z_ad (z_g C) 59) :: st) := z_getf hx (z_lt0 (z_ok_sd hx) (by omega)) (z_kb59 (z_ok_sd hx) _) rfl z_inX4 5 (by decide) hw rfl rfl hd kk
theorem pf_X4_doubtDigits (hx : z_ok C cc own 0) {idx : Nat} (hw : Cond.fieldLink own idx RX4 "doubtDigits" "I" ∈ z_ws) {v : Int} {K : zS → Option α} (hd : decode cc pc = .ok (.putfield idx, 3)) (h : z_put σ 59 5 v K = some r) (kk : ∀ σ1, K σ1 = some r → z_W C σ1 (pc + 3) lv st) : z_W C σ pc lv (.int (zi v) :: .ref (z_ad (z_g C) 59) :: st) := z_putf hx (z_lt0 (z_ok_sd hx) (by omega)) (fun f => [.ref (z_ad (z_g C) (8 * 5)), .int (zi (f 1)), .int (zi (f 2)), .int (zi (f 3)), .int (zi (f 4)), .int (zi (f 5)), .int (zi (f 6))]) (z_kb59 (z_ok_sd hx)) rfl z_inX4 tyX4 tyX4_ok nmX4 5 (by decide) hw rfl rfl rfl (fun _ => by simp) (fun f => by simp) rfl hd h kk
theorem gf_X4_wrongDoubtPlace (hx : z_ok C cc own 0) {idx : Nat} (hw : Cond.fieldLink own idx RX4 "wrongDoubtPlace" "I" ∈ z_ws) (hd : decode cc pc = .ok (.getfield idx, 3)) (kk : z_W C σ (pc + 3) lv (.int (zi (σ 59 6)) :: st)) : z_W C σ pc lv (.ref (z_ad (z_g C) 59) :: st) := z_getf hx (z_lt0 (z_ok_sd hx) (by omega)) (z_kb59 (z_ok_sd hx) _) rfl z_inX4 6 (by decide) hw rfl rfl hd kk
theorem pf_X4_wrongDoubtPlace (hx : z_ok C cc own 0) {idx : Nat} (hw : Cond.fieldLink own idx RX4 "wrongDoubtPlace" "I" ∈ z_ws) {v : Int} {K : zS → Option α} (hd : decode cc pc = .ok (.putfield idx, 3)) (h : z_put σ 59 6 v K = some r) (kk : ∀ σ1, K σ1 = some r → z_W C σ1 (pc + 3) lv st) : z_W C σ pc lv (.int (zi v) :: .ref (z_ad (z_g C) 59) :: st) := z_putf hx (z_lt0 (z_ok_sd hx) (by omega)) (fun f => [.ref (z_ad (z_g C) (8 * 5)), .int (zi (f 1)), .int (zi (f 2)), .int (zi (f 3)), .int (zi (f 4)), .int (zi (f 5)), .int (zi (f 6))]) (z_kb59 (z_ok_sd hx)) rfl z_inX4 tyX4 tyX4_ok nmX4 6 (by decide) hw rfl rfl rfl (fun _ => by simp) (fun f => by simp) rfl hd h kk
theorem gf_X5_buffer (hx : z_ok C cc own 0) {idx : Nat} (hw : Cond.fieldLink own idx RX5 "buffer" "[I" ∈ z_ws) (hd : decode cc pc = .ok (.getfield idx, 3)) (kk : z_W C σ (pc + 3) lv (.ref (z_ad (z_g C) 63) :: st)) : z_W C σ pc lv (.ref (z_ad (z_g C) 62) :: st) := z_getf hx (z_lt0 (z_ok_sd hx) (by omega)) (z_kb62 (z_ok_sd hx) _) rfl z_inX5 0 (by decide) hw rfl rfl hd kk
theorem gf_X5_characters (hx : z_ok C cc own 0) {idx : Nat} (hw : Cond.fieldLink own idx RX5 "characters" "I" ∈ z_ws) (hd : decode cc pc = .ok (.getfield idx, 3)) (kk : z_W C σ (pc + 3) lv (.int (zi (σ 62 1)) :: st)) : z_W C σ pc lv (.ref (z_ad (z_g C) 62) :: st) := z_getf hx (z_lt0 (z_ok_sd hx) (by omega)) (z_kb62 (z_ok_sd hx) _) rfl z_inX5 1 (by decide) hw rfl rfl hd kk
theorem pf_X5_characters (hx : z_ok C cc own 0) {idx : Nat} (hw : Cond.fieldLink own idx RX5 "characters" "I" ∈ z_ws) {v : Int} {K : zS → Option α} (hd : decode cc pc = .ok (.putfield idx, 3)) (h : z_put σ 62 1 v K = some r) (kk : ∀ σ1, K σ1 = some r → z_W C σ1 (pc + 3) lv st) : z_W C σ pc lv (.int (zi v) :: .ref (z_ad (z_g C) 62) :: st) := z_putf hx (z_lt0 (z_ok_sd hx) (by omega)) (fun f => [.ref (z_ad (z_g C) 63), .int (zi (f 1)), .ref (z_ad (z_g C) (8 * 0)), .ref (z_ad (z_g C) 60), .ref (z_ad (z_g C) 59), .ref (z_ad (z_g C) 48), .ref (z_ad (z_g C) 54)]) (z_kb62 (z_ok_sd hx)) rfl z_inX5 tyX5 tyX5_ok nmX5 1 (by decide) hw rfl rfl rfl (fun _ => by simp) (fun f => by simp) rfl hd h kk
theorem gf_X5_recording (hx : z_ok C cc own 0) {idx : Nat} (hw : Cond.fieldLink own idx RX5 "recording" "LSpeechCleaner$Recording;" ∈ z_ws) (hd : decode cc pc = .ok (.getfield idx, 3)) (kk : z_W C σ (pc + 3) lv (.ref (z_ad (z_g C) (8 * 0)) :: st)) : z_W C σ pc lv (.ref (z_ad (z_g C) 62) :: st) := z_getf hx (z_lt0 (z_ok_sd hx) (by omega)) (z_kb62 (z_ok_sd hx) _) rfl z_inX5 2 (by decide) hw rfl rfl hd kk
theorem gf_X5_history (hx : z_ok C cc own 0) {idx : Nat} (hw : Cond.fieldLink own idx RX5 "history" "LSpeechCleaner$History;" ∈ z_ws) (hd : decode cc pc = .ok (.getfield idx, 3)) (kk : z_W C σ (pc + 3) lv (.ref (z_ad (z_g C) 60) :: st)) : z_W C σ pc lv (.ref (z_ad (z_g C) 62) :: st) := z_getf hx (z_lt0 (z_ok_sd hx) (by omega)) (z_kb62 (z_ok_sd hx) _) rfl z_inX5 3 (by decide) hw rfl rfl hd kk
theorem gf_X5_reader (hx : z_ok C cc own 0) {idx : Nat} (hw : Cond.fieldLink own idx RX5 "reader" "LSpeechCleaner$TextReader;" ∈ z_ws) (hd : decode cc pc = .ok (.getfield idx, 3)) (kk : z_W C σ (pc + 3) lv (.ref (z_ad (z_g C) 59) :: st)) : z_W C σ pc lv (.ref (z_ad (z_g C) 62) :: st) := z_getf hx (z_lt0 (z_ok_sd hx) (by omega)) (z_kb62 (z_ok_sd hx) _) rfl z_inX5 4 (by decide) hw rfl rfl hd kk
theorem gf_X5_cutList (hx : z_ok C cc own 0) {idx : Nat} (hw : Cond.fieldLink own idx RX5 "cutList" "LSpeechCleaner$CutList;" ∈ z_ws) (hd : decode cc pc = .ok (.getfield idx, 3)) (kk : z_W C σ (pc + 3) lv (.ref (z_ad (z_g C) 48) :: st)) : z_W C σ pc lv (.ref (z_ad (z_g C) 62) :: st) := z_getf hx (z_lt0 (z_ok_sd hx) (by omega)) (z_kb62 (z_ok_sd hx) _) rfl z_inX5 5 (by decide) hw rfl rfl hd kk
theorem gf_X5_result (hx : z_ok C cc own 0) {idx : Nat} (hw : Cond.fieldLink own idx RX5 "result" "LSpeechCleaner$Result;" ∈ z_ws) (hd : decode cc pc = .ok (.getfield idx, 3)) (kk : z_W C σ (pc + 3) lv (.ref (z_ad (z_g C) 54) :: st)) : z_W C σ pc lv (.ref (z_ad (z_g C) 62) :: st) := z_getf hx (z_lt0 (z_ok_sd hx) (by omega)) (z_kb62 (z_ok_sd hx) _) rfl z_inX5 6 (by decide) hw rfl rfl hd kk
theorem gf_X6_v (hx : z_ok C cc own 1) {idx : Nat} (hw : Cond.fieldLink own idx RX6 "v" "[I" ∈ z_ws) (hd : decode cc pc = .ok (.getfield idx, 3)) (kk : z_W C σ (pc + 3) lv (.ref (z_ad (z_g C) 1) :: st)) : z_W C σ pc lv (.ref (z_ad (z_g C) 0) :: st) := z_getf hx (z_lt1 (z_ok_sd hx) (by omega)) (z_kc0 (z_ok_sd hx) _) rfl z_inX6 0 (by decide) hw rfl rfl hd kk
theorem gf_X6_past (hx : z_ok C cc own 1) {idx : Nat} (hw : Cond.fieldLink own idx RX6 "past" "[I" ∈ z_ws) (hd : decode cc pc = .ok (.getfield idx, 3)) (kk : z_W C σ (pc + 3) lv (.ref (z_ad (z_g C) 2) :: st)) : z_W C σ pc lv (.ref (z_ad (z_g C) 0) :: st) := z_getf hx (z_lt1 (z_ok_sd hx) (by omega)) (z_kc0 (z_ok_sd hx) _) rfl z_inX6 1 (by decide) hw rfl rfl hd kk
theorem gf_X6_pastMany (hx : z_ok C cc own 1) {idx : Nat} (hw : Cond.fieldLink own idx RX6 "pastMany" "I" ∈ z_ws) (hd : decode cc pc = .ok (.getfield idx, 3)) (kk : z_W C σ (pc + 3) lv (.int (zi (σ 0 2)) :: st)) : z_W C σ pc lv (.ref (z_ad (z_g C) 0) :: st) := z_getf hx (z_lt1 (z_ok_sd hx) (by omega)) (z_kc0 (z_ok_sd hx) _) rfl z_inX6 2 (by decide) hw rfl rfl hd kk
theorem pf_X6_pastMany (hx : z_ok C cc own 1) {idx : Nat} (hw : Cond.fieldLink own idx RX6 "pastMany" "I" ∈ z_ws) {v : Int} {K : zS → Option α} (hd : decode cc pc = .ok (.putfield idx, 3)) (h : z_put σ 0 2 v K = some r) (kk : ∀ σ1, K σ1 = some r → z_W C σ1 (pc + 3) lv st) : z_W C σ pc lv (.int (zi v) :: .ref (z_ad (z_g C) 0) :: st) := z_putf hx (z_lt1 (z_ok_sd hx) (by omega)) (fun f => [.ref (z_ad (z_g C) 1), .ref (z_ad (z_g C) 2), .int (zi (f 2)), .ref (z_ad (z_g C) 3), .int (zi (f 4)), .int (zi (f 5)), .int (zi (f 6)), .int (zi (f 7)), .int (zi (f 8)), .ref (z_ad (z_g C) 4), .ref (z_ad (z_g C) 5), .ref (z_ad (z_g C) 6), .int (zi (f 12)), .ref (z_ad (z_g C) 7), .ref (z_ad (z_g C) 8), .int (zi (f 15)), .ref (z_ad (z_g C) 9), .int (zi (f 17)), .int (zi (f 18))]) (z_kc0 (z_ok_sd hx)) rfl z_inX6 tyX6 tyX6_ok nmX6 2 (by decide) hw rfl rfl rfl (fun _ => by simp) (fun f => by simp) rfl hd h kk
theorem gf_X6_text (hx : z_ok C cc own 1) {idx : Nat} (hw : Cond.fieldLink own idx RX6 "text" "[I" ∈ z_ws) (hd : decode cc pc = .ok (.getfield idx, 3)) (kk : z_W C σ (pc + 3) lv (.ref (z_ad (z_g C) 3) :: st)) : z_W C σ pc lv (.ref (z_ad (z_g C) 0) :: st) := z_getf hx (z_lt1 (z_ok_sd hx) (by omega)) (z_kc0 (z_ok_sd hx) _) rfl z_inX6 3 (by decide) hw rfl rfl hd kk
theorem gf_X6_typed (hx : z_ok C cc own 1) {idx : Nat} (hw : Cond.fieldLink own idx RX6 "typed" "I" ∈ z_ws) (hd : decode cc pc = .ok (.getfield idx, 3)) (kk : z_W C σ (pc + 3) lv (.int (zi (σ 0 4)) :: st)) : z_W C σ pc lv (.ref (z_ad (z_g C) 0) :: st) := z_getf hx (z_lt1 (z_ok_sd hx) (by omega)) (z_kc0 (z_ok_sd hx) _) rfl z_inX6 4 (by decide) hw rfl rfl hd kk
theorem pf_X6_typed (hx : z_ok C cc own 1) {idx : Nat} (hw : Cond.fieldLink own idx RX6 "typed" "I" ∈ z_ws) {v : Int} {K : zS → Option α} (hd : decode cc pc = .ok (.putfield idx, 3)) (h : z_put σ 0 4 v K = some r) (kk : ∀ σ1, K σ1 = some r → z_W C σ1 (pc + 3) lv st) : z_W C σ pc lv (.int (zi v) :: .ref (z_ad (z_g C) 0) :: st) := z_putf hx (z_lt1 (z_ok_sd hx) (by omega)) (fun f => [.ref (z_ad (z_g C) 1), .ref (z_ad (z_g C) 2), .int (zi (f 2)), .ref (z_ad (z_g C) 3), .int (zi (f 4)), .int (zi (f 5)), .int (zi (f 6)), .int (zi (f 7)), .int (zi (f 8)), .ref (z_ad (z_g C) 4), .ref (z_ad (z_g C) 5), .ref (z_ad (z_g C) 6), .int (zi (f 12)), .ref (z_ad (z_g C) 7), .ref (z_ad (z_g C) 8), .int (zi (f 15)), .ref (z_ad (z_g C) 9), .int (zi (f 17)), .int (zi (f 18))]) (z_kc0 (z_ok_sd hx)) rfl z_inX6 tyX6 tyX6_ok nmX6 4 (by decide) hw rfl rfl rfl (fun _ => by simp) (fun f => by simp) rfl hd h kk
theorem gf_X6_at (hx : z_ok C cc own 1) {idx : Nat} (hw : Cond.fieldLink own idx RX6 "at" "I" ∈ z_ws) (hd : decode cc pc = .ok (.getfield idx, 3)) (kk : z_W C σ (pc + 3) lv (.int (zi (σ 0 5)) :: st)) : z_W C σ pc lv (.ref (z_ad (z_g C) 0) :: st) := z_getf hx (z_lt1 (z_ok_sd hx) (by omega)) (z_kc0 (z_ok_sd hx) _) rfl z_inX6 5 (by decide) hw rfl rfl hd kk
theorem pf_X6_at (hx : z_ok C cc own 1) {idx : Nat} (hw : Cond.fieldLink own idx RX6 "at" "I" ∈ z_ws) {v : Int} {K : zS → Option α} (hd : decode cc pc = .ok (.putfield idx, 3)) (h : z_put σ 0 5 v K = some r) (kk : ∀ σ1, K σ1 = some r → z_W C σ1 (pc + 3) lv st) : z_W C σ pc lv (.int (zi v) :: .ref (z_ad (z_g C) 0) :: st) := z_putf hx (z_lt1 (z_ok_sd hx) (by omega)) (fun f => [.ref (z_ad (z_g C) 1), .ref (z_ad (z_g C) 2), .int (zi (f 2)), .ref (z_ad (z_g C) 3), .int (zi (f 4)), .int (zi (f 5)), .int (zi (f 6)), .int (zi (f 7)), .int (zi (f 8)), .ref (z_ad (z_g C) 4), .ref (z_ad (z_g C) 5), .ref (z_ad (z_g C) 6), .int (zi (f 12)), .ref (z_ad (z_g C) 7), .ref (z_ad (z_g C) 8), .int (zi (f 15)), .ref (z_ad (z_g C) 9), .int (zi (f 17)), .int (zi (f 18))]) (z_kc0 (z_ok_sd hx)) rfl z_inX6 tyX6 tyX6_ok nmX6 5 (by decide) hw rfl rfl rfl (fun _ => by simp) (fun f => by simp) rfl hd h kk
theorem gf_X6_wrong (hx : z_ok C cc own 1) {idx : Nat} (hw : Cond.fieldLink own idx RX6 "wrong" "I" ∈ z_ws) (hd : decode cc pc = .ok (.getfield idx, 3)) (kk : z_W C σ (pc + 3) lv (.int (zi (σ 0 6)) :: st)) : z_W C σ pc lv (.ref (z_ad (z_g C) 0) :: st) := z_getf hx (z_lt1 (z_ok_sd hx) (by omega)) (z_kc0 (z_ok_sd hx) _) rfl z_inX6 6 (by decide) hw rfl rfl hd kk
theorem pf_X6_wrong (hx : z_ok C cc own 1) {idx : Nat} (hw : Cond.fieldLink own idx RX6 "wrong" "I" ∈ z_ws) {v : Int} {K : zS → Option α} (hd : decode cc pc = .ok (.putfield idx, 3)) (h : z_put σ 0 6 v K = some r) (kk : ∀ σ1, K σ1 = some r → z_W C σ1 (pc + 3) lv st) : z_W C σ pc lv (.int (zi v) :: .ref (z_ad (z_g C) 0) :: st) := z_putf hx (z_lt1 (z_ok_sd hx) (by omega)) (fun f => [.ref (z_ad (z_g C) 1), .ref (z_ad (z_g C) 2), .int (zi (f 2)), .ref (z_ad (z_g C) 3), .int (zi (f 4)), .int (zi (f 5)), .int (zi (f 6)), .int (zi (f 7)), .int (zi (f 8)), .ref (z_ad (z_g C) 4), .ref (z_ad (z_g C) 5), .ref (z_ad (z_g C) 6), .int (zi (f 12)), .ref (z_ad (z_g C) 7), .ref (z_ad (z_g C) 8), .int (zi (f 15)), .ref (z_ad (z_g C) 9), .int (zi (f 17)), .int (zi (f 18))]) (z_kc0 (z_ok_sd hx)) rfl z_inX6 tyX6 tyX6_ok nmX6 6 (by decide) hw rfl rfl rfl (fun _ => by simp) (fun f => by simp) rfl hd h kk
theorem gf_X6_frameMany (hx : z_ok C cc own 1) {idx : Nat} (hw : Cond.fieldLink own idx RX6 "frameMany" "I" ∈ z_ws) (hd : decode cc pc = .ok (.getfield idx, 3)) (kk : z_W C σ (pc + 3) lv (.int (zi (σ 0 7)) :: st)) : z_W C σ pc lv (.ref (z_ad (z_g C) 0) :: st) := z_getf hx (z_lt1 (z_ok_sd hx) (by omega)) (z_kc0 (z_ok_sd hx) _) rfl z_inX6 7 (by decide) hw rfl rfl hd kk
theorem pf_X6_frameMany (hx : z_ok C cc own 1) {idx : Nat} (hw : Cond.fieldLink own idx RX6 "frameMany" "I" ∈ z_ws) {v : Int} {K : zS → Option α} (hd : decode cc pc = .ok (.putfield idx, 3)) (h : z_put σ 0 7 v K = some r) (kk : ∀ σ1, K σ1 = some r → z_W C σ1 (pc + 3) lv st) : z_W C σ pc lv (.int (zi v) :: .ref (z_ad (z_g C) 0) :: st) := z_putf hx (z_lt1 (z_ok_sd hx) (by omega)) (fun f => [.ref (z_ad (z_g C) 1), .ref (z_ad (z_g C) 2), .int (zi (f 2)), .ref (z_ad (z_g C) 3), .int (zi (f 4)), .int (zi (f 5)), .int (zi (f 6)), .int (zi (f 7)), .int (zi (f 8)), .ref (z_ad (z_g C) 4), .ref (z_ad (z_g C) 5), .ref (z_ad (z_g C) 6), .int (zi (f 12)), .ref (z_ad (z_g C) 7), .ref (z_ad (z_g C) 8), .int (zi (f 15)), .ref (z_ad (z_g C) 9), .int (zi (f 17)), .int (zi (f 18))]) (z_kc0 (z_ok_sd hx)) rfl z_inX6 tyX6 tyX6_ok nmX6 7 (by decide) hw rfl rfl rfl (fun _ => by simp) (fun f => by simp) rfl hd h kk
theorem gf_X6_markMany (hx : z_ok C cc own 1) {idx : Nat} (hw : Cond.fieldLink own idx RX6 "markMany" "I" ∈ z_ws) (hd : decode cc pc = .ok (.getfield idx, 3)) (kk : z_W C σ (pc + 3) lv (.int (zi (σ 0 8)) :: st)) : z_W C σ pc lv (.ref (z_ad (z_g C) 0) :: st) := z_getf hx (z_lt1 (z_ok_sd hx) (by omega)) (z_kc0 (z_ok_sd hx) _) rfl z_inX6 8 (by decide) hw rfl rfl hd kk
theorem pf_X6_markMany (hx : z_ok C cc own 1) {idx : Nat} (hw : Cond.fieldLink own idx RX6 "markMany" "I" ∈ z_ws) {v : Int} {K : zS → Option α} (hd : decode cc pc = .ok (.putfield idx, 3)) (h : z_put σ 0 8 v K = some r) (kk : ∀ σ1, K σ1 = some r → z_W C σ1 (pc + 3) lv st) : z_W C σ pc lv (.int (zi v) :: .ref (z_ad (z_g C) 0) :: st) := z_putf hx (z_lt1 (z_ok_sd hx) (by omega)) (fun f => [.ref (z_ad (z_g C) 1), .ref (z_ad (z_g C) 2), .int (zi (f 2)), .ref (z_ad (z_g C) 3), .int (zi (f 4)), .int (zi (f 5)), .int (zi (f 6)), .int (zi (f 7)), .int (zi (f 8)), .ref (z_ad (z_g C) 4), .ref (z_ad (z_g C) 5), .ref (z_ad (z_g C) 6), .int (zi (f 12)), .ref (z_ad (z_g C) 7), .ref (z_ad (z_g C) 8), .int (zi (f 15)), .ref (z_ad (z_g C) 9), .int (zi (f 17)), .int (zi (f 18))]) (z_kc0 (z_ok_sd hx)) rfl z_inX6 tyX6 tyX6_ok nmX6 8 (by decide) hw rfl rfl rfl (fun _ => by simp) (fun f => by simp) rfl hd h kk
theorem gf_X6_levels (hx : z_ok C cc own 1) {idx : Nat} (hw : Cond.fieldLink own idx RX6 "levels" "[I" ∈ z_ws) (hd : decode cc pc = .ok (.getfield idx, 3)) (kk : z_W C σ (pc + 3) lv (.ref (z_ad (z_g C) 4) :: st)) : z_W C σ pc lv (.ref (z_ad (z_g C) 0) :: st) := z_getf hx (z_lt1 (z_ok_sd hx) (by omega)) (z_kc0 (z_ok_sd hx) _) rfl z_inX6 9 (by decide) hw rfl rfl hd kk
theorem gf_X6_marks (hx : z_ok C cc own 1) {idx : Nat} (hw : Cond.fieldLink own idx RX6 "marks" "[I" ∈ z_ws) (hd : decode cc pc = .ok (.getfield idx, 3)) (kk : z_W C σ (pc + 3) lv (.ref (z_ad (z_g C) 5) :: st)) : z_W C σ pc lv (.ref (z_ad (z_g C) 0) :: st) := z_getf hx (z_lt1 (z_ok_sd hx) (by omega)) (z_kc0 (z_ok_sd hx) _) rfl z_inX6 10 (by decide) hw rfl rfl hd kk
theorem gf_X6_cut (hx : z_ok C cc own 1) {idx : Nat} (hw : Cond.fieldLink own idx RX6 "cut" "[I" ∈ z_ws) (hd : decode cc pc = .ok (.getfield idx, 3)) (kk : z_W C σ (pc + 3) lv (.ref (z_ad (z_g C) 6) :: st)) : z_W C σ pc lv (.ref (z_ad (z_g C) 0) :: st) := z_getf hx (z_lt1 (z_ok_sd hx) (by omega)) (z_kc0 (z_ok_sd hx) _) rfl z_inX6 11 (by decide) hw rfl rfl hd kk
theorem gf_X6_cutMany (hx : z_ok C cc own 1) {idx : Nat} (hw : Cond.fieldLink own idx RX6 "cutMany" "I" ∈ z_ws) (hd : decode cc pc = .ok (.getfield idx, 3)) (kk : z_W C σ (pc + 3) lv (.int (zi (σ 0 12)) :: st)) : z_W C σ pc lv (.ref (z_ad (z_g C) 0) :: st) := z_getf hx (z_lt1 (z_ok_sd hx) (by omega)) (z_kc0 (z_ok_sd hx) _) rfl z_inX6 12 (by decide) hw rfl rfl hd kk
theorem pf_X6_cutMany (hx : z_ok C cc own 1) {idx : Nat} (hw : Cond.fieldLink own idx RX6 "cutMany" "I" ∈ z_ws) {v : Int} {K : zS → Option α} (hd : decode cc pc = .ok (.putfield idx, 3)) (h : z_put σ 0 12 v K = some r) (kk : ∀ σ1, K σ1 = some r → z_W C σ1 (pc + 3) lv st) : z_W C σ pc lv (.int (zi v) :: .ref (z_ad (z_g C) 0) :: st) := z_putf hx (z_lt1 (z_ok_sd hx) (by omega)) (fun f => [.ref (z_ad (z_g C) 1), .ref (z_ad (z_g C) 2), .int (zi (f 2)), .ref (z_ad (z_g C) 3), .int (zi (f 4)), .int (zi (f 5)), .int (zi (f 6)), .int (zi (f 7)), .int (zi (f 8)), .ref (z_ad (z_g C) 4), .ref (z_ad (z_g C) 5), .ref (z_ad (z_g C) 6), .int (zi (f 12)), .ref (z_ad (z_g C) 7), .ref (z_ad (z_g C) 8), .int (zi (f 15)), .ref (z_ad (z_g C) 9), .int (zi (f 17)), .int (zi (f 18))]) (z_kc0 (z_ok_sd hx)) rfl z_inX6 tyX6 tyX6_ok nmX6 12 (by decide) hw rfl rfl rfl (fun _ => by simp) (fun f => by simp) rfl hd h kk
theorem gf_X6_source (hx : z_ok C cc own 1) {idx : Nat} (hw : Cond.fieldLink own idx RX6 "source" "[I" ∈ z_ws) (hd : decode cc pc = .ok (.getfield idx, 3)) (kk : z_W C σ (pc + 3) lv (.ref (z_ad (z_g C) 7) :: st)) : z_W C σ pc lv (.ref (z_ad (z_g C) 0) :: st) := z_getf hx (z_lt1 (z_ok_sd hx) (by omega)) (z_kc0 (z_ok_sd hx) _) rfl z_inX6 13 (by decide) hw rfl rfl hd kk
theorem gf_X6_heardLevel (hx : z_ok C cc own 1) {idx : Nat} (hw : Cond.fieldLink own idx RX6 "heardLevel" "[I" ∈ z_ws) (hd : decode cc pc = .ok (.getfield idx, 3)) (kk : z_W C σ (pc + 3) lv (.ref (z_ad (z_g C) 8) :: st)) : z_W C σ pc lv (.ref (z_ad (z_g C) 0) :: st) := z_getf hx (z_lt1 (z_ok_sd hx) (by omega)) (z_kc0 (z_ok_sd hx) _) rfl z_inX6 14 (by decide) hw rfl rfl hd kk
theorem gf_X6_heardMany (hx : z_ok C cc own 1) {idx : Nat} (hw : Cond.fieldLink own idx RX6 "heardMany" "I" ∈ z_ws) (hd : decode cc pc = .ok (.getfield idx, 3)) (kk : z_W C σ (pc + 3) lv (.int (zi (σ 0 15)) :: st)) : z_W C σ pc lv (.ref (z_ad (z_g C) 0) :: st) := z_getf hx (z_lt1 (z_ok_sd hx) (by omega)) (z_kc0 (z_ok_sd hx) _) rfl z_inX6 15 (by decide) hw rfl rfl hd kk
theorem pf_X6_heardMany (hx : z_ok C cc own 1) {idx : Nat} (hw : Cond.fieldLink own idx RX6 "heardMany" "I" ∈ z_ws) {v : Int} {K : zS → Option α} (hd : decode cc pc = .ok (.putfield idx, 3)) (h : z_put σ 0 15 v K = some r) (kk : ∀ σ1, K σ1 = some r → z_W C σ1 (pc + 3) lv st) : z_W C σ pc lv (.int (zi v) :: .ref (z_ad (z_g C) 0) :: st) := z_putf hx (z_lt1 (z_ok_sd hx) (by omega)) (fun f => [.ref (z_ad (z_g C) 1), .ref (z_ad (z_g C) 2), .int (zi (f 2)), .ref (z_ad (z_g C) 3), .int (zi (f 4)), .int (zi (f 5)), .int (zi (f 6)), .int (zi (f 7)), .int (zi (f 8)), .ref (z_ad (z_g C) 4), .ref (z_ad (z_g C) 5), .ref (z_ad (z_g C) 6), .int (zi (f 12)), .ref (z_ad (z_g C) 7), .ref (z_ad (z_g C) 8), .int (zi (f 15)), .ref (z_ad (z_g C) 9), .int (zi (f 17)), .int (zi (f 18))]) (z_kc0 (z_ok_sd hx)) rfl z_inX6 tyX6 tyX6_ok nmX6 15 (by decide) hw rfl rfl rfl (fun _ => by simp) (fun f => by simp) rfl hd h kk
theorem gf_X6_room (hx : z_ok C cc own 1) {idx : Nat} (hw : Cond.fieldLink own idx RX6 "room" "[I" ∈ z_ws) (hd : decode cc pc = .ok (.getfield idx, 3)) (kk : z_W C σ (pc + 3) lv (.ref (z_ad (z_g C) 9) :: st)) : z_W C σ pc lv (.ref (z_ad (z_g C) 0) :: st) := z_getf hx (z_lt1 (z_ok_sd hx) (by omega)) (z_kc0 (z_ok_sd hx) _) rfl z_inX6 16 (by decide) hw rfl rfl hd kk
theorem gf_X6_roomMany (hx : z_ok C cc own 1) {idx : Nat} (hw : Cond.fieldLink own idx RX6 "roomMany" "I" ∈ z_ws) (hd : decode cc pc = .ok (.getfield idx, 3)) (kk : z_W C σ (pc + 3) lv (.int (zi (σ 0 17)) :: st)) : z_W C σ pc lv (.ref (z_ad (z_g C) 0) :: st) := z_getf hx (z_lt1 (z_ok_sd hx) (by omega)) (z_kc0 (z_ok_sd hx) _) rfl z_inX6 17 (by decide) hw rfl rfl hd kk
theorem pf_X6_roomMany (hx : z_ok C cc own 1) {idx : Nat} (hw : Cond.fieldLink own idx RX6 "roomMany" "I" ∈ z_ws) {v : Int} {K : zS → Option α} (hd : decode cc pc = .ok (.putfield idx, 3)) (h : z_put σ 0 17 v K = some r) (kk : ∀ σ1, K σ1 = some r → z_W C σ1 (pc + 3) lv st) : z_W C σ pc lv (.int (zi v) :: .ref (z_ad (z_g C) 0) :: st) := z_putf hx (z_lt1 (z_ok_sd hx) (by omega)) (fun f => [.ref (z_ad (z_g C) 1), .ref (z_ad (z_g C) 2), .int (zi (f 2)), .ref (z_ad (z_g C) 3), .int (zi (f 4)), .int (zi (f 5)), .int (zi (f 6)), .int (zi (f 7)), .int (zi (f 8)), .ref (z_ad (z_g C) 4), .ref (z_ad (z_g C) 5), .ref (z_ad (z_g C) 6), .int (zi (f 12)), .ref (z_ad (z_g C) 7), .ref (z_ad (z_g C) 8), .int (zi (f 15)), .ref (z_ad (z_g C) 9), .int (zi (f 17)), .int (zi (f 18))]) (z_kc0 (z_ok_sd hx)) rfl z_inX6 tyX6 tyX6_ok nmX6 17 (by decide) hw rfl rfl rfl (fun _ => by simp) (fun f => by simp) rfl hd h kk
theorem gf_X6_taken (hx : z_ok C cc own 1) {idx : Nat} (hw : Cond.fieldLink own idx RX6 "taken" "I" ∈ z_ws) (hd : decode cc pc = .ok (.getfield idx, 3)) (kk : z_W C σ (pc + 3) lv (.int (zi (σ 0 18)) :: st)) : z_W C σ pc lv (.ref (z_ad (z_g C) 0) :: st) := z_getf hx (z_lt1 (z_ok_sd hx) (by omega)) (z_kc0 (z_ok_sd hx) _) rfl z_inX6 18 (by decide) hw rfl rfl hd kk
theorem pf_X6_taken (hx : z_ok C cc own 1) {idx : Nat} (hw : Cond.fieldLink own idx RX6 "taken" "I" ∈ z_ws) {v : Int} {K : zS → Option α} (hd : decode cc pc = .ok (.putfield idx, 3)) (h : z_put σ 0 18 v K = some r) (kk : ∀ σ1, K σ1 = some r → z_W C σ1 (pc + 3) lv st) : z_W C σ pc lv (.int (zi v) :: .ref (z_ad (z_g C) 0) :: st) := z_putf hx (z_lt1 (z_ok_sd hx) (by omega)) (fun f => [.ref (z_ad (z_g C) 1), .ref (z_ad (z_g C) 2), .int (zi (f 2)), .ref (z_ad (z_g C) 3), .int (zi (f 4)), .int (zi (f 5)), .int (zi (f 6)), .int (zi (f 7)), .int (zi (f 8)), .ref (z_ad (z_g C) 4), .ref (z_ad (z_g C) 5), .ref (z_ad (z_g C) 6), .int (zi (f 12)), .ref (z_ad (z_g C) 7), .ref (z_ad (z_g C) 8), .int (zi (f 15)), .ref (z_ad (z_g C) 9), .int (zi (f 17)), .int (zi (f 18))]) (z_kc0 (z_ok_sd hx)) rfl z_inX6 tyX6 tyX6_ok nmX6 18 (by decide) hw rfl rfl rfl (fun _ => by simp) (fun f => by simp) rfl hd h kk
theorem z_aald (hx : z_ok C cc own 0) {i : Int} {A : Option α} (hd : decode cc pc = .ok (.aaload, 1)) (h : (if (0 ≤ i ∧ i < 4) ∧ 0 ≤ σ 61 i ∧ σ 61 i < 6 then A else none) = some r) (kk : A = some r → (σ 61 i).toNat < 6 → z_W C σ (pc + 1) lv (.ref (z_ad (z_g C) (8 * (σ 61 i).toNat)) :: st)) : z_W C σ pc lv (.int (zi i) :: .ref (z_ad (z_g C) 61) :: st) := by
  obtain ⟨⟨⟨i0, i1⟩, v0, v1⟩, h⟩ := z_gd h
  have kk := kk h (by omega)
  have hsd := z_ok_sd hx
  have hk : 61 < z_N (z_g C) := z_lt0 hsd (by decide)
  have hm := z_kb61 hsd (σ 61)
  obtain ⟨p, l, e, R, s, m, args, below, meth, c, Q, cells, slots, A, H0, nL, g⟩ := C
  intro H locs ls hP hS hl
  have he := z_wd_get (mk := z_mk g) (ad := g.2.1) (σ := σ) hk
  rw [hm] at he
  obtain ⟨h1, h2, h3, h4, h5, h6, h7, h8, h9, h10, h11, h12⟩ := hx
  refine va_aldq h1 h2 h6 hP 61 2 he rfl (zi_in i0 (by omega) (by omega)) hd ?_
  rw [zi_clamp i0 (by omega), Int.toNat_of_nonneg i0]
  exact kk H locs ls hP hS hl
theorem z_aast (hx : z_ok C cc own 0) {i : Int} {j : Nat} (hj : j < 6) {K : zS → Option α} (hd : decode cc pc = .ok (.aastore, 1)) (h : (if 0 ≤ i ∧ i < 4 then z_put σ 61 i (j : Nat) K else none) = some r) (kk : ∀ σ1, K σ1 = some r → z_W C σ1 (pc + 1) lv st) : z_W C σ pc lv (.ref (z_ad (z_g C) (8 * j)) :: .int (zi i) :: .ref (z_ad (z_g C) 61) :: st) := by
  obtain ⟨⟨i0, i1⟩, h⟩ := z_gd h
  have kk := kk _ h
  have hsd := z_ok_sd hx
  have hk : 61 < z_N (z_g C) := z_lt0 hsd (by decide)
  have hkj : 8 * j < z_N (z_g C) := z_lt0 hsd (by omega)
  have hm := z_kb61 hsd
  have hmj := z_ka0 hsd hj (σ (8 * j))
  obtain ⟨p, l, e, R, s, m, args, below, meth, c, Q, cells, slots, A, H0, nL, g⟩ := C
  intro H locs ls hP hS hl
  have he := z_wd_get (mk := z_mk g) (ad := g.2.1) (σ := σ) hk
  rw [hm] at he
  have hej := z_wd_get (mk := z_mk g) (ad := g.2.1) (σ := σ) hkj
  rw [hmj] at hej
  obtain ⟨h1, h2, h3, h4, h5, h6, h7, h8, h9, h10, h11, h12⟩ := hx
  refine va_astq h1 h2 h6 hP (h7 σ) hS 61 2 (8 * j) 2 (r := (RX2, TX2, 9)) he rfl hej rfl (zi_in i0 (by omega) (by omega)) hd (fun H1 locs1 hP1 hD1 hS1 => ?_)
  refine kk H1 locs1 ls ?_ hS1 hl
  have e0 : va_up (fun i : Nat => some (g.2.1 (8 * (σ 61 (i : Int)).toNat))) (zi i).toNatClampNeg (some (g.2.1 (8 * j))) = fun q : Nat => some (g.2.1 (8 * ((fun b : Int => if b = i then (j : Int) else σ 61 b) (q : Int)).toNat)) := by
    funext q
    rw [zi_clamp i0 (by omega)]
    simp only [va_up]
    by_cases h : q = i.toNat
    · rw [if_pos h, if_pos (by omega), Int.toNat_natCast]
    · rw [if_neg h, if_neg (by omega)]
  have e1 := z_wd_set (mk := z_mk g) (N := z_N g) (ad := g.2.1) (σ := σ) (τ := z_up σ 61 i (j : Nat)) (k := 61) (e := .inl (g.2.2.2.2.1, 4, .inr (.inr (.inr (.inr (va_up (fun i : Nat => some (g.2.1 (8 * (σ 61 (i : Int)).toNat))) (zi i).toNatClampNeg (some (g.2.1 (8 * j))))))))) (by rw [z_up_row, e0]; exact (hm (fun b : Int => if b = i then (j : Int) else σ 61 b)).symm) (fun a ha => z_up_ne σ 61 i (j : Nat) a ha)
  show va_P g.2.2.2.2.2 vwCl (z_wd (z_mk g) (z_N g) g.2.1 (z_up σ 61 i (j : Nat))) H1
  rw [← e1]
  exact hP1
end
end
section
/-! walks, by program: ['X2'] -/
theorem dX2_copyMark_0 : decode cX2_copyMark 0 = .ok (.aload_n 0, 1) := by decide +kernel
theorem dX2_copyMark_1 : decode cX2_copyMark 1 = .ok (.getfield 19, 3) := by decide +kernel
theorem dX2_copyMark_4 : decode cX2_copyMark 4 = .ok (.iload_n 3, 1) := by decide +kernel
theorem dX2_copyMark_5 : decode cX2_copyMark 5 = .ok (.aload_n 1, 1) := by decide +kernel
theorem dX2_copyMark_6 : decode cX2_copyMark 6 = .ok (.getfield 19, 3) := by decide +kernel
theorem dX2_copyMark_9 : decode cX2_copyMark 9 = .ok (.iload_n 2, 1) := by decide +kernel
theorem dX2_copyMark_10 : decode cX2_copyMark 10 = .ok (.iaload, 1) := by decide +kernel
theorem dX2_copyMark_11 : decode cX2_copyMark 11 = .ok (.iastore, 1) := by decide +kernel
theorem dX2_copyMark_12 : decode cX2_copyMark 12 = .ok (.aload_n 0, 1) := by decide +kernel
theorem dX2_copyMark_13 : decode cX2_copyMark 13 = .ok (.getfield 22, 3) := by decide +kernel
theorem dX2_copyMark_16 : decode cX2_copyMark 16 = .ok (.iload_n 3, 1) := by decide +kernel
theorem dX2_copyMark_17 : decode cX2_copyMark 17 = .ok (.aload_n 1, 1) := by decide +kernel
theorem dX2_copyMark_18 : decode cX2_copyMark 18 = .ok (.getfield 22, 3) := by decide +kernel
theorem dX2_copyMark_21 : decode cX2_copyMark 21 = .ok (.iload_n 2, 1) := by decide +kernel
theorem dX2_copyMark_22 : decode cX2_copyMark 22 = .ok (.iaload, 1) := by decide +kernel
theorem dX2_copyMark_23 : decode cX2_copyMark 23 = .ok (.iastore, 1) := by decide +kernel
theorem dX2_copyMark_24 : decode cX2_copyMark 24 = .ok (.aload_n 0, 1) := by decide +kernel
theorem dX2_copyMark_25 : decode cX2_copyMark 25 = .ok (.getfield 25, 3) := by decide +kernel
theorem dX2_copyMark_28 : decode cX2_copyMark 28 = .ok (.iload_n 3, 1) := by decide +kernel
theorem dX2_copyMark_29 : decode cX2_copyMark 29 = .ok (.aload_n 1, 1) := by decide +kernel
theorem dX2_copyMark_30 : decode cX2_copyMark 30 = .ok (.getfield 25, 3) := by decide +kernel
theorem dX2_copyMark_33 : decode cX2_copyMark 33 = .ok (.iload_n 2, 1) := by decide +kernel
theorem dX2_copyMark_34 : decode cX2_copyMark 34 = .ok (.iaload, 1) := by decide +kernel
theorem dX2_copyMark_35 : decode cX2_copyMark 35 = .ok (.iastore, 1) := by decide +kernel
theorem dX2_copyMark_36 : decode cX2_copyMark 36 = .ok (.aload_n 0, 1) := by decide +kernel
theorem dX2_copyMark_37 : decode cX2_copyMark 37 = .ok (.getfield 28, 3) := by decide +kernel
theorem dX2_copyMark_40 : decode cX2_copyMark 40 = .ok (.iload_n 3, 1) := by decide +kernel
theorem dX2_copyMark_41 : decode cX2_copyMark 41 = .ok (.aload_n 1, 1) := by decide +kernel
theorem dX2_copyMark_42 : decode cX2_copyMark 42 = .ok (.getfield 28, 3) := by decide +kernel
theorem dX2_copyMark_45 : decode cX2_copyMark 45 = .ok (.iload_n 2, 1) := by decide +kernel
theorem dX2_copyMark_46 : decode cX2_copyMark 46 = .ok (.iaload, 1) := by decide +kernel
theorem dX2_copyMark_47 : decode cX2_copyMark 47 = .ok (.iastore, 1) := by decide +kernel
theorem dX2_copyMark_48 : decode cX2_copyMark 48 = .ok (.aload_n 0, 1) := by decide +kernel
theorem dX2_copyMark_49 : decode cX2_copyMark 49 = .ok (.getfield 31, 3) := by decide +kernel
theorem dX2_copyMark_52 : decode cX2_copyMark 52 = .ok (.iload_n 3, 1) := by decide +kernel
theorem dX2_copyMark_53 : decode cX2_copyMark 53 = .ok (.aload_n 1, 1) := by decide +kernel
theorem dX2_copyMark_54 : decode cX2_copyMark 54 = .ok (.getfield 31, 3) := by decide +kernel
theorem dX2_copyMark_57 : decode cX2_copyMark 57 = .ok (.iload_n 2, 1) := by decide +kernel
theorem dX2_copyMark_58 : decode cX2_copyMark 58 = .ok (.baload, 1) := by decide +kernel
theorem dX2_copyMark_59 : decode cX2_copyMark 59 = .ok (.bastore, 1) := by decide +kernel
theorem dX2_copyMark_60 : decode cX2_copyMark 60 = .ok (.return_, 1) := by decide +kernel
abbrev rm_X2_copyMark : Room := { frames := 0, cells := 0, slots := 0, locals := 0 }
theorem w_X2_copyMark {C : zC} (hx : z_ok C cX2_copyMark RX2 0) (hn : z_nL C = 4) (hR : z_R C = rm_X2_copyMark) {rr : Unit × zS} (hq : z_fin C none (z_QV (z_g C) rr.2)) {j : Nat} (hj : j < 6) {k : Nat} (hk : k < 6) (σ : zS) (x2 : Int) (x3 : Int) (h : f_X2_copyMark j k σ x2 x3 = some rr) : z_W C σ 0 [(0, .ref (z_ad (z_g C) (8 * j))), (1, .ref (z_ad (z_g C) (8 * k))), (2, .int (zi x2)), (3, .int (zi x3))] [] := by
  unfold f_X2_copyMark at h
  refine z_aload_n hx 0 dX2_copyMark_0 rfl ?_
  refine gf_X2_kinds hx wf_X2_19 hj dX2_copyMark_1 ?_
  refine z_iload_n hx 3 dX2_copyMark_4 rfl ?_
  refine z_aload_n hx 1 dX2_copyMark_5 rfl ?_
  refine gf_X2_kinds hx wf_X2_19 hk dX2_copyMark_6 ?_
  refine z_iload_n hx 2 dX2_copyMark_9 rfl ?_
  refine z_iald hx (n := 20) (z_lt0 (z_ok_sd hx) (by have := hk; omega)) (z_ka2 (z_ok_sd hx) hk _) rfl (by decide) dX2_copyMark_10 h (fun h => ?_)
  refine z_iast hx (n := 20) (z_lt0 (z_ok_sd hx) (by have := hj; omega)) (z_ka2 (z_ok_sd hx) hj) rfl (by decide) dX2_copyMark_11 h (fun σ1 h => ?_)
  refine z_aload_n hx 0 dX2_copyMark_12 rfl ?_
  refine gf_X2_firsts hx wf_X2_22 hj dX2_copyMark_13 ?_
  refine z_iload_n hx 3 dX2_copyMark_16 rfl ?_
  refine z_aload_n hx 1 dX2_copyMark_17 rfl ?_
  refine gf_X2_firsts hx wf_X2_22 hk dX2_copyMark_18 ?_
  refine z_iload_n hx 2 dX2_copyMark_21 rfl ?_
  refine z_iald hx (n := 20) (z_lt0 (z_ok_sd hx) (by have := hk; omega)) (z_ka3 (z_ok_sd hx) hk _) rfl (by decide) dX2_copyMark_22 h (fun h => ?_)
  refine z_iast hx (n := 20) (z_lt0 (z_ok_sd hx) (by have := hj; omega)) (z_ka3 (z_ok_sd hx) hj) rfl (by decide) dX2_copyMark_23 h (fun σ2 h => ?_)
  refine z_aload_n hx 0 dX2_copyMark_24 rfl ?_
  refine gf_X2_ends hx wf_X2_25 hj dX2_copyMark_25 ?_
  refine z_iload_n hx 3 dX2_copyMark_28 rfl ?_
  refine z_aload_n hx 1 dX2_copyMark_29 rfl ?_
  refine gf_X2_ends hx wf_X2_25 hk dX2_copyMark_30 ?_
  refine z_iload_n hx 2 dX2_copyMark_33 rfl ?_
  refine z_iald hx (n := 20) (z_lt0 (z_ok_sd hx) (by have := hk; omega)) (z_ka4 (z_ok_sd hx) hk _) rfl (by decide) dX2_copyMark_34 h (fun h => ?_)
  refine z_iast hx (n := 20) (z_lt0 (z_ok_sd hx) (by have := hj; omega)) (z_ka4 (z_ok_sd hx) hj) rfl (by decide) dX2_copyMark_35 h (fun σ3 h => ?_)
  refine z_aload_n hx 0 dX2_copyMark_36 rfl ?_
  refine gf_X2_doubts hx wf_X2_28 hj dX2_copyMark_37 ?_
  refine z_iload_n hx 3 dX2_copyMark_40 rfl ?_
  refine z_aload_n hx 1 dX2_copyMark_41 rfl ?_
  refine gf_X2_doubts hx wf_X2_28 hk dX2_copyMark_42 ?_
  refine z_iload_n hx 2 dX2_copyMark_45 rfl ?_
  refine z_iald hx (n := 20) (z_lt0 (z_ok_sd hx) (by have := hk; omega)) (z_ka5 (z_ok_sd hx) hk _) rfl (by decide) dX2_copyMark_46 h (fun h => ?_)
  refine z_iast hx (n := 20) (z_lt0 (z_ok_sd hx) (by have := hj; omega)) (z_ka5 (z_ok_sd hx) hj) rfl (by decide) dX2_copyMark_47 h (fun σ4 h => ?_)
  refine z_aload_n hx 0 dX2_copyMark_48 rfl ?_
  refine gf_X2_held hx wf_X2_31 hj dX2_copyMark_49 ?_
  refine z_iload_n hx 3 dX2_copyMark_52 rfl ?_
  refine z_aload_n hx 1 dX2_copyMark_53 rfl ?_
  refine gf_X2_held hx wf_X2_31 hk dX2_copyMark_54 ?_
  refine z_iload_n hx 2 dX2_copyMark_57 rfl ?_
  refine z_zald hx (n := 20) (z_lt0 (z_ok_sd hx) (by have := hk; omega)) (z_ka6 (z_ok_sd hx) hk _) rfl (by decide) dX2_copyMark_58 h (fun h => ?_)
  refine z_zast hx (n := 20) (z_lt0 (z_ok_sd hx) (by have := hj; omega)) (z_ka6 (z_ok_sd hx) hj) rfl (by decide) dX2_copyMark_59 h (fun σ5 h => ?_)
  cases h
  exact z_vret hx hq dX2_copyMark_60

theorem met_X2_copyMark (l : Launch) (g : zG) (hg : g.1 = 0) {j : Nat} (hj : j < 6) {k : Nat} (hk : k < 6) {σ : zS} {x2 : Int} {x3 : Int} {rr : Unit × zS} (h : f_X2_copyMark j k σ x2 x3 = some rr) : z_Met l yX2_copyMark cX2_copyMark 4 none rm_X2_copyMark g [.ref (z_ad (g) (8 * j)), .ref (z_ad (g) (8 * k)), .int (zi x2), .int (zi x3)] σ (z_QV g rr.2) := by
  refine z_enter (own := RX2) (sd := 0) (lv0 := [(0, .ref (z_ad (g) (8 * j))), (1, .ref (z_ad (g) (8 * k))), (2, .int (zi x2)), (3, .int (zi x3))]) (by decide) rfl (Nat.le_of_ble_eq_true rfl) hg rfl (fun C hx hl hgC hR hn hq => ?_)
  subst hgC
  refine z_sub [0, 1, 2, 3] rfl ?_
  exact w_X2_copyMark hx hn hR hq hj hk σ x2 x3 h
theorem dX2_copySound_0 : decode cX2_copySound 0 = .ok (.aload_n 0, 1) := by decide +kernel
theorem dX2_copySound_1 : decode cX2_copySound 1 = .ok (.aload_n 1, 1) := by decide +kernel
theorem dX2_copySound_2 : decode cX2_copySound 2 = .ok (.getfield 15, 3) := by decide +kernel
theorem dX2_copySound_5 : decode cX2_copySound 5 = .ok (.putfield 15, 3) := by decide +kernel
theorem dX2_copySound_8 : decode cX2_copySound 8 = .ok (.aload_n 1, 1) := by decide +kernel
theorem dX2_copySound_9 : decode cX2_copySound 9 = .ok (.getfield 9, 3) := by decide +kernel
theorem dX2_copySound_12 : decode cX2_copySound 12 = .ok (.iconst 0, 1) := by decide +kernel
theorem dX2_copySound_13 : decode cX2_copySound 13 = .ok (.aload_n 0, 1) := by decide +kernel
theorem dX2_copySound_14 : decode cX2_copySound 14 = .ok (.getfield 9, 3) := by decide +kernel
theorem dX2_copySound_17 : decode cX2_copySound 17 = .ok (.iconst 0, 1) := by decide +kernel
theorem dX2_copySound_18 : decode cX2_copySound 18 = .ok (.sipush 200, 3) := by decide +kernel
theorem dX2_copySound_21 : decode cX2_copySound 21 = .ok (.invokestatic 44, 3) := by decide +kernel
theorem dX2_copySound_24 : decode cX2_copySound 24 = .ok (.aload_n 0, 1) := by decide +kernel
theorem dX2_copySound_25 : decode cX2_copySound 25 = .ok (.aload_n 1, 1) := by decide +kernel
theorem dX2_copySound_26 : decode cX2_copySound 26 = .ok (.getfield 35, 3) := by decide +kernel
theorem dX2_copySound_29 : decode cX2_copySound 29 = .ok (.putfield 35, 3) := by decide +kernel
theorem dX2_copySound_32 : decode cX2_copySound 32 = .ok (.iconst 0, 1) := by decide +kernel
theorem dX2_copySound_33 : decode cX2_copySound 33 = .ok (.istore_n 2, 1) := by decide +kernel
theorem dX2_copySound_34 : decode cX2_copySound 34 = .ok (.iload_n 2, 1) := by decide +kernel
theorem dX2_copySound_35 : decode cX2_copySound 35 = .ok (.aload_n 0, 1) := by decide +kernel
theorem dX2_copySound_36 : decode cX2_copySound 36 = .ok (.getfield 35, 3) := by decide +kernel
theorem dX2_copySound_39 : decode cX2_copySound 39 = .ok (.if_icmp .ge 16, 3) := by decide +kernel
theorem dX2_copySound_42 : decode cX2_copySound 42 = .ok (.aload_n 0, 1) := by decide +kernel
theorem dX2_copySound_43 : decode cX2_copySound 43 = .ok (.aload_n 1, 1) := by decide +kernel
theorem dX2_copySound_44 : decode cX2_copySound 44 = .ok (.iload_n 2, 1) := by decide +kernel
theorem dX2_copySound_45 : decode cX2_copySound 45 = .ok (.iload_n 2, 1) := by decide +kernel
theorem dX2_copySound_46 : decode cX2_copySound 46 = .ok (.invokevirtual 54, 3) := by decide +kernel
theorem dX2_copySound_49 : decode cX2_copySound 49 = .ok (.iinc 2 1, 3) := by decide +kernel
theorem dX2_copySound_52 : decode cX2_copySound 52 = .ok (.goto (-18), 3) := by decide +kernel
theorem dX2_copySound_55 : decode cX2_copySound 55 = .ok (.return_, 1) := by decide +kernel
abbrev rm_X2_copySound : Room := { frames := 1, cells := 0, slots := 0, locals := 60 }
theorem w_X2_copySound_b34 {C : zC} (hx : z_ok C cX2_copySound RX2 0) (hn : z_nL C = 3) (hR : z_R C = rm_X2_copySound) {rr : Unit × zS} (hq : z_fin C none (z_QV (z_g C) rr.2)) {j : Nat} (hj : j < 6) {k : Nat} (hk : k < 6) {K34 : zS → Int → Option (Unit × zS)} (hK34 : ∀ (σ : zS) (x2 : Int) , K34 σ x2 = some rr → z_W C σ 34 [(0, .ref (z_ad (z_g C) (8 * j))), (1, .ref (z_ad (z_g C) (8 * k))), (2, .int (zi x2))] []) (σ : zS) (x2 : Int) (h : f_X2_copySound_b34 j k K34 σ x2 = some rr) : z_W C σ 34 [(0, .ref (z_ad (z_g C) (8 * j))), (1, .ref (z_ad (z_g C) (8 * k))), (2, .int (zi x2))] [] := by
  unfold f_X2_copySound_b34 at h
  refine z_iload_n hx 2 dX2_copySound_34 rfl ?_
  refine z_aload_n hx 0 dX2_copySound_35 rfl ?_
  refine gf_X2_marks hx wf_X2_35 hj dX2_copySound_36 ?_
  refine z_icmp_ge hx (tgt := 55) dX2_copySound_39 (by decide) h (fun h => h) (fun hc h => ?_) (fun hc h => ?_)
  · cases h
    exact z_vret hx hq dX2_copySound_55
  · refine z_aload_n hx 0 dX2_copySound_42 rfl ?_
    refine z_aload_n hx 1 dX2_copySound_43 rfl ?_
    refine z_iload_n hx 2 dX2_copySound_44 rfl ?_
    refine z_iload_n hx 2 dX2_copySound_45 rfl ?_
    obtain ⟨⟨⟩, σ1, h46, h⟩ := z_bind_some h
    refine z_callv hx (As := [.ref (z_ad (z_g C) (8 * k)), .int (zi x2), .int (zi x2)]) (k := 8 * j) (met_X2_copyMark (z_l C) (z_g C) (z_ok_sd hx) hj hk h46) (z_lt0 (z_ok_sd hx) (by have := hj; omega)) (z_ka0 (z_ok_sd hx) hj _) rfl rfl cv_X2_54 (z_room hR ⟨Nat.le_of_ble_eq_true rfl, Nat.le_of_ble_eq_true rfl⟩) ⟨rfl, rfl⟩ rfl rfl (Nat.le_of_ble_eq_true rfl) dX2_copySound_46 ?_
    refine z_iinc hx hn 2 (lv' := [(2, .int (zi (x2 + 1))), (0, .ref (z_ad (z_g C) (8 * j))), (1, .ref (z_ad (z_g C) (8 * k)))]) dX2_copySound_49 rfl (by decide) rfl ?_
    refine z_goto hx (tgt := 34) dX2_copySound_52 (by decide) ?_
    refine z_sub [1, 2, 0] rfl ?_
    exact hK34 σ1 (x2 + 1) h

theorem w_X2_copySound_l34 {C : zC} (hx : z_ok C cX2_copySound RX2 0) (hn : z_nL C = 3) (hR : z_R C = rm_X2_copySound) {rr : Unit × zS} (hq : z_fin C none (z_QV (z_g C) rr.2)) {j : Nat} (hj : j < 6) {k : Nat} (hk : k < 6) : ∀ (n : Nat) (σ : zS) (x2 : Int) (_ : f_X2_copySound_l34 j k n σ x2 = some rr), z_W C σ 34 [(0, .ref (z_ad (z_g C) (8 * j))), (1, .ref (z_ad (z_g C) (8 * k))), (2, .int (zi x2))] [] := by
  intro n
  induction n with
  | zero => intro σ x2 h; cases h
  | succ n ih =>
    intro σ x2 h
    exact w_X2_copySound_b34 hx hn hR hq hj hk ih σ x2 h
theorem w_X2_copySound {C : zC} (hx : z_ok C cX2_copySound RX2 0) (hn : z_nL C = 3) (hR : z_R C = rm_X2_copySound) {rr : Unit × zS} (hq : z_fin C none (z_QV (z_g C) rr.2)) {j : Nat} (hj : j < 6) {k : Nat} (hk : k < 6) (σ : zS) (h : f_X2_copySound j k σ = some rr) : z_W C σ 0 [(0, .ref (z_ad (z_g C) (8 * j))), (1, .ref (z_ad (z_g C) (8 * k)))] [] := by
  unfold f_X2_copySound at h
  refine z_aload_n hx 0 dX2_copySound_0 rfl ?_
  refine z_aload_n hx 1 dX2_copySound_1 rfl ?_
  refine gf_X2_frames hx wf_X2_15 hk dX2_copySound_2 ?_
  refine pf_X2_frames hx wf_X2_15 hj dX2_copySound_5 h (fun σ1 h => ?_)
  refine z_aload_n hx 1 dX2_copySound_8 rfl ?_
  refine gf_X2_levels hx wf_X2_9 hk dX2_copySound_9 ?_
  refine z_iconst hx (n := 0) dX2_copySound_12 ?_
  refine z_aload_n hx 0 dX2_copySound_13 rfl ?_
  refine gf_X2_levels hx wf_X2_9 hj dX2_copySound_14 ?_
  refine z_iconst hx (n := 0) dX2_copySound_17 ?_
  refine z_sipush hx (n := 200) dX2_copySound_18 rfl ?_
  refine z_copyi hx (n1 := 200) (n2 := 200) (z_lt0 (z_ok_sd hx) (by have := hk; omega)) (z_lt0 (z_ok_sd hx) (by have := hj; omega)) (z_ka1 (z_ok_sd hx) hk _) (z_ka1 (z_ok_sd hx) hj) rfl rfl (by decide) (by decide) wm_X2_44 wna_ac wst_ac wi_J10 (z_room hR ⟨Nat.le_of_ble_eq_true rfl, Nat.le_of_ble_eq_true rfl⟩) (Nat.le_of_ble_eq_true rfl) dX2_copySound_21 h (fun σ2 h => ?_)
  refine z_aload_n hx 0 dX2_copySound_24 rfl ?_
  refine z_aload_n hx 1 dX2_copySound_25 rfl ?_
  refine gf_X2_marks hx wf_X2_35 hk dX2_copySound_26 ?_
  refine pf_X2_marks hx wf_X2_35 hj dX2_copySound_29 h (fun σ3 h => ?_)
  refine z_iconst hx (n := 0) dX2_copySound_32 ?_
  refine z_istore_n hx hn (lv' := [(2, .int (zi 0)), (0, .ref (z_ad (z_g C) (8 * j))), (1, .ref (z_ad (z_g C) (8 * k)))]) dX2_copySound_33 (by decide) rfl ?_
  refine z_sub [1, 2, 0] rfl ?_
  exact w_X2_copySound_l34 hx hn hR hq hj hk z_fuel σ3 0 h

theorem met_X2_copySound (l : Launch) (g : zG) (hg : g.1 = 0) {j : Nat} (hj : j < 6) {k : Nat} (hk : k < 6) {σ : zS} {rr : Unit × zS} (h : f_X2_copySound j k σ = some rr) : z_Met l yX2_copySound cX2_copySound 3 none rm_X2_copySound g [.ref (z_ad (g) (8 * j)), .ref (z_ad (g) (8 * k))] σ (z_QV g rr.2) := by
  refine z_enter (own := RX2) (sd := 0) (lv0 := [(0, .ref (z_ad (g) (8 * j))), (1, .ref (z_ad (g) (8 * k)))]) (by decide) rfl (Nat.le_of_ble_eq_true rfl) hg rfl (fun C hx hl hgC hR hn hq => ?_)
  subst hgC
  refine z_sub [0, 1] rfl ?_
  exact w_X2_copySound hx hn hR hq hj hk σ h
theorem dX2_copyAll_0 : decode cX2_copyAll 0 = .ok (.aload_n 0, 1) := by decide +kernel
theorem dX2_copyAll_1 : decode cX2_copyAll 1 = .ok (.aload_n 1, 1) := by decide +kernel
theorem dX2_copyAll_2 : decode cX2_copyAll 2 = .ok (.invokevirtual 50, 3) := by decide +kernel
theorem dX2_copyAll_5 : decode cX2_copyAll 5 = .ok (.aload_n 1, 1) := by decide +kernel
theorem dX2_copyAll_6 : decode cX2_copyAll 6 = .ok (.getfield 38, 3) := by decide +kernel
theorem dX2_copyAll_9 : decode cX2_copyAll 9 = .ok (.iconst 0, 1) := by decide +kernel
theorem dX2_copyAll_10 : decode cX2_copyAll 10 = .ok (.aload_n 0, 1) := by decide +kernel
theorem dX2_copyAll_11 : decode cX2_copyAll 11 = .ok (.getfield 38, 3) := by decide +kernel
theorem dX2_copyAll_14 : decode cX2_copyAll 14 = .ok (.iconst 0, 1) := by decide +kernel
theorem dX2_copyAll_15 : decode cX2_copyAll 15 = .ok (.bipush 7, 2) := by decide +kernel
theorem dX2_copyAll_17 : decode cX2_copyAll 17 = .ok (.invokestatic 44, 3) := by decide +kernel
theorem dX2_copyAll_20 : decode cX2_copyAll 20 = .ok (.return_, 1) := by decide +kernel
abbrev rm_X2_copyAll : Room := { frames := 2, cells := 0, slots := 0, locals := 82 }
theorem w_X2_copyAll {C : zC} (hx : z_ok C cX2_copyAll RX2 0) (hn : z_nL C = 2) (hR : z_R C = rm_X2_copyAll) {rr : Unit × zS} (hq : z_fin C none (z_QV (z_g C) rr.2)) {j : Nat} (hj : j < 6) {k : Nat} (hk : k < 6) (σ : zS) (h : f_X2_copyAll j k σ = some rr) : z_W C σ 0 [(0, .ref (z_ad (z_g C) (8 * j))), (1, .ref (z_ad (z_g C) (8 * k)))] [] := by
  unfold f_X2_copyAll at h
  refine z_aload_n hx 0 dX2_copyAll_0 rfl ?_
  refine z_aload_n hx 1 dX2_copyAll_1 rfl ?_
  obtain ⟨⟨⟩, σ1, h2, h⟩ := z_bind_some h
  refine z_callv hx (As := [.ref (z_ad (z_g C) (8 * k))]) (k := 8 * j) (met_X2_copySound (z_l C) (z_g C) (z_ok_sd hx) hj hk h2) (z_lt0 (z_ok_sd hx) (by have := hj; omega)) (z_ka0 (z_ok_sd hx) hj _) rfl rfl cv_X2_50 (z_room hR ⟨Nat.le_of_ble_eq_true rfl, Nat.le_of_ble_eq_true rfl⟩) ⟨rfl, rfl⟩ rfl rfl (Nat.le_of_ble_eq_true rfl) dX2_copyAll_2 ?_
  refine z_aload_n hx 1 dX2_copyAll_5 rfl ?_
  refine gf_X2_settings hx wf_X2_38 hk dX2_copyAll_6 ?_
  refine z_iconst hx (n := 0) dX2_copyAll_9 ?_
  refine z_aload_n hx 0 dX2_copyAll_10 rfl ?_
  refine gf_X2_settings hx wf_X2_38 hj dX2_copyAll_11 ?_
  refine z_iconst hx (n := 0) dX2_copyAll_14 ?_
  refine z_bipush hx (n := 7) dX2_copyAll_15 rfl ?_
  refine z_copyi hx (n1 := 7) (n2 := 7) (z_lt0 (z_ok_sd hx) (by have := hk; omega)) (z_lt0 (z_ok_sd hx) (by have := hj; omega)) (z_ka7 (z_ok_sd hx) hk _) (z_ka7 (z_ok_sd hx) hj) rfl rfl (by decide) (by decide) wm_X2_44 wna_ac wst_ac wi_J10 (z_room hR ⟨Nat.le_of_ble_eq_true rfl, Nat.le_of_ble_eq_true rfl⟩) (Nat.le_of_ble_eq_true rfl) dX2_copyAll_17 h (fun σ2 h => ?_)
  cases h
  exact z_vret hx hq dX2_copyAll_20

theorem met_X2_copyAll (l : Launch) (g : zG) (hg : g.1 = 0) {j : Nat} (hj : j < 6) {k : Nat} (hk : k < 6) {σ : zS} {rr : Unit × zS} (h : f_X2_copyAll j k σ = some rr) : z_Met l yX2_copyAll cX2_copyAll 2 none rm_X2_copyAll g [.ref (z_ad (g) (8 * j)), .ref (z_ad (g) (8 * k))] σ (z_QV g rr.2) := by
  refine z_enter (own := RX2) (sd := 0) (lv0 := [(0, .ref (z_ad (g) (8 * j))), (1, .ref (z_ad (g) (8 * k)))]) (by decide) rfl (Nat.le_of_ble_eq_true rfl) hg rfl (fun C hx hl hgC hR hn hq => ?_)
  subst hgC
  refine z_sub [0, 1] rfl ?_
  exact w_X2_copyAll hx hn hR hq hj hk σ h
theorem dX2_removeSound_0 : decode cX2_removeSound 0 = .ok (.aload_n 0, 1) := by decide +kernel
theorem dX2_removeSound_1 : decode cX2_removeSound 1 = .ok (.iconst 0, 1) := by decide +kernel
theorem dX2_removeSound_2 : decode cX2_removeSound 2 = .ok (.putfield 15, 3) := by decide +kernel
theorem dX2_removeSound_5 : decode cX2_removeSound 5 = .ok (.aload_n 0, 1) := by decide +kernel
theorem dX2_removeSound_6 : decode cX2_removeSound 6 = .ok (.iconst 0, 1) := by decide +kernel
theorem dX2_removeSound_7 : decode cX2_removeSound 7 = .ok (.putfield 35, 3) := by decide +kernel
theorem dX2_removeSound_10 : decode cX2_removeSound 10 = .ok (.return_, 1) := by decide +kernel
abbrev rm_X2_removeSound : Room := { frames := 0, cells := 0, slots := 0, locals := 0 }
theorem w_X2_removeSound {C : zC} (hx : z_ok C cX2_removeSound RX2 0) (hn : z_nL C = 1) (hR : z_R C = rm_X2_removeSound) {rr : Unit × zS} (hq : z_fin C none (z_QV (z_g C) rr.2)) {j : Nat} (hj : j < 6) (σ : zS) (h : f_X2_removeSound j σ = some rr) : z_W C σ 0 [(0, .ref (z_ad (z_g C) (8 * j)))] [] := by
  unfold f_X2_removeSound at h
  refine z_aload_n hx 0 dX2_removeSound_0 rfl ?_
  refine z_iconst hx (n := 0) dX2_removeSound_1 ?_
  refine pf_X2_frames hx wf_X2_15 hj dX2_removeSound_2 h (fun σ1 h => ?_)
  refine z_aload_n hx 0 dX2_removeSound_5 rfl ?_
  refine z_iconst hx (n := 0) dX2_removeSound_6 ?_
  refine pf_X2_marks hx wf_X2_35 hj dX2_removeSound_7 h (fun σ2 h => ?_)
  cases h
  exact z_vret hx hq dX2_removeSound_10

theorem met_X2_removeSound (l : Launch) (g : zG) (hg : g.1 = 0) {j : Nat} (hj : j < 6) {σ : zS} {rr : Unit × zS} (h : f_X2_removeSound j σ = some rr) : z_Met l yX2_removeSound cX2_removeSound 1 none rm_X2_removeSound g [.ref (z_ad (g) (8 * j))] σ (z_QV g rr.2) := by
  refine z_enter (own := RX2) (sd := 0) (lv0 := [(0, .ref (z_ad (g) (8 * j)))]) (by decide) rfl (Nat.le_of_ble_eq_true rfl) hg rfl (fun C hx hl hgC hR hn hq => ?_)
  subst hgC
  refine z_sub [0] rfl ?_
  exact w_X2_removeSound hx hn hR hq hj σ h
theorem dX2_addFrame_0 : decode cX2_addFrame 0 = .ok (.aload_n 0, 1) := by decide +kernel
theorem dX2_addFrame_1 : decode cX2_addFrame 1 = .ok (.getfield 15, 3) := by decide +kernel
theorem dX2_addFrame_4 : decode cX2_addFrame 4 = .ok (.sipush 200, 3) := by decide +kernel
theorem dX2_addFrame_7 : decode cX2_addFrame 7 = .ok (.if_icmp .ge 23, 3) := by decide +kernel
theorem dX2_addFrame_10 : decode cX2_addFrame 10 = .ok (.aload_n 0, 1) := by decide +kernel
theorem dX2_addFrame_11 : decode cX2_addFrame 11 = .ok (.getfield 9, 3) := by decide +kernel
theorem dX2_addFrame_14 : decode cX2_addFrame 14 = .ok (.aload_n 0, 1) := by decide +kernel
theorem dX2_addFrame_15 : decode cX2_addFrame 15 = .ok (.getfield 15, 3) := by decide +kernel
theorem dX2_addFrame_18 : decode cX2_addFrame 18 = .ok (.iload_n 1, 1) := by decide +kernel
theorem dX2_addFrame_19 : decode cX2_addFrame 19 = .ok (.iastore, 1) := by decide +kernel
theorem dX2_addFrame_20 : decode cX2_addFrame 20 = .ok (.aload_n 0, 1) := by decide +kernel
theorem dX2_addFrame_21 : decode cX2_addFrame 21 = .ok (.dup, 1) := by decide +kernel
theorem dX2_addFrame_22 : decode cX2_addFrame 22 = .ok (.getfield 15, 3) := by decide +kernel
theorem dX2_addFrame_25 : decode cX2_addFrame 25 = .ok (.iconst 1, 1) := by decide +kernel
theorem dX2_addFrame_26 : decode cX2_addFrame 26 = .ok (.iadd, 1) := by decide +kernel
theorem dX2_addFrame_27 : decode cX2_addFrame 27 = .ok (.putfield 15, 3) := by decide +kernel
theorem dX2_addFrame_30 : decode cX2_addFrame 30 = .ok (.return_, 1) := by decide +kernel
abbrev rm_X2_addFrame : Room := { frames := 0, cells := 0, slots := 0, locals := 0 }
theorem w_X2_addFrame_b30 {C : zC} (hx : z_ok C cX2_addFrame RX2 0) (hn : z_nL C = 2) (hR : z_R C = rm_X2_addFrame) {rr : Unit × zS} (hq : z_fin C none (z_QV (z_g C) rr.2)) {j : Nat} (hj : j < 6) (σ : zS) (h : f_X2_addFrame_b30 j σ = some rr) : z_W C σ 30 [] [] := by
  unfold f_X2_addFrame_b30 at h
  cases h
  exact z_vret hx hq dX2_addFrame_30

theorem w_X2_addFrame {C : zC} (hx : z_ok C cX2_addFrame RX2 0) (hn : z_nL C = 2) (hR : z_R C = rm_X2_addFrame) {rr : Unit × zS} (hq : z_fin C none (z_QV (z_g C) rr.2)) {j : Nat} (hj : j < 6) (σ : zS) (x1 : Int) (h : f_X2_addFrame j σ x1 = some rr) : z_W C σ 0 [(0, .ref (z_ad (z_g C) (8 * j))), (1, .int (zi x1))] [] := by
  unfold f_X2_addFrame at h
  refine z_aload_n hx 0 dX2_addFrame_0 rfl ?_
  refine gf_X2_frames hx wf_X2_15 hj dX2_addFrame_1 ?_
  refine z_sipush hx (n := 200) dX2_addFrame_4 rfl ?_
  refine z_icmp_ge hx (tgt := 30) dX2_addFrame_7 (by decide) h (fun h => ⟨h, by decide⟩) (fun hc h => ?_) (fun hc h => ?_)
  · refine z_sub [] rfl ?_
    exact w_X2_addFrame_b30 hx hn hR hq hj σ h
  · refine z_aload_n hx 0 dX2_addFrame_10 rfl ?_
    refine gf_X2_levels hx wf_X2_9 hj dX2_addFrame_11 ?_
    refine z_aload_n hx 0 dX2_addFrame_14 rfl ?_
    refine gf_X2_frames hx wf_X2_15 hj dX2_addFrame_15 ?_
    refine z_iload_n hx 1 dX2_addFrame_18 rfl ?_
    refine z_iast hx (n := 200) (z_lt0 (z_ok_sd hx) (by have := hj; omega)) (z_ka1 (z_ok_sd hx) hj) rfl (by decide) dX2_addFrame_19 h (fun σ1 h => ?_)
    refine z_aload_n hx 0 dX2_addFrame_20 rfl ?_
    refine z_dup hx dX2_addFrame_21 rfl ?_
    refine gf_X2_frames hx wf_X2_15 hj dX2_addFrame_22 ?_
    refine z_iconst hx (n := 1) dX2_addFrame_25 ?_
    refine z_iadd hx dX2_addFrame_26 ?_
    refine pf_X2_frames hx wf_X2_15 hj dX2_addFrame_27 h (fun σ2 h => ?_)
    refine z_sub [] rfl ?_
    exact w_X2_addFrame_b30 hx hn hR hq hj σ2 h

theorem met_X2_addFrame (l : Launch) (g : zG) (hg : g.1 = 0) {j : Nat} (hj : j < 6) {σ : zS} {x1 : Int} {rr : Unit × zS} (h : f_X2_addFrame j σ x1 = some rr) : z_Met l yX2_addFrame cX2_addFrame 2 none rm_X2_addFrame g [.ref (z_ad (g) (8 * j)), .int (zi x1)] σ (z_QV g rr.2) := by
  refine z_enter (own := RX2) (sd := 0) (lv0 := [(0, .ref (z_ad (g) (8 * j))), (1, .int (zi x1))]) (by decide) rfl (Nat.le_of_ble_eq_true rfl) hg rfl (fun C hx hl hgC hR hn hq => ?_)
  subst hgC
  refine z_sub [0, 1] rfl ?_
  exact w_X2_addFrame hx hn hR hq hj σ x1 h
theorem dX2_hasFrame_0 : decode cX2_hasFrame 0 = .ok (.iload_n 1, 1) := by decide +kernel
theorem dX2_hasFrame_1 : decode cX2_hasFrame 1 = .ok (.ifCond .lt 15, 3) := by decide +kernel
theorem dX2_hasFrame_4 : decode cX2_hasFrame 4 = .ok (.iload_n 1, 1) := by decide +kernel
theorem dX2_hasFrame_5 : decode cX2_hasFrame 5 = .ok (.aload_n 0, 1) := by decide +kernel
theorem dX2_hasFrame_6 : decode cX2_hasFrame 6 = .ok (.getfield 15, 3) := by decide +kernel
theorem dX2_hasFrame_9 : decode cX2_hasFrame 9 = .ok (.if_icmp .ge 7, 3) := by decide +kernel
theorem dX2_hasFrame_12 : decode cX2_hasFrame 12 = .ok (.iconst 1, 1) := by decide +kernel
theorem dX2_hasFrame_13 : decode cX2_hasFrame 13 = .ok (.goto 4, 3) := by decide +kernel
theorem dX2_hasFrame_16 : decode cX2_hasFrame 16 = .ok (.iconst 0, 1) := by decide +kernel
theorem dX2_hasFrame_17 : decode cX2_hasFrame 17 = .ok (.ireturn, 1) := by decide +kernel
abbrev rm_X2_hasFrame : Room := { frames := 0, cells := 0, slots := 0, locals := 0 }
theorem w_X2_hasFrame_b17 {C : zC} (hx : z_ok C cX2_hasFrame RX2 0) (hn : z_nL C = 2) (hR : z_R C = rm_X2_hasFrame) {rr : Int × zS} (hq : z_fin C (some .boolean) (z_QI (z_g C) rr.1 rr.2)) {j : Nat} (hj : j < 6) (σ : zS) (s0 : Int) (h : f_X2_hasFrame_b17 j σ s0 = some rr) : z_W C σ 17 [] [.int (zi s0)] := by
  unfold f_X2_hasFrame_b17 at h
  obtain ⟨hz, h⟩ := z_gd h
  cases h
  exact z_zret hx hz hq dX2_hasFrame_17

theorem w_X2_hasFrame_b16 {C : zC} (hx : z_ok C cX2_hasFrame RX2 0) (hn : z_nL C = 2) (hR : z_R C = rm_X2_hasFrame) {rr : Int × zS} (hq : z_fin C (some .boolean) (z_QI (z_g C) rr.1 rr.2)) {j : Nat} (hj : j < 6) (σ : zS) (h : f_X2_hasFrame_b16 j σ = some rr) : z_W C σ 16 [] [] := by
  unfold f_X2_hasFrame_b16 at h
  refine z_iconst hx (n := 0) dX2_hasFrame_16 ?_
  refine z_sub [] rfl ?_
  exact w_X2_hasFrame_b17 hx hn hR hq hj σ 0 h

theorem w_X2_hasFrame {C : zC} (hx : z_ok C cX2_hasFrame RX2 0) (hn : z_nL C = 2) (hR : z_R C = rm_X2_hasFrame) {rr : Int × zS} (hq : z_fin C (some .boolean) (z_QI (z_g C) rr.1 rr.2)) {j : Nat} (hj : j < 6) (σ : zS) (x1 : Int) (h : f_X2_hasFrame j σ x1 = some rr) : z_W C σ 0 [(0, .ref (z_ad (z_g C) (8 * j))), (1, .int (zi x1))] [] := by
  unfold f_X2_hasFrame at h
  refine z_iload_n hx 1 dX2_hasFrame_0 rfl ?_
  refine z_if_lt hx (tgt := 16) dX2_hasFrame_1 (by decide) h (fun h => h) (fun hc h => ?_) (fun hc h => ?_)
  · refine z_sub [] rfl ?_
    exact w_X2_hasFrame_b16 hx hn hR hq hj σ h
  · refine z_iload_n hx 1 dX2_hasFrame_4 rfl ?_
    refine z_aload_n hx 0 dX2_hasFrame_5 rfl ?_
    refine gf_X2_frames hx wf_X2_15 hj dX2_hasFrame_6 ?_
    refine z_icmp_ge hx (tgt := 16) dX2_hasFrame_9 (by decide) h (fun h => h) (fun hc h => ?_) (fun hc h => ?_)
    · refine z_sub [] rfl ?_
      exact w_X2_hasFrame_b16 hx hn hR hq hj σ h
    · refine z_iconst hx (n := 1) dX2_hasFrame_12 ?_
      refine z_goto hx (tgt := 17) dX2_hasFrame_13 (by decide) ?_
      refine z_sub [] rfl ?_
      exact w_X2_hasFrame_b17 hx hn hR hq hj σ 1 h

theorem met_X2_hasFrame (l : Launch) (g : zG) (hg : g.1 = 0) {j : Nat} (hj : j < 6) {σ : zS} {x1 : Int} {rr : Int × zS} (h : f_X2_hasFrame j σ x1 = some rr) : z_Met l yX2_hasFrame cX2_hasFrame 2 (some .boolean) rm_X2_hasFrame g [.ref (z_ad (g) (8 * j)), .int (zi x1)] σ (z_QI g rr.1 rr.2) := by
  refine z_enter (own := RX2) (sd := 0) (lv0 := [(0, .ref (z_ad (g) (8 * j))), (1, .int (zi x1))]) (by decide) rfl (Nat.le_of_ble_eq_true rfl) hg rfl (fun C hx hl hgC hR hn hq => ?_)
  subst hgC
  refine z_sub [0, 1] rfl ?_
  exact w_X2_hasFrame hx hn hR hq hj σ x1 h
theorem dX2_levelAt_0 : decode cX2_levelAt 0 = .ok (.iload_n 1, 1) := by decide +kernel
theorem dX2_levelAt_1 : decode cX2_levelAt 1 = .ok (.ifCond .lt 20, 3) := by decide +kernel
theorem dX2_levelAt_4 : decode cX2_levelAt 4 = .ok (.iload_n 1, 1) := by decide +kernel
theorem dX2_levelAt_5 : decode cX2_levelAt 5 = .ok (.aload_n 0, 1) := by decide +kernel
theorem dX2_levelAt_6 : decode cX2_levelAt 6 = .ok (.getfield 15, 3) := by decide +kernel
theorem dX2_levelAt_9 : decode cX2_levelAt 9 = .ok (.if_icmp .ge 12, 3) := by decide +kernel
theorem dX2_levelAt_12 : decode cX2_levelAt 12 = .ok (.aload_n 0, 1) := by decide +kernel
theorem dX2_levelAt_13 : decode cX2_levelAt 13 = .ok (.getfield 9, 3) := by decide +kernel
theorem dX2_levelAt_16 : decode cX2_levelAt 16 = .ok (.iload_n 1, 1) := by decide +kernel
theorem dX2_levelAt_17 : decode cX2_levelAt 17 = .ok (.iaload, 1) := by decide +kernel
theorem dX2_levelAt_18 : decode cX2_levelAt 18 = .ok (.goto 4, 3) := by decide +kernel
theorem dX2_levelAt_21 : decode cX2_levelAt 21 = .ok (.iconst 0, 1) := by decide +kernel
theorem dX2_levelAt_22 : decode cX2_levelAt 22 = .ok (.ireturn, 1) := by decide +kernel
abbrev rm_X2_levelAt : Room := { frames := 0, cells := 0, slots := 0, locals := 0 }
theorem w_X2_levelAt_b22 {C : zC} (hx : z_ok C cX2_levelAt RX2 0) (hn : z_nL C = 2) (hR : z_R C = rm_X2_levelAt) {rr : Int × zS} (hq : z_fin C (some .int) (z_QI (z_g C) rr.1 rr.2)) {j : Nat} (hj : j < 6) (σ : zS) (s0 : Int) (h : f_X2_levelAt_b22 j σ s0 = some rr) : z_W C σ 22 [] [.int (zi s0)] := by
  unfold f_X2_levelAt_b22 at h
  cases h
  exact z_iret hx hq dX2_levelAt_22

theorem w_X2_levelAt_b21 {C : zC} (hx : z_ok C cX2_levelAt RX2 0) (hn : z_nL C = 2) (hR : z_R C = rm_X2_levelAt) {rr : Int × zS} (hq : z_fin C (some .int) (z_QI (z_g C) rr.1 rr.2)) {j : Nat} (hj : j < 6) (σ : zS) (h : f_X2_levelAt_b21 j σ = some rr) : z_W C σ 21 [] [] := by
  unfold f_X2_levelAt_b21 at h
  refine z_iconst hx (n := 0) dX2_levelAt_21 ?_
  refine z_sub [] rfl ?_
  exact w_X2_levelAt_b22 hx hn hR hq hj σ 0 h

theorem w_X2_levelAt {C : zC} (hx : z_ok C cX2_levelAt RX2 0) (hn : z_nL C = 2) (hR : z_R C = rm_X2_levelAt) {rr : Int × zS} (hq : z_fin C (some .int) (z_QI (z_g C) rr.1 rr.2)) {j : Nat} (hj : j < 6) (σ : zS) (x1 : Int) (h : f_X2_levelAt j σ x1 = some rr) : z_W C σ 0 [(0, .ref (z_ad (z_g C) (8 * j))), (1, .int (zi x1))] [] := by
  unfold f_X2_levelAt at h
  refine z_iload_n hx 1 dX2_levelAt_0 rfl ?_
  refine z_if_lt hx (tgt := 21) dX2_levelAt_1 (by decide) h (fun h => h) (fun hc h => ?_) (fun hc h => ?_)
  · refine z_sub [] rfl ?_
    exact w_X2_levelAt_b21 hx hn hR hq hj σ h
  · refine z_iload_n hx 1 dX2_levelAt_4 rfl ?_
    refine z_aload_n hx 0 dX2_levelAt_5 rfl ?_
    refine gf_X2_frames hx wf_X2_15 hj dX2_levelAt_6 ?_
    refine z_icmp_ge hx (tgt := 21) dX2_levelAt_9 (by decide) h (fun h => h) (fun hc h => ?_) (fun hc h => ?_)
    · refine z_sub [] rfl ?_
      exact w_X2_levelAt_b21 hx hn hR hq hj σ h
    · refine z_aload_n hx 0 dX2_levelAt_12 rfl ?_
      refine gf_X2_levels hx wf_X2_9 hj dX2_levelAt_13 ?_
      refine z_iload_n hx 1 dX2_levelAt_16 rfl ?_
      refine z_iald hx (n := 200) (z_lt0 (z_ok_sd hx) (by have := hj; omega)) (z_ka1 (z_ok_sd hx) hj _) rfl (by decide) dX2_levelAt_17 h (fun h => ?_)
      refine z_goto hx (tgt := 22) dX2_levelAt_18 (by decide) ?_
      refine z_sub [] rfl ?_
      exact w_X2_levelAt_b22 hx hn hR hq hj σ (σ (8 * j + 1) x1) h

theorem met_X2_levelAt (l : Launch) (g : zG) (hg : g.1 = 0) {j : Nat} (hj : j < 6) {σ : zS} {x1 : Int} {rr : Int × zS} (h : f_X2_levelAt j σ x1 = some rr) : z_Met l yX2_levelAt cX2_levelAt 2 (some .int) rm_X2_levelAt g [.ref (z_ad (g) (8 * j)), .int (zi x1)] σ (z_QI g rr.1 rr.2) := by
  refine z_enter (own := RX2) (sd := 0) (lv0 := [(0, .ref (z_ad (g) (8 * j))), (1, .int (zi x1))]) (by decide) rfl (Nat.le_of_ble_eq_true rfl) hg rfl (fun C hx hl hgC hR hn hq => ?_)
  subst hgC
  refine z_sub [0, 1] rfl ?_
  exact w_X2_levelAt hx hn hR hq hj σ x1 h
theorem dX2_hasMark_0 : decode cX2_hasMark 0 = .ok (.iload_n 1, 1) := by decide +kernel
theorem dX2_hasMark_1 : decode cX2_hasMark 1 = .ok (.ifCond .lt 15, 3) := by decide +kernel
theorem dX2_hasMark_4 : decode cX2_hasMark 4 = .ok (.iload_n 1, 1) := by decide +kernel
theorem dX2_hasMark_5 : decode cX2_hasMark 5 = .ok (.aload_n 0, 1) := by decide +kernel
theorem dX2_hasMark_6 : decode cX2_hasMark 6 = .ok (.getfield 35, 3) := by decide +kernel
theorem dX2_hasMark_9 : decode cX2_hasMark 9 = .ok (.if_icmp .ge 7, 3) := by decide +kernel
theorem dX2_hasMark_12 : decode cX2_hasMark 12 = .ok (.iconst 1, 1) := by decide +kernel
theorem dX2_hasMark_13 : decode cX2_hasMark 13 = .ok (.goto 4, 3) := by decide +kernel
theorem dX2_hasMark_16 : decode cX2_hasMark 16 = .ok (.iconst 0, 1) := by decide +kernel
theorem dX2_hasMark_17 : decode cX2_hasMark 17 = .ok (.ireturn, 1) := by decide +kernel
abbrev rm_X2_hasMark : Room := { frames := 0, cells := 0, slots := 0, locals := 0 }
theorem w_X2_hasMark_b17 {C : zC} (hx : z_ok C cX2_hasMark RX2 0) (hn : z_nL C = 2) (hR : z_R C = rm_X2_hasMark) {rr : Int × zS} (hq : z_fin C (some .boolean) (z_QI (z_g C) rr.1 rr.2)) {j : Nat} (hj : j < 6) (σ : zS) (s0 : Int) (h : f_X2_hasMark_b17 j σ s0 = some rr) : z_W C σ 17 [] [.int (zi s0)] := by
  unfold f_X2_hasMark_b17 at h
  obtain ⟨hz, h⟩ := z_gd h
  cases h
  exact z_zret hx hz hq dX2_hasMark_17

theorem w_X2_hasMark_b16 {C : zC} (hx : z_ok C cX2_hasMark RX2 0) (hn : z_nL C = 2) (hR : z_R C = rm_X2_hasMark) {rr : Int × zS} (hq : z_fin C (some .boolean) (z_QI (z_g C) rr.1 rr.2)) {j : Nat} (hj : j < 6) (σ : zS) (h : f_X2_hasMark_b16 j σ = some rr) : z_W C σ 16 [] [] := by
  unfold f_X2_hasMark_b16 at h
  refine z_iconst hx (n := 0) dX2_hasMark_16 ?_
  refine z_sub [] rfl ?_
  exact w_X2_hasMark_b17 hx hn hR hq hj σ 0 h

theorem w_X2_hasMark {C : zC} (hx : z_ok C cX2_hasMark RX2 0) (hn : z_nL C = 2) (hR : z_R C = rm_X2_hasMark) {rr : Int × zS} (hq : z_fin C (some .boolean) (z_QI (z_g C) rr.1 rr.2)) {j : Nat} (hj : j < 6) (σ : zS) (x1 : Int) (h : f_X2_hasMark j σ x1 = some rr) : z_W C σ 0 [(0, .ref (z_ad (z_g C) (8 * j))), (1, .int (zi x1))] [] := by
  unfold f_X2_hasMark at h
  refine z_iload_n hx 1 dX2_hasMark_0 rfl ?_
  refine z_if_lt hx (tgt := 16) dX2_hasMark_1 (by decide) h (fun h => h) (fun hc h => ?_) (fun hc h => ?_)
  · refine z_sub [] rfl ?_
    exact w_X2_hasMark_b16 hx hn hR hq hj σ h
  · refine z_iload_n hx 1 dX2_hasMark_4 rfl ?_
    refine z_aload_n hx 0 dX2_hasMark_5 rfl ?_
    refine gf_X2_marks hx wf_X2_35 hj dX2_hasMark_6 ?_
    refine z_icmp_ge hx (tgt := 16) dX2_hasMark_9 (by decide) h (fun h => h) (fun hc h => ?_) (fun hc h => ?_)
    · refine z_sub [] rfl ?_
      exact w_X2_hasMark_b16 hx hn hR hq hj σ h
    · refine z_iconst hx (n := 1) dX2_hasMark_12 ?_
      refine z_goto hx (tgt := 17) dX2_hasMark_13 (by decide) ?_
      refine z_sub [] rfl ?_
      exact w_X2_hasMark_b17 hx hn hR hq hj σ 1 h

theorem met_X2_hasMark (l : Launch) (g : zG) (hg : g.1 = 0) {j : Nat} (hj : j < 6) {σ : zS} {x1 : Int} {rr : Int × zS} (h : f_X2_hasMark j σ x1 = some rr) : z_Met l yX2_hasMark cX2_hasMark 2 (some .boolean) rm_X2_hasMark g [.ref (z_ad (g) (8 * j)), .int (zi x1)] σ (z_QI g rr.1 rr.2) := by
  refine z_enter (own := RX2) (sd := 0) (lv0 := [(0, .ref (z_ad (g) (8 * j))), (1, .int (zi x1))]) (by decide) rfl (Nat.le_of_ble_eq_true rfl) hg rfl (fun C hx hl hgC hR hn hq => ?_)
  subst hgC
  refine z_sub [0, 1] rfl ?_
  exact w_X2_hasMark hx hn hR hq hj σ x1 h
theorem dX2_overlaps_0 : decode cX2_overlaps 0 = .ok (.iconst 0, 1) := by decide +kernel
theorem dX2_overlaps_1 : decode cX2_overlaps 1 = .ok (.istore_n 3, 1) := by decide +kernel
theorem dX2_overlaps_2 : decode cX2_overlaps 2 = .ok (.iload_n 3, 1) := by decide +kernel
theorem dX2_overlaps_3 : decode cX2_overlaps 3 = .ok (.aload_n 0, 1) := by decide +kernel
theorem dX2_overlaps_4 : decode cX2_overlaps 4 = .ok (.getfield 35, 3) := by decide +kernel
theorem dX2_overlaps_7 : decode cX2_overlaps 7 = .ok (.if_icmp .ge 31, 3) := by decide +kernel
theorem dX2_overlaps_10 : decode cX2_overlaps 10 = .ok (.iload_n 1, 1) := by decide +kernel
theorem dX2_overlaps_11 : decode cX2_overlaps 11 = .ok (.aload_n 0, 1) := by decide +kernel
theorem dX2_overlaps_12 : decode cX2_overlaps 12 = .ok (.getfield 25, 3) := by decide +kernel
theorem dX2_overlaps_15 : decode cX2_overlaps 15 = .ok (.iload_n 3, 1) := by decide +kernel
theorem dX2_overlaps_16 : decode cX2_overlaps 16 = .ok (.iaload, 1) := by decide +kernel
theorem dX2_overlaps_17 : decode cX2_overlaps 17 = .ok (.if_icmp .ge 15, 3) := by decide +kernel
theorem dX2_overlaps_20 : decode cX2_overlaps 20 = .ok (.aload_n 0, 1) := by decide +kernel
theorem dX2_overlaps_21 : decode cX2_overlaps 21 = .ok (.getfield 22, 3) := by decide +kernel
theorem dX2_overlaps_24 : decode cX2_overlaps 24 = .ok (.iload_n 3, 1) := by decide +kernel
theorem dX2_overlaps_25 : decode cX2_overlaps 25 = .ok (.iaload, 1) := by decide +kernel
theorem dX2_overlaps_26 : decode cX2_overlaps 26 = .ok (.iload_n 2, 1) := by decide +kernel
theorem dX2_overlaps_27 : decode cX2_overlaps 27 = .ok (.if_icmp .ge 5, 3) := by decide +kernel
theorem dX2_overlaps_30 : decode cX2_overlaps 30 = .ok (.iconst 1, 1) := by decide +kernel
theorem dX2_overlaps_31 : decode cX2_overlaps 31 = .ok (.ireturn, 1) := by decide +kernel
theorem dX2_overlaps_32 : decode cX2_overlaps 32 = .ok (.iinc 3 1, 3) := by decide +kernel
theorem dX2_overlaps_35 : decode cX2_overlaps 35 = .ok (.goto (-33), 3) := by decide +kernel
theorem dX2_overlaps_38 : decode cX2_overlaps 38 = .ok (.iconst 0, 1) := by decide +kernel
theorem dX2_overlaps_39 : decode cX2_overlaps 39 = .ok (.ireturn, 1) := by decide +kernel
abbrev rm_X2_overlaps : Room := { frames := 0, cells := 0, slots := 0, locals := 0 }
theorem w_X2_overlaps_b32 {C : zC} (hx : z_ok C cX2_overlaps RX2 0) (hn : z_nL C = 4) (hR : z_R C = rm_X2_overlaps) {rr : Int × zS} (hq : z_fin C (some .boolean) (z_QI (z_g C) rr.1 rr.2)) {j : Nat} (hj : j < 6) {K2 : zS → Int → Int → Int → Option (Int × zS)} (hK2 : ∀ (σ : zS) (x1 : Int) (x2 : Int) (x3 : Int) , K2 σ x1 x2 x3 = some rr → z_W C σ 2 [(0, .ref (z_ad (z_g C) (8 * j))), (1, .int (zi x1)), (2, .int (zi x2)), (3, .int (zi x3))] []) (σ : zS) (x1 : Int) (x2 : Int) (x3 : Int) (h : f_X2_overlaps_b32 j K2 σ x1 x2 x3 = some rr) : z_W C σ 32 [(0, .ref (z_ad (z_g C) (8 * j))), (1, .int (zi x1)), (2, .int (zi x2)), (3, .int (zi x3))] [] := by
  unfold f_X2_overlaps_b32 at h
  refine z_iinc hx hn 3 (lv' := [(3, .int (zi (x3 + 1))), (0, .ref (z_ad (z_g C) (8 * j))), (1, .int (zi x1)), (2, .int (zi x2))]) dX2_overlaps_32 rfl (by decide) rfl ?_
  refine z_goto hx (tgt := 2) dX2_overlaps_35 (by decide) ?_
  refine z_sub [1, 2, 3, 0] rfl ?_
  exact hK2 σ x1 x2 (x3 + 1) h

theorem w_X2_overlaps_b2 {C : zC} (hx : z_ok C cX2_overlaps RX2 0) (hn : z_nL C = 4) (hR : z_R C = rm_X2_overlaps) {rr : Int × zS} (hq : z_fin C (some .boolean) (z_QI (z_g C) rr.1 rr.2)) {j : Nat} (hj : j < 6) {K2 : zS → Int → Int → Int → Option (Int × zS)} (hK2 : ∀ (σ : zS) (x1 : Int) (x2 : Int) (x3 : Int) , K2 σ x1 x2 x3 = some rr → z_W C σ 2 [(0, .ref (z_ad (z_g C) (8 * j))), (1, .int (zi x1)), (2, .int (zi x2)), (3, .int (zi x3))] []) (σ : zS) (x1 : Int) (x2 : Int) (x3 : Int) (h : f_X2_overlaps_b2 j K2 σ x1 x2 x3 = some rr) : z_W C σ 2 [(0, .ref (z_ad (z_g C) (8 * j))), (1, .int (zi x1)), (2, .int (zi x2)), (3, .int (zi x3))] [] := by
  unfold f_X2_overlaps_b2 at h
  refine z_iload_n hx 3 dX2_overlaps_2 rfl ?_
  refine z_aload_n hx 0 dX2_overlaps_3 rfl ?_
  refine gf_X2_marks hx wf_X2_35 hj dX2_overlaps_4 ?_
  refine z_icmp_ge hx (tgt := 38) dX2_overlaps_7 (by decide) h (fun h => h) (fun hc h => ?_) (fun hc h => ?_)
  · refine z_iconst hx (n := 0) dX2_overlaps_38 ?_
    cases h
    exact z_zret hx (by decide) hq dX2_overlaps_39
  · refine z_iload_n hx 1 dX2_overlaps_10 rfl ?_
    refine z_aload_n hx 0 dX2_overlaps_11 rfl ?_
    refine gf_X2_ends hx wf_X2_25 hj dX2_overlaps_12 ?_
    refine z_iload_n hx 3 dX2_overlaps_15 rfl ?_
    refine z_iald hx (n := 20) (z_lt0 (z_ok_sd hx) (by have := hj; omega)) (z_ka4 (z_ok_sd hx) hj _) rfl (by decide) dX2_overlaps_16 h (fun h => ?_)
    refine z_icmp_ge hx (tgt := 32) dX2_overlaps_17 (by decide) h (fun h => h) (fun hc h => ?_) (fun hc h => ?_)
    · refine z_sub [0, 1, 2, 3] rfl ?_
      exact w_X2_overlaps_b32 hx hn hR hq hj hK2 σ x1 x2 x3 h
    · refine z_aload_n hx 0 dX2_overlaps_20 rfl ?_
      refine gf_X2_firsts hx wf_X2_22 hj dX2_overlaps_21 ?_
      refine z_iload_n hx 3 dX2_overlaps_24 rfl ?_
      refine z_iald hx (n := 20) (z_lt0 (z_ok_sd hx) (by have := hj; omega)) (z_ka3 (z_ok_sd hx) hj _) rfl (by decide) dX2_overlaps_25 h (fun h => ?_)
      refine z_iload_n hx 2 dX2_overlaps_26 rfl ?_
      refine z_icmp_ge hx (tgt := 32) dX2_overlaps_27 (by decide) h (fun h => h) (fun hc h => ?_) (fun hc h => ?_)
      · refine z_sub [0, 1, 2, 3] rfl ?_
        exact w_X2_overlaps_b32 hx hn hR hq hj hK2 σ x1 x2 x3 h
      · refine z_iconst hx (n := 1) dX2_overlaps_30 ?_
        cases h
        exact z_zret hx (by decide) hq dX2_overlaps_31

theorem w_X2_overlaps_l2 {C : zC} (hx : z_ok C cX2_overlaps RX2 0) (hn : z_nL C = 4) (hR : z_R C = rm_X2_overlaps) {rr : Int × zS} (hq : z_fin C (some .boolean) (z_QI (z_g C) rr.1 rr.2)) {j : Nat} (hj : j < 6) : ∀ (n : Nat) (σ : zS) (x1 : Int) (x2 : Int) (x3 : Int) (_ : f_X2_overlaps_l2 j n σ x1 x2 x3 = some rr), z_W C σ 2 [(0, .ref (z_ad (z_g C) (8 * j))), (1, .int (zi x1)), (2, .int (zi x2)), (3, .int (zi x3))] [] := by
  intro n
  induction n with
  | zero => intro σ x1 x2 x3 h; cases h
  | succ n ih =>
    intro σ x1 x2 x3 h
    exact w_X2_overlaps_b2 hx hn hR hq hj ih σ x1 x2 x3 h
theorem w_X2_overlaps {C : zC} (hx : z_ok C cX2_overlaps RX2 0) (hn : z_nL C = 4) (hR : z_R C = rm_X2_overlaps) {rr : Int × zS} (hq : z_fin C (some .boolean) (z_QI (z_g C) rr.1 rr.2)) {j : Nat} (hj : j < 6) (σ : zS) (x1 : Int) (x2 : Int) (h : f_X2_overlaps j σ x1 x2 = some rr) : z_W C σ 0 [(0, .ref (z_ad (z_g C) (8 * j))), (1, .int (zi x1)), (2, .int (zi x2))] [] := by
  unfold f_X2_overlaps at h
  refine z_iconst hx (n := 0) dX2_overlaps_0 ?_
  refine z_istore_n hx hn (lv' := [(3, .int (zi 0)), (0, .ref (z_ad (z_g C) (8 * j))), (1, .int (zi x1)), (2, .int (zi x2))]) dX2_overlaps_1 (by decide) rfl ?_
  refine z_sub [1, 2, 3, 0] rfl ?_
  exact w_X2_overlaps_l2 hx hn hR hq hj z_fuel σ x1 x2 0 h

theorem met_X2_overlaps (l : Launch) (g : zG) (hg : g.1 = 0) {j : Nat} (hj : j < 6) {σ : zS} {x1 : Int} {x2 : Int} {rr : Int × zS} (h : f_X2_overlaps j σ x1 x2 = some rr) : z_Met l yX2_overlaps cX2_overlaps 4 (some .boolean) rm_X2_overlaps g [.ref (z_ad (g) (8 * j)), .int (zi x1), .int (zi x2)] σ (z_QI g rr.1 rr.2) := by
  refine z_enter (own := RX2) (sd := 0) (lv0 := [(0, .ref (z_ad (g) (8 * j))), (1, .int (zi x1)), (2, .int (zi x2))]) (by decide) rfl (Nat.le_of_ble_eq_true rfl) hg rfl (fun C hx hl hgC hR hn hq => ?_)
  subst hgC
  refine z_sub [0, 1, 2] rfl ?_
  exact w_X2_overlaps hx hn hR hq hj σ x1 x2 h
theorem dX2_addMark_0 : decode cX2_addMark 0 = .ok (.aload_n 0, 1) := by decide +kernel
theorem dX2_addMark_1 : decode cX2_addMark 1 = .ok (.getfield 35, 3) := by decide +kernel
theorem dX2_addMark_4 : decode cX2_addMark 4 = .ok (.bipush 20, 2) := by decide +kernel
theorem dX2_addMark_6 : decode cX2_addMark 6 = .ok (.if_icmp .lt 6, 3) := by decide +kernel
theorem dX2_addMark_9 : decode cX2_addMark 9 = .ok (.bipush (-3), 2) := by decide +kernel
theorem dX2_addMark_11 : decode cX2_addMark 11 = .ok (.ireturn, 1) := by decide +kernel
theorem dX2_addMark_12 : decode cX2_addMark 12 = .ok (.aload_n 0, 1) := by decide +kernel
theorem dX2_addMark_13 : decode cX2_addMark 13 = .ok (.getfield 35, 3) := by decide +kernel
theorem dX2_addMark_16 : decode cX2_addMark 16 = .ok (.istore 5, 2) := by decide +kernel
theorem dX2_addMark_18 : decode cX2_addMark 18 = .ok (.iload 5, 2) := by decide +kernel
theorem dX2_addMark_20 : decode cX2_addMark 20 = .ok (.ifCond .le 33, 3) := by decide +kernel
theorem dX2_addMark_23 : decode cX2_addMark 23 = .ok (.aload_n 0, 1) := by decide +kernel
theorem dX2_addMark_24 : decode cX2_addMark 24 = .ok (.getfield 22, 3) := by decide +kernel
theorem dX2_addMark_27 : decode cX2_addMark 27 = .ok (.iload 5, 2) := by decide +kernel
theorem dX2_addMark_29 : decode cX2_addMark 29 = .ok (.iconst 1, 1) := by decide +kernel
theorem dX2_addMark_30 : decode cX2_addMark 30 = .ok (.isub, 1) := by decide +kernel
theorem dX2_addMark_31 : decode cX2_addMark 31 = .ok (.iaload, 1) := by decide +kernel
theorem dX2_addMark_32 : decode cX2_addMark 32 = .ok (.iload_n 2, 1) := by decide +kernel
theorem dX2_addMark_33 : decode cX2_addMark 33 = .ok (.if_icmp .le 20, 3) := by decide +kernel
theorem dX2_addMark_36 : decode cX2_addMark 36 = .ok (.aload_n 0, 1) := by decide +kernel
theorem dX2_addMark_37 : decode cX2_addMark 37 = .ok (.aload_n 0, 1) := by decide +kernel
theorem dX2_addMark_38 : decode cX2_addMark 38 = .ok (.iload 5, 2) := by decide +kernel
theorem dX2_addMark_40 : decode cX2_addMark 40 = .ok (.iconst 1, 1) := by decide +kernel
theorem dX2_addMark_41 : decode cX2_addMark 41 = .ok (.isub, 1) := by decide +kernel
theorem dX2_addMark_42 : decode cX2_addMark 42 = .ok (.iload 5, 2) := by decide +kernel
theorem dX2_addMark_44 : decode cX2_addMark 44 = .ok (.invokevirtual 54, 3) := by decide +kernel
theorem dX2_addMark_47 : decode cX2_addMark 47 = .ok (.iinc 5 (-1), 3) := by decide +kernel
theorem dX2_addMark_50 : decode cX2_addMark 50 = .ok (.goto (-32), 3) := by decide +kernel
theorem dX2_addMark_53 : decode cX2_addMark 53 = .ok (.aload_n 0, 1) := by decide +kernel
theorem dX2_addMark_54 : decode cX2_addMark 54 = .ok (.getfield 19, 3) := by decide +kernel
theorem dX2_addMark_57 : decode cX2_addMark 57 = .ok (.iload 5, 2) := by decide +kernel
theorem dX2_addMark_59 : decode cX2_addMark 59 = .ok (.iload_n 1, 1) := by decide +kernel
theorem dX2_addMark_60 : decode cX2_addMark 60 = .ok (.iastore, 1) := by decide +kernel
theorem dX2_addMark_61 : decode cX2_addMark 61 = .ok (.aload_n 0, 1) := by decide +kernel
theorem dX2_addMark_62 : decode cX2_addMark 62 = .ok (.getfield 22, 3) := by decide +kernel
theorem dX2_addMark_65 : decode cX2_addMark 65 = .ok (.iload 5, 2) := by decide +kernel
theorem dX2_addMark_67 : decode cX2_addMark 67 = .ok (.iload_n 2, 1) := by decide +kernel
theorem dX2_addMark_68 : decode cX2_addMark 68 = .ok (.iastore, 1) := by decide +kernel
theorem dX2_addMark_69 : decode cX2_addMark 69 = .ok (.aload_n 0, 1) := by decide +kernel
theorem dX2_addMark_70 : decode cX2_addMark 70 = .ok (.getfield 25, 3) := by decide +kernel
theorem dX2_addMark_73 : decode cX2_addMark 73 = .ok (.iload 5, 2) := by decide +kernel
theorem dX2_addMark_75 : decode cX2_addMark 75 = .ok (.iload_n 3, 1) := by decide +kernel
theorem dX2_addMark_76 : decode cX2_addMark 76 = .ok (.iastore, 1) := by decide +kernel
theorem dX2_addMark_77 : decode cX2_addMark 77 = .ok (.aload_n 0, 1) := by decide +kernel
theorem dX2_addMark_78 : decode cX2_addMark 78 = .ok (.getfield 28, 3) := by decide +kernel
theorem dX2_addMark_81 : decode cX2_addMark 81 = .ok (.iload 5, 2) := by decide +kernel
theorem dX2_addMark_83 : decode cX2_addMark 83 = .ok (.iload 4, 2) := by decide +kernel
theorem dX2_addMark_85 : decode cX2_addMark 85 = .ok (.iastore, 1) := by decide +kernel
theorem dX2_addMark_86 : decode cX2_addMark 86 = .ok (.aload_n 0, 1) := by decide +kernel
theorem dX2_addMark_87 : decode cX2_addMark 87 = .ok (.getfield 31, 3) := by decide +kernel
theorem dX2_addMark_90 : decode cX2_addMark 90 = .ok (.iload 5, 2) := by decide +kernel
theorem dX2_addMark_92 : decode cX2_addMark 92 = .ok (.iconst 0, 1) := by decide +kernel
theorem dX2_addMark_93 : decode cX2_addMark 93 = .ok (.bastore, 1) := by decide +kernel
theorem dX2_addMark_94 : decode cX2_addMark 94 = .ok (.aload_n 0, 1) := by decide +kernel
theorem dX2_addMark_95 : decode cX2_addMark 95 = .ok (.dup, 1) := by decide +kernel
theorem dX2_addMark_96 : decode cX2_addMark 96 = .ok (.getfield 35, 3) := by decide +kernel
theorem dX2_addMark_99 : decode cX2_addMark 99 = .ok (.iconst 1, 1) := by decide +kernel
theorem dX2_addMark_100 : decode cX2_addMark 100 = .ok (.iadd, 1) := by decide +kernel
theorem dX2_addMark_101 : decode cX2_addMark 101 = .ok (.putfield 35, 3) := by decide +kernel
theorem dX2_addMark_104 : decode cX2_addMark 104 = .ok (.iload 5, 2) := by decide +kernel
theorem dX2_addMark_106 : decode cX2_addMark 106 = .ok (.ireturn, 1) := by decide +kernel
abbrev rm_X2_addMark : Room := { frames := 1, cells := 0, slots := 0, locals := 23 }
theorem w_X2_addMark_b53 {C : zC} (hx : z_ok C cX2_addMark RX2 0) (hn : z_nL C = 6) (hR : z_R C = rm_X2_addMark) {rr : Int × zS} (hq : z_fin C (some .int) (z_QI (z_g C) rr.1 rr.2)) {j : Nat} (hj : j < 6) (σ : zS) (x1 : Int) (x2 : Int) (x3 : Int) (x4 : Int) (x5 : Int) (h : f_X2_addMark_b53 j σ x1 x2 x3 x4 x5 = some rr) : z_W C σ 53 [(0, .ref (z_ad (z_g C) (8 * j))), (1, .int (zi x1)), (2, .int (zi x2)), (3, .int (zi x3)), (4, .int (zi x4)), (5, .int (zi x5))] [] := by
  unfold f_X2_addMark_b53 at h
  refine z_aload_n hx 0 dX2_addMark_53 rfl ?_
  refine gf_X2_kinds hx wf_X2_19 hj dX2_addMark_54 ?_
  refine z_iload hx 5 dX2_addMark_57 rfl ?_
  refine z_iload_n hx 1 dX2_addMark_59 rfl ?_
  refine z_iast hx (n := 20) (z_lt0 (z_ok_sd hx) (by have := hj; omega)) (z_ka2 (z_ok_sd hx) hj) rfl (by decide) dX2_addMark_60 h (fun σ1 h => ?_)
  refine z_aload_n hx 0 dX2_addMark_61 rfl ?_
  refine gf_X2_firsts hx wf_X2_22 hj dX2_addMark_62 ?_
  refine z_iload hx 5 dX2_addMark_65 rfl ?_
  refine z_iload_n hx 2 dX2_addMark_67 rfl ?_
  refine z_iast hx (n := 20) (z_lt0 (z_ok_sd hx) (by have := hj; omega)) (z_ka3 (z_ok_sd hx) hj) rfl (by decide) dX2_addMark_68 h (fun σ2 h => ?_)
  refine z_aload_n hx 0 dX2_addMark_69 rfl ?_
  refine gf_X2_ends hx wf_X2_25 hj dX2_addMark_70 ?_
  refine z_iload hx 5 dX2_addMark_73 rfl ?_
  refine z_iload_n hx 3 dX2_addMark_75 rfl ?_
  refine z_iast hx (n := 20) (z_lt0 (z_ok_sd hx) (by have := hj; omega)) (z_ka4 (z_ok_sd hx) hj) rfl (by decide) dX2_addMark_76 h (fun σ3 h => ?_)
  refine z_aload_n hx 0 dX2_addMark_77 rfl ?_
  refine gf_X2_doubts hx wf_X2_28 hj dX2_addMark_78 ?_
  refine z_iload hx 5 dX2_addMark_81 rfl ?_
  refine z_iload hx 4 dX2_addMark_83 rfl ?_
  refine z_iast hx (n := 20) (z_lt0 (z_ok_sd hx) (by have := hj; omega)) (z_ka5 (z_ok_sd hx) hj) rfl (by decide) dX2_addMark_85 h (fun σ4 h => ?_)
  refine z_aload_n hx 0 dX2_addMark_86 rfl ?_
  refine gf_X2_held hx wf_X2_31 hj dX2_addMark_87 ?_
  refine z_iload hx 5 dX2_addMark_90 rfl ?_
  refine z_iconst hx (n := 0) dX2_addMark_92 ?_
  refine z_zast hx (n := 20) (z_lt0 (z_ok_sd hx) (by have := hj; omega)) (z_ka6 (z_ok_sd hx) hj) rfl (by decide) dX2_addMark_93 h (fun σ5 h => ?_)
  refine z_aload_n hx 0 dX2_addMark_94 rfl ?_
  refine z_dup hx dX2_addMark_95 rfl ?_
  refine gf_X2_marks hx wf_X2_35 hj dX2_addMark_96 ?_
  refine z_iconst hx (n := 1) dX2_addMark_99 ?_
  refine z_iadd hx dX2_addMark_100 ?_
  refine pf_X2_marks hx wf_X2_35 hj dX2_addMark_101 h (fun σ6 h => ?_)
  refine z_iload hx 5 dX2_addMark_104 rfl ?_
  cases h
  exact z_iret hx hq dX2_addMark_106

theorem w_X2_addMark_b18 {C : zC} (hx : z_ok C cX2_addMark RX2 0) (hn : z_nL C = 6) (hR : z_R C = rm_X2_addMark) {rr : Int × zS} (hq : z_fin C (some .int) (z_QI (z_g C) rr.1 rr.2)) {j : Nat} (hj : j < 6) {K18 : zS → Int → Int → Int → Int → Int → Option (Int × zS)} (hK18 : ∀ (σ : zS) (x1 : Int) (x2 : Int) (x3 : Int) (x4 : Int) (x5 : Int) , K18 σ x1 x2 x3 x4 x5 = some rr → z_W C σ 18 [(0, .ref (z_ad (z_g C) (8 * j))), (1, .int (zi x1)), (2, .int (zi x2)), (3, .int (zi x3)), (4, .int (zi x4)), (5, .int (zi x5))] []) (σ : zS) (x1 : Int) (x2 : Int) (x3 : Int) (x4 : Int) (x5 : Int) (h : f_X2_addMark_b18 j K18 σ x1 x2 x3 x4 x5 = some rr) : z_W C σ 18 [(0, .ref (z_ad (z_g C) (8 * j))), (1, .int (zi x1)), (2, .int (zi x2)), (3, .int (zi x3)), (4, .int (zi x4)), (5, .int (zi x5))] [] := by
  unfold f_X2_addMark_b18 at h
  refine z_iload hx 5 dX2_addMark_18 rfl ?_
  refine z_if_le hx (tgt := 53) dX2_addMark_20 (by decide) h (fun h => h) (fun hc h => ?_) (fun hc h => ?_)
  · refine z_sub [0, 1, 2, 3, 4, 5] rfl ?_
    exact w_X2_addMark_b53 hx hn hR hq hj σ x1 x2 x3 x4 x5 h
  · refine z_aload_n hx 0 dX2_addMark_23 rfl ?_
    refine gf_X2_firsts hx wf_X2_22 hj dX2_addMark_24 ?_
    refine z_iload hx 5 dX2_addMark_27 rfl ?_
    refine z_iconst hx (n := 1) dX2_addMark_29 ?_
    refine z_isub hx dX2_addMark_30 ?_
    refine z_iald hx (n := 20) (z_lt0 (z_ok_sd hx) (by have := hj; omega)) (z_ka3 (z_ok_sd hx) hj _) rfl (by decide) dX2_addMark_31 h (fun h => ?_)
    refine z_iload_n hx 2 dX2_addMark_32 rfl ?_
    refine z_icmp_le hx (tgt := 53) dX2_addMark_33 (by decide) h (fun h => h) (fun hc h => ?_) (fun hc h => ?_)
    · refine z_sub [0, 1, 2, 3, 4, 5] rfl ?_
      exact w_X2_addMark_b53 hx hn hR hq hj σ x1 x2 x3 x4 x5 h
    · refine z_aload_n hx 0 dX2_addMark_36 rfl ?_
      refine z_aload_n hx 0 dX2_addMark_37 rfl ?_
      refine z_iload hx 5 dX2_addMark_38 rfl ?_
      refine z_iconst hx (n := 1) dX2_addMark_40 ?_
      refine z_isub hx dX2_addMark_41 ?_
      refine z_iload hx 5 dX2_addMark_42 rfl ?_
      obtain ⟨⟨⟩, σ1, h44, h⟩ := z_bind_some h
      refine z_callv hx (As := [.ref (z_ad (z_g C) (8 * j)), .int (zi (x5 - 1)), .int (zi x5)]) (k := 8 * j) (met_X2_copyMark (z_l C) (z_g C) (z_ok_sd hx) hj hj h44) (z_lt0 (z_ok_sd hx) (by have := hj; omega)) (z_ka0 (z_ok_sd hx) hj _) rfl rfl cv_X2_54 (z_room hR ⟨Nat.le_of_ble_eq_true rfl, Nat.le_of_ble_eq_true rfl⟩) ⟨rfl, rfl⟩ rfl rfl (Nat.le_of_ble_eq_true rfl) dX2_addMark_44 ?_
      refine z_iinc hx hn 5 (lv' := [(5, .int (zi (x5 + (-1)))), (0, .ref (z_ad (z_g C) (8 * j))), (1, .int (zi x1)), (2, .int (zi x2)), (3, .int (zi x3)), (4, .int (zi x4))]) dX2_addMark_47 rfl (by decide) rfl ?_
      refine z_goto hx (tgt := 18) dX2_addMark_50 (by decide) ?_
      refine z_sub [1, 2, 3, 4, 5, 0] rfl ?_
      exact hK18 σ1 x1 x2 x3 x4 (x5 + (-1)) h

theorem w_X2_addMark_l18 {C : zC} (hx : z_ok C cX2_addMark RX2 0) (hn : z_nL C = 6) (hR : z_R C = rm_X2_addMark) {rr : Int × zS} (hq : z_fin C (some .int) (z_QI (z_g C) rr.1 rr.2)) {j : Nat} (hj : j < 6) : ∀ (n : Nat) (σ : zS) (x1 : Int) (x2 : Int) (x3 : Int) (x4 : Int) (x5 : Int) (_ : f_X2_addMark_l18 j n σ x1 x2 x3 x4 x5 = some rr), z_W C σ 18 [(0, .ref (z_ad (z_g C) (8 * j))), (1, .int (zi x1)), (2, .int (zi x2)), (3, .int (zi x3)), (4, .int (zi x4)), (5, .int (zi x5))] [] := by
  intro n
  induction n with
  | zero => intro σ x1 x2 x3 x4 x5 h; cases h
  | succ n ih =>
    intro σ x1 x2 x3 x4 x5 h
    exact w_X2_addMark_b18 hx hn hR hq hj ih σ x1 x2 x3 x4 x5 h
theorem w_X2_addMark {C : zC} (hx : z_ok C cX2_addMark RX2 0) (hn : z_nL C = 6) (hR : z_R C = rm_X2_addMark) {rr : Int × zS} (hq : z_fin C (some .int) (z_QI (z_g C) rr.1 rr.2)) {j : Nat} (hj : j < 6) (σ : zS) (x1 : Int) (x2 : Int) (x3 : Int) (x4 : Int) (h : f_X2_addMark j σ x1 x2 x3 x4 = some rr) : z_W C σ 0 [(0, .ref (z_ad (z_g C) (8 * j))), (1, .int (zi x1)), (2, .int (zi x2)), (3, .int (zi x3)), (4, .int (zi x4))] [] := by
  unfold f_X2_addMark at h
  refine z_aload_n hx 0 dX2_addMark_0 rfl ?_
  refine gf_X2_marks hx wf_X2_35 hj dX2_addMark_1 ?_
  refine z_bipush hx (n := 20) dX2_addMark_4 rfl ?_
  refine z_icmp_lt hx (tgt := 12) dX2_addMark_6 (by decide) h (fun h => ⟨h, by decide⟩) (fun hc h => ?_) (fun hc h => ?_)
  · refine z_aload_n hx 0 dX2_addMark_12 rfl ?_
    refine gf_X2_marks hx wf_X2_35 hj dX2_addMark_13 ?_
    refine z_istore hx hn (lv' := [(5, .int (zi (σ (8 * j) 7))), (0, .ref (z_ad (z_g C) (8 * j))), (1, .int (zi x1)), (2, .int (zi x2)), (3, .int (zi x3)), (4, .int (zi x4))]) dX2_addMark_16 (by decide) rfl ?_
    refine z_sub [1, 2, 3, 4, 5, 0] rfl ?_
    exact w_X2_addMark_l18 hx hn hR hq hj z_fuel σ x1 x2 x3 x4 (σ (8 * j) 7) h
  · refine z_bipush hx (n := (-3)) dX2_addMark_9 rfl ?_
    cases h
    exact z_iret hx hq dX2_addMark_11

theorem met_X2_addMark (l : Launch) (g : zG) (hg : g.1 = 0) {j : Nat} (hj : j < 6) {σ : zS} {x1 : Int} {x2 : Int} {x3 : Int} {x4 : Int} {rr : Int × zS} (h : f_X2_addMark j σ x1 x2 x3 x4 = some rr) : z_Met l yX2_addMark cX2_addMark 6 (some .int) rm_X2_addMark g [.ref (z_ad (g) (8 * j)), .int (zi x1), .int (zi x2), .int (zi x3), .int (zi x4)] σ (z_QI g rr.1 rr.2) := by
  refine z_enter (own := RX2) (sd := 0) (lv0 := [(0, .ref (z_ad (g) (8 * j))), (1, .int (zi x1)), (2, .int (zi x2)), (3, .int (zi x3)), (4, .int (zi x4))]) (by decide) rfl (Nat.le_of_ble_eq_true rfl) hg rfl (fun C hx hl hgC hR hn hq => ?_)
  subst hgC
  refine z_sub [0, 1, 2, 3, 4] rfl ?_
  exact w_X2_addMark hx hn hR hq hj σ x1 x2 x3 x4 h
theorem dX2_removeMark_0 : decode cX2_removeMark 0 = .ok (.aload_n 0, 1) := by decide +kernel
theorem dX2_removeMark_1 : decode cX2_removeMark 1 = .ok (.iload_n 1, 1) := by decide +kernel
theorem dX2_removeMark_2 : decode cX2_removeMark 2 = .ok (.invokevirtual 58, 3) := by decide +kernel
theorem dX2_removeMark_5 : decode cX2_removeMark 5 = .ok (.ifCond .ne 4, 3) := by decide +kernel
theorem dX2_removeMark_8 : decode cX2_removeMark 8 = .ok (.return_, 1) := by decide +kernel
theorem dX2_removeMark_9 : decode cX2_removeMark 9 = .ok (.iload_n 1, 1) := by decide +kernel
theorem dX2_removeMark_10 : decode cX2_removeMark 10 = .ok (.istore_n 2, 1) := by decide +kernel
theorem dX2_removeMark_11 : decode cX2_removeMark 11 = .ok (.iload_n 2, 1) := by decide +kernel
theorem dX2_removeMark_12 : decode cX2_removeMark 12 = .ok (.iconst 1, 1) := by decide +kernel
theorem dX2_removeMark_13 : decode cX2_removeMark 13 = .ok (.iadd, 1) := by decide +kernel
theorem dX2_removeMark_14 : decode cX2_removeMark 14 = .ok (.aload_n 0, 1) := by decide +kernel
theorem dX2_removeMark_15 : decode cX2_removeMark 15 = .ok (.getfield 35, 3) := by decide +kernel
theorem dX2_removeMark_18 : decode cX2_removeMark 18 = .ok (.if_icmp .ge 18, 3) := by decide +kernel
theorem dX2_removeMark_21 : decode cX2_removeMark 21 = .ok (.aload_n 0, 1) := by decide +kernel
theorem dX2_removeMark_22 : decode cX2_removeMark 22 = .ok (.aload_n 0, 1) := by decide +kernel
theorem dX2_removeMark_23 : decode cX2_removeMark 23 = .ok (.iload_n 2, 1) := by decide +kernel
theorem dX2_removeMark_24 : decode cX2_removeMark 24 = .ok (.iconst 1, 1) := by decide +kernel
theorem dX2_removeMark_25 : decode cX2_removeMark 25 = .ok (.iadd, 1) := by decide +kernel
theorem dX2_removeMark_26 : decode cX2_removeMark 26 = .ok (.iload_n 2, 1) := by decide +kernel
theorem dX2_removeMark_27 : decode cX2_removeMark 27 = .ok (.invokevirtual 54, 3) := by decide +kernel
theorem dX2_removeMark_30 : decode cX2_removeMark 30 = .ok (.iinc 2 1, 3) := by decide +kernel
theorem dX2_removeMark_33 : decode cX2_removeMark 33 = .ok (.goto (-22), 3) := by decide +kernel
theorem dX2_removeMark_36 : decode cX2_removeMark 36 = .ok (.aload_n 0, 1) := by decide +kernel
theorem dX2_removeMark_37 : decode cX2_removeMark 37 = .ok (.dup, 1) := by decide +kernel
theorem dX2_removeMark_38 : decode cX2_removeMark 38 = .ok (.getfield 35, 3) := by decide +kernel
theorem dX2_removeMark_41 : decode cX2_removeMark 41 = .ok (.iconst 1, 1) := by decide +kernel
theorem dX2_removeMark_42 : decode cX2_removeMark 42 = .ok (.isub, 1) := by decide +kernel
theorem dX2_removeMark_43 : decode cX2_removeMark 43 = .ok (.putfield 35, 3) := by decide +kernel
theorem dX2_removeMark_46 : decode cX2_removeMark 46 = .ok (.return_, 1) := by decide +kernel
abbrev rm_X2_removeMark : Room := { frames := 1, cells := 0, slots := 0, locals := 23 }
theorem w_X2_removeMark_b11 {C : zC} (hx : z_ok C cX2_removeMark RX2 0) (hn : z_nL C = 3) (hR : z_R C = rm_X2_removeMark) {rr : Unit × zS} (hq : z_fin C none (z_QV (z_g C) rr.2)) {j : Nat} (hj : j < 6) {K11 : zS → Int → Option (Unit × zS)} (hK11 : ∀ (σ : zS) (x2 : Int) , K11 σ x2 = some rr → z_W C σ 11 [(0, .ref (z_ad (z_g C) (8 * j))), (2, .int (zi x2))] []) (σ : zS) (x2 : Int) (h : f_X2_removeMark_b11 j K11 σ x2 = some rr) : z_W C σ 11 [(0, .ref (z_ad (z_g C) (8 * j))), (2, .int (zi x2))] [] := by
  unfold f_X2_removeMark_b11 at h
  refine z_iload_n hx 1 dX2_removeMark_11 rfl ?_
  refine z_iconst hx (n := 1) dX2_removeMark_12 ?_
  refine z_iadd hx dX2_removeMark_13 ?_
  refine z_aload_n hx 0 dX2_removeMark_14 rfl ?_
  refine gf_X2_marks hx wf_X2_35 hj dX2_removeMark_15 ?_
  refine z_icmp_ge hx (tgt := 36) dX2_removeMark_18 (by decide) h (fun h => h) (fun hc h => ?_) (fun hc h => ?_)
  · refine z_aload_n hx 0 dX2_removeMark_36 rfl ?_
    refine z_dup hx dX2_removeMark_37 rfl ?_
    refine gf_X2_marks hx wf_X2_35 hj dX2_removeMark_38 ?_
    refine z_iconst hx (n := 1) dX2_removeMark_41 ?_
    refine z_isub hx dX2_removeMark_42 ?_
    refine pf_X2_marks hx wf_X2_35 hj dX2_removeMark_43 h (fun σ1 h => ?_)
    cases h
    exact z_vret hx hq dX2_removeMark_46
  · refine z_aload_n hx 0 dX2_removeMark_21 rfl ?_
    refine z_aload_n hx 0 dX2_removeMark_22 rfl ?_
    refine z_iload_n hx 1 dX2_removeMark_23 rfl ?_
    refine z_iconst hx (n := 1) dX2_removeMark_24 ?_
    refine z_iadd hx dX2_removeMark_25 ?_
    refine z_iload_n hx 1 dX2_removeMark_26 rfl ?_
    obtain ⟨⟨⟩, σ2, h27, h⟩ := z_bind_some h
    refine z_callv hx (As := [.ref (z_ad (z_g C) (8 * j)), .int (zi (x2 + 1)), .int (zi x2)]) (k := 8 * j) (met_X2_copyMark (z_l C) (z_g C) (z_ok_sd hx) hj hj h27) (z_lt0 (z_ok_sd hx) (by have := hj; omega)) (z_ka0 (z_ok_sd hx) hj _) rfl rfl cv_X2_54 (z_room hR ⟨Nat.le_of_ble_eq_true rfl, Nat.le_of_ble_eq_true rfl⟩) ⟨rfl, rfl⟩ rfl rfl (Nat.le_of_ble_eq_true rfl) dX2_removeMark_27 ?_
    refine z_iinc hx hn 1 (lv' := [(2, .int (zi (x2 + 1))), (0, .ref (z_ad (z_g C) (8 * j)))]) dX2_removeMark_30 rfl (by decide) rfl ?_
    refine z_goto hx (tgt := 11) dX2_removeMark_33 (by decide) ?_
    refine z_sub [1, 0] rfl ?_
    exact hK11 σ2 (x2 + 1) h

theorem w_X2_removeMark_l11 {C : zC} (hx : z_ok C cX2_removeMark RX2 0) (hn : z_nL C = 3) (hR : z_R C = rm_X2_removeMark) {rr : Unit × zS} (hq : z_fin C none (z_QV (z_g C) rr.2)) {j : Nat} (hj : j < 6) : ∀ (n : Nat) (σ : zS) (x2 : Int) (_ : f_X2_removeMark_l11 j n σ x2 = some rr), z_W C σ 11 [(0, .ref (z_ad (z_g C) (8 * j))), (2, .int (zi x2))] [] := by
  intro n
  induction n with
  | zero => intro σ x2 h; cases h
  | succ n ih =>
    intro σ x2 h
    exact w_X2_removeMark_b11 hx hn hR hq hj ih σ x2 h
theorem w_X2_removeMark {C : zC} (hx : z_ok C cX2_removeMark RX2 0) (hn : z_nL C = 3) (hR : z_R C = rm_X2_removeMark) {rr : Unit × zS} (hq : z_fin C none (z_QV (z_g C) rr.2)) {j : Nat} (hj : j < 6) (σ : zS) (x1 : Int) (h : f_X2_removeMark j σ x1 = some rr) : z_W C σ 0 [(0, .ref (z_ad (z_g C) (8 * j))), (1, .int (zi x1))] [] := by
  unfold f_X2_removeMark at h
  refine z_aload_n hx 0 dX2_removeMark_0 rfl ?_
  refine z_iload_n hx 1 dX2_removeMark_1 rfl ?_
  obtain ⟨r2, σ1, h2, h⟩ := z_bind_some h
  refine z_calli hx (As := [.int (zi x1)]) (k := 8 * j) (met_X2_hasMark (z_l C) (z_g C) (z_ok_sd hx) hj h2) (z_lt0 (z_ok_sd hx) (by have := hj; omega)) (z_ka0 (z_ok_sd hx) hj _) rfl rfl cv_X2_58 (z_room hR ⟨Nat.le_of_ble_eq_true rfl, Nat.le_of_ble_eq_true rfl⟩) ⟨rfl, rfl⟩ rfl rfl (Nat.le_of_ble_eq_true rfl) dX2_removeMark_2 ?_
  refine z_if_ne hx (tgt := 9) dX2_removeMark_5 (by decide) h (fun h => h) (fun hc h => ?_) (fun hc h => ?_)
  · refine z_iload_n hx 1 dX2_removeMark_9 rfl ?_
    refine z_istore_n hx hn (lv' := [(2, .int (zi x1)), (0, .ref (z_ad (z_g C) (8 * j))), (1, .int (zi x1))]) dX2_removeMark_10 (by decide) rfl ?_
    refine z_sub [1, 0] rfl ?_
    exact w_X2_removeMark_l11 hx hn hR hq hj z_fuel σ1 x1 h
  · cases h
    exact z_vret hx hq dX2_removeMark_8

theorem met_X2_removeMark (l : Launch) (g : zG) (hg : g.1 = 0) {j : Nat} (hj : j < 6) {σ : zS} {x1 : Int} {rr : Unit × zS} (h : f_X2_removeMark j σ x1 = some rr) : z_Met l yX2_removeMark cX2_removeMark 3 none rm_X2_removeMark g [.ref (z_ad (g) (8 * j)), .int (zi x1)] σ (z_QV g rr.2) := by
  refine z_enter (own := RX2) (sd := 0) (lv0 := [(0, .ref (z_ad (g) (8 * j))), (1, .int (zi x1))]) (by decide) rfl (Nat.le_of_ble_eq_true rfl) hg rfl (fun C hx hl hgC hR hn hq => ?_)
  subst hgC
  refine z_sub [0, 1] rfl ?_
  exact w_X2_removeMark hx hn hR hq hj σ x1 h
theorem dX2_numberOfMark_0 : decode cX2_numberOfMark 0 = .ok (.aload_n 0, 1) := by decide +kernel
theorem dX2_numberOfMark_1 : decode cX2_numberOfMark 1 = .ok (.iload_n 1, 1) := by decide +kernel
theorem dX2_numberOfMark_2 : decode cX2_numberOfMark 2 = .ok (.invokevirtual 58, 3) := by decide +kernel
theorem dX2_numberOfMark_5 : decode cX2_numberOfMark 5 = .ok (.ifCond .ne 5, 3) := by decide +kernel
theorem dX2_numberOfMark_8 : decode cX2_numberOfMark 8 = .ok (.iconst (-1), 1) := by decide +kernel
theorem dX2_numberOfMark_9 : decode cX2_numberOfMark 9 = .ok (.ireturn, 1) := by decide +kernel
theorem dX2_numberOfMark_10 : decode cX2_numberOfMark 10 = .ok (.iload_n 2, 1) := by decide +kernel
theorem dX2_numberOfMark_11 : decode cX2_numberOfMark 11 = .ok (.tableswitch 76 0 4 #[33, 40, 47, 54, 61], 33) := by decide +kernel
theorem dX2_numberOfMark_44 : decode cX2_numberOfMark 44 = .ok (.aload_n 0, 1) := by decide +kernel
theorem dX2_numberOfMark_45 : decode cX2_numberOfMark 45 = .ok (.getfield 19, 3) := by decide +kernel
theorem dX2_numberOfMark_48 : decode cX2_numberOfMark 48 = .ok (.iload_n 1, 1) := by decide +kernel
theorem dX2_numberOfMark_49 : decode cX2_numberOfMark 49 = .ok (.iaload, 1) := by decide +kernel
theorem dX2_numberOfMark_50 : decode cX2_numberOfMark 50 = .ok (.ireturn, 1) := by decide +kernel
theorem dX2_numberOfMark_51 : decode cX2_numberOfMark 51 = .ok (.aload_n 0, 1) := by decide +kernel
theorem dX2_numberOfMark_52 : decode cX2_numberOfMark 52 = .ok (.getfield 22, 3) := by decide +kernel
theorem dX2_numberOfMark_55 : decode cX2_numberOfMark 55 = .ok (.iload_n 1, 1) := by decide +kernel
theorem dX2_numberOfMark_56 : decode cX2_numberOfMark 56 = .ok (.iaload, 1) := by decide +kernel
theorem dX2_numberOfMark_57 : decode cX2_numberOfMark 57 = .ok (.ireturn, 1) := by decide +kernel
theorem dX2_numberOfMark_58 : decode cX2_numberOfMark 58 = .ok (.aload_n 0, 1) := by decide +kernel
theorem dX2_numberOfMark_59 : decode cX2_numberOfMark 59 = .ok (.getfield 25, 3) := by decide +kernel
theorem dX2_numberOfMark_62 : decode cX2_numberOfMark 62 = .ok (.iload_n 1, 1) := by decide +kernel
theorem dX2_numberOfMark_63 : decode cX2_numberOfMark 63 = .ok (.iaload, 1) := by decide +kernel
theorem dX2_numberOfMark_64 : decode cX2_numberOfMark 64 = .ok (.ireturn, 1) := by decide +kernel
theorem dX2_numberOfMark_65 : decode cX2_numberOfMark 65 = .ok (.aload_n 0, 1) := by decide +kernel
theorem dX2_numberOfMark_66 : decode cX2_numberOfMark 66 = .ok (.getfield 28, 3) := by decide +kernel
theorem dX2_numberOfMark_69 : decode cX2_numberOfMark 69 = .ok (.iload_n 1, 1) := by decide +kernel
theorem dX2_numberOfMark_70 : decode cX2_numberOfMark 70 = .ok (.iaload, 1) := by decide +kernel
theorem dX2_numberOfMark_71 : decode cX2_numberOfMark 71 = .ok (.ireturn, 1) := by decide +kernel
theorem dX2_numberOfMark_72 : decode cX2_numberOfMark 72 = .ok (.aload_n 0, 1) := by decide +kernel
theorem dX2_numberOfMark_73 : decode cX2_numberOfMark 73 = .ok (.getfield 31, 3) := by decide +kernel
theorem dX2_numberOfMark_76 : decode cX2_numberOfMark 76 = .ok (.iload_n 1, 1) := by decide +kernel
theorem dX2_numberOfMark_77 : decode cX2_numberOfMark 77 = .ok (.baload, 1) := by decide +kernel
theorem dX2_numberOfMark_78 : decode cX2_numberOfMark 78 = .ok (.ifCond .eq 7, 3) := by decide +kernel
theorem dX2_numberOfMark_81 : decode cX2_numberOfMark 81 = .ok (.iconst 1, 1) := by decide +kernel
theorem dX2_numberOfMark_82 : decode cX2_numberOfMark 82 = .ok (.goto 4, 3) := by decide +kernel
theorem dX2_numberOfMark_85 : decode cX2_numberOfMark 85 = .ok (.iconst 0, 1) := by decide +kernel
theorem dX2_numberOfMark_86 : decode cX2_numberOfMark 86 = .ok (.ireturn, 1) := by decide +kernel
theorem dX2_numberOfMark_87 : decode cX2_numberOfMark 87 = .ok (.iconst (-1), 1) := by decide +kernel
theorem dX2_numberOfMark_88 : decode cX2_numberOfMark 88 = .ok (.ireturn, 1) := by decide +kernel
abbrev rm_X2_numberOfMark : Room := { frames := 1, cells := 0, slots := 0, locals := 21 }
theorem w_X2_numberOfMark_b86 {C : zC} (hx : z_ok C cX2_numberOfMark RX2 0) (hn : z_nL C = 3) (hR : z_R C = rm_X2_numberOfMark) {rr : Int × zS} (hq : z_fin C (some .int) (z_QI (z_g C) rr.1 rr.2)) {j : Nat} (hj : j < 6) (σ : zS) (s0 : Int) (h : f_X2_numberOfMark_b86 j σ s0 = some rr) : z_W C σ 86 [] [.int (zi s0)] := by
  unfold f_X2_numberOfMark_b86 at h
  cases h
  exact z_iret hx hq dX2_numberOfMark_86

theorem w_X2_numberOfMark {C : zC} (hx : z_ok C cX2_numberOfMark RX2 0) (hn : z_nL C = 3) (hR : z_R C = rm_X2_numberOfMark) {rr : Int × zS} (hq : z_fin C (some .int) (z_QI (z_g C) rr.1 rr.2)) {j : Nat} (hj : j < 6) (σ : zS) (x1 : Int) (x2 : Int) (h : f_X2_numberOfMark j σ x1 x2 = some rr) : z_W C σ 0 [(0, .ref (z_ad (z_g C) (8 * j))), (1, .int (zi x1)), (2, .int (zi x2))] [] := by
  unfold f_X2_numberOfMark at h
  refine z_aload_n hx 0 dX2_numberOfMark_0 rfl ?_
  refine z_iload_n hx 1 dX2_numberOfMark_1 rfl ?_
  obtain ⟨r2, σ1, h2, h⟩ := z_bind_some h
  refine z_calli hx (As := [.int (zi x1)]) (k := 8 * j) (met_X2_hasMark (z_l C) (z_g C) (z_ok_sd hx) hj h2) (z_lt0 (z_ok_sd hx) (by have := hj; omega)) (z_ka0 (z_ok_sd hx) hj _) rfl rfl cv_X2_58 (z_room hR ⟨Nat.le_of_ble_eq_true rfl, Nat.le_of_ble_eq_true rfl⟩) ⟨rfl, rfl⟩ rfl rfl (Nat.le_of_ble_eq_true rfl) dX2_numberOfMark_2 ?_
  refine z_if_ne hx (tgt := 10) dX2_numberOfMark_5 (by decide) h (fun h => h) (fun hc h => ?_) (fun hc h => ?_)
  · refine z_iload_n hx 2 dX2_numberOfMark_10 rfl ?_
    obtain ⟨hr, h⟩ := z_gd h
    by_cases hc0 : x2 = 0
    · rw [if_pos hc0] at h
      refine z_tswIn hx (tgt := 44) (off := 33) dX2_numberOfMark_11 hr (by omega) (by omega) (by rw [hc0]; rfl) (by decide) ?_
      refine z_aload_n hx 0 dX2_numberOfMark_44 rfl ?_
      refine gf_X2_kinds hx wf_X2_19 hj dX2_numberOfMark_45 ?_
      refine z_iload_n hx 1 dX2_numberOfMark_48 rfl ?_
      refine z_iald hx (n := 20) (z_lt0 (z_ok_sd hx) (by have := hj; omega)) (z_ka2 (z_ok_sd hx) hj _) rfl (by decide) dX2_numberOfMark_49 h (fun h => ?_)
      cases h
      exact z_iret hx hq dX2_numberOfMark_50
    · rw [if_neg hc0] at h
      by_cases hc1 : x2 = 1
      · rw [if_pos hc1] at h
        refine z_tswIn hx (tgt := 51) (off := 40) dX2_numberOfMark_11 hr (by omega) (by omega) (by rw [hc1]; rfl) (by decide) ?_
        refine z_aload_n hx 0 dX2_numberOfMark_51 rfl ?_
        refine gf_X2_firsts hx wf_X2_22 hj dX2_numberOfMark_52 ?_
        refine z_iload_n hx 1 dX2_numberOfMark_55 rfl ?_
        refine z_iald hx (n := 20) (z_lt0 (z_ok_sd hx) (by have := hj; omega)) (z_ka3 (z_ok_sd hx) hj _) rfl (by decide) dX2_numberOfMark_56 h (fun h => ?_)
        cases h
        exact z_iret hx hq dX2_numberOfMark_57
      · rw [if_neg hc1] at h
        by_cases hc2 : x2 = 2
        · rw [if_pos hc2] at h
          refine z_tswIn hx (tgt := 58) (off := 47) dX2_numberOfMark_11 hr (by omega) (by omega) (by rw [hc2]; rfl) (by decide) ?_
          refine z_aload_n hx 0 dX2_numberOfMark_58 rfl ?_
          refine gf_X2_ends hx wf_X2_25 hj dX2_numberOfMark_59 ?_
          refine z_iload_n hx 1 dX2_numberOfMark_62 rfl ?_
          refine z_iald hx (n := 20) (z_lt0 (z_ok_sd hx) (by have := hj; omega)) (z_ka4 (z_ok_sd hx) hj _) rfl (by decide) dX2_numberOfMark_63 h (fun h => ?_)
          cases h
          exact z_iret hx hq dX2_numberOfMark_64
        · rw [if_neg hc2] at h
          by_cases hc3 : x2 = 3
          · rw [if_pos hc3] at h
            refine z_tswIn hx (tgt := 65) (off := 54) dX2_numberOfMark_11 hr (by omega) (by omega) (by rw [hc3]; rfl) (by decide) ?_
            refine z_aload_n hx 0 dX2_numberOfMark_65 rfl ?_
            refine gf_X2_doubts hx wf_X2_28 hj dX2_numberOfMark_66 ?_
            refine z_iload_n hx 1 dX2_numberOfMark_69 rfl ?_
            refine z_iald hx (n := 20) (z_lt0 (z_ok_sd hx) (by have := hj; omega)) (z_ka5 (z_ok_sd hx) hj _) rfl (by decide) dX2_numberOfMark_70 h (fun h => ?_)
            cases h
            exact z_iret hx hq dX2_numberOfMark_71
          · rw [if_neg hc3] at h
            by_cases hc4 : x2 = 4
            · rw [if_pos hc4] at h
              refine z_tswIn hx (tgt := 72) (off := 61) dX2_numberOfMark_11 hr (by omega) (by omega) (by rw [hc4]; rfl) (by decide) ?_
              refine z_aload_n hx 0 dX2_numberOfMark_72 rfl ?_
              refine gf_X2_held hx wf_X2_31 hj dX2_numberOfMark_73 ?_
              refine z_iload_n hx 1 dX2_numberOfMark_76 rfl ?_
              refine z_zald hx (n := 20) (z_lt0 (z_ok_sd hx) (by have := hj; omega)) (z_ka6 (z_ok_sd hx) hj _) rfl (by decide) dX2_numberOfMark_77 h (fun h => ?_)
              refine z_if_eq hx (tgt := 85) dX2_numberOfMark_78 (by decide) h (fun h => h) (fun hc h => ?_) (fun hc h => ?_)
              · refine z_iconst hx (n := 0) dX2_numberOfMark_85 ?_
                refine z_sub [] rfl ?_
                exact w_X2_numberOfMark_b86 hx hn hR hq hj σ1 0 h
              · refine z_iconst hx (n := 1) dX2_numberOfMark_81 ?_
                refine z_goto hx (tgt := 86) dX2_numberOfMark_82 (by decide) ?_
                refine z_sub [] rfl ?_
                exact w_X2_numberOfMark_b86 hx hn hR hq hj σ1 1 h
            · rw [if_neg hc4] at h
              refine z_tswOut hx (tgt := 87) dX2_numberOfMark_11 hr (by omega) (by decide) ?_
              refine z_iconst hx (n := (-1)) dX2_numberOfMark_87 ?_
              cases h
              exact z_iret hx hq dX2_numberOfMark_88
  · refine z_iconst hx (n := (-1)) dX2_numberOfMark_8 ?_
    cases h
    exact z_iret hx hq dX2_numberOfMark_9

theorem met_X2_numberOfMark (l : Launch) (g : zG) (hg : g.1 = 0) {j : Nat} (hj : j < 6) {σ : zS} {x1 : Int} {x2 : Int} {rr : Int × zS} (h : f_X2_numberOfMark j σ x1 x2 = some rr) : z_Met l yX2_numberOfMark cX2_numberOfMark 3 (some .int) rm_X2_numberOfMark g [.ref (z_ad (g) (8 * j)), .int (zi x1), .int (zi x2)] σ (z_QI g rr.1 rr.2) := by
  refine z_enter (own := RX2) (sd := 0) (lv0 := [(0, .ref (z_ad (g) (8 * j))), (1, .int (zi x1)), (2, .int (zi x2))]) (by decide) rfl (Nat.le_of_ble_eq_true rfl) hg rfl (fun C hx hl hgC hR hn hq => ?_)
  subst hgC
  refine z_sub [0, 1, 2] rfl ?_
  exact w_X2_numberOfMark hx hn hR hq hj σ x1 x2 h
theorem dX2_hasFillerOfDoubt_0 : decode cX2_hasFillerOfDoubt 0 = .ok (.iconst 0, 1) := by decide +kernel
theorem dX2_hasFillerOfDoubt_1 : decode cX2_hasFillerOfDoubt 1 = .ok (.istore_n 2, 1) := by decide +kernel
theorem dX2_hasFillerOfDoubt_2 : decode cX2_hasFillerOfDoubt 2 = .ok (.iload_n 2, 1) := by decide +kernel
theorem dX2_hasFillerOfDoubt_3 : decode cX2_hasFillerOfDoubt 3 = .ok (.aload_n 0, 1) := by decide +kernel
theorem dX2_hasFillerOfDoubt_4 : decode cX2_hasFillerOfDoubt 4 = .ok (.getfield 35, 3) := by decide +kernel
theorem dX2_hasFillerOfDoubt_7 : decode cX2_hasFillerOfDoubt 7 = .ok (.if_icmp .ge 30, 3) := by decide +kernel
theorem dX2_hasFillerOfDoubt_10 : decode cX2_hasFillerOfDoubt 10 = .ok (.aload_n 0, 1) := by decide +kernel
theorem dX2_hasFillerOfDoubt_11 : decode cX2_hasFillerOfDoubt 11 = .ok (.getfield 19, 3) := by decide +kernel
theorem dX2_hasFillerOfDoubt_14 : decode cX2_hasFillerOfDoubt 14 = .ok (.iload_n 2, 1) := by decide +kernel
theorem dX2_hasFillerOfDoubt_15 : decode cX2_hasFillerOfDoubt 15 = .ok (.iaload, 1) := by decide +kernel
theorem dX2_hasFillerOfDoubt_16 : decode cX2_hasFillerOfDoubt 16 = .ok (.ifCond .ne 15, 3) := by decide +kernel
theorem dX2_hasFillerOfDoubt_19 : decode cX2_hasFillerOfDoubt 19 = .ok (.aload_n 0, 1) := by decide +kernel
theorem dX2_hasFillerOfDoubt_20 : decode cX2_hasFillerOfDoubt 20 = .ok (.getfield 28, 3) := by decide +kernel
theorem dX2_hasFillerOfDoubt_23 : decode cX2_hasFillerOfDoubt 23 = .ok (.iload_n 2, 1) := by decide +kernel
theorem dX2_hasFillerOfDoubt_24 : decode cX2_hasFillerOfDoubt 24 = .ok (.iaload, 1) := by decide +kernel
theorem dX2_hasFillerOfDoubt_25 : decode cX2_hasFillerOfDoubt 25 = .ok (.iload_n 1, 1) := by decide +kernel
theorem dX2_hasFillerOfDoubt_26 : decode cX2_hasFillerOfDoubt 26 = .ok (.if_icmp .ne 5, 3) := by decide +kernel
theorem dX2_hasFillerOfDoubt_29 : decode cX2_hasFillerOfDoubt 29 = .ok (.iconst 1, 1) := by decide +kernel
theorem dX2_hasFillerOfDoubt_30 : decode cX2_hasFillerOfDoubt 30 = .ok (.ireturn, 1) := by decide +kernel
theorem dX2_hasFillerOfDoubt_31 : decode cX2_hasFillerOfDoubt 31 = .ok (.iinc 2 1, 3) := by decide +kernel
theorem dX2_hasFillerOfDoubt_34 : decode cX2_hasFillerOfDoubt 34 = .ok (.goto (-32), 3) := by decide +kernel
theorem dX2_hasFillerOfDoubt_37 : decode cX2_hasFillerOfDoubt 37 = .ok (.iconst 0, 1) := by decide +kernel
theorem dX2_hasFillerOfDoubt_38 : decode cX2_hasFillerOfDoubt 38 = .ok (.ireturn, 1) := by decide +kernel
abbrev rm_X2_hasFillerOfDoubt : Room := { frames := 0, cells := 0, slots := 0, locals := 0 }
theorem w_X2_hasFillerOfDoubt_b31 {C : zC} (hx : z_ok C cX2_hasFillerOfDoubt RX2 0) (hn : z_nL C = 3) (hR : z_R C = rm_X2_hasFillerOfDoubt) {rr : Int × zS} (hq : z_fin C (some .boolean) (z_QI (z_g C) rr.1 rr.2)) {j : Nat} (hj : j < 6) {K2 : zS → Int → Int → Option (Int × zS)} (hK2 : ∀ (σ : zS) (x1 : Int) (x2 : Int) , K2 σ x1 x2 = some rr → z_W C σ 2 [(0, .ref (z_ad (z_g C) (8 * j))), (1, .int (zi x1)), (2, .int (zi x2))] []) (σ : zS) (x1 : Int) (x2 : Int) (h : f_X2_hasFillerOfDoubt_b31 j K2 σ x1 x2 = some rr) : z_W C σ 31 [(0, .ref (z_ad (z_g C) (8 * j))), (1, .int (zi x1)), (2, .int (zi x2))] [] := by
  unfold f_X2_hasFillerOfDoubt_b31 at h
  refine z_iinc hx hn 2 (lv' := [(2, .int (zi (x2 + 1))), (0, .ref (z_ad (z_g C) (8 * j))), (1, .int (zi x1))]) dX2_hasFillerOfDoubt_31 rfl (by decide) rfl ?_
  refine z_goto hx (tgt := 2) dX2_hasFillerOfDoubt_34 (by decide) ?_
  refine z_sub [1, 2, 0] rfl ?_
  exact hK2 σ x1 (x2 + 1) h

theorem w_X2_hasFillerOfDoubt_b2 {C : zC} (hx : z_ok C cX2_hasFillerOfDoubt RX2 0) (hn : z_nL C = 3) (hR : z_R C = rm_X2_hasFillerOfDoubt) {rr : Int × zS} (hq : z_fin C (some .boolean) (z_QI (z_g C) rr.1 rr.2)) {j : Nat} (hj : j < 6) {K2 : zS → Int → Int → Option (Int × zS)} (hK2 : ∀ (σ : zS) (x1 : Int) (x2 : Int) , K2 σ x1 x2 = some rr → z_W C σ 2 [(0, .ref (z_ad (z_g C) (8 * j))), (1, .int (zi x1)), (2, .int (zi x2))] []) (σ : zS) (x1 : Int) (x2 : Int) (h : f_X2_hasFillerOfDoubt_b2 j K2 σ x1 x2 = some rr) : z_W C σ 2 [(0, .ref (z_ad (z_g C) (8 * j))), (1, .int (zi x1)), (2, .int (zi x2))] [] := by
  unfold f_X2_hasFillerOfDoubt_b2 at h
  refine z_iload_n hx 2 dX2_hasFillerOfDoubt_2 rfl ?_
  refine z_aload_n hx 0 dX2_hasFillerOfDoubt_3 rfl ?_
  refine gf_X2_marks hx wf_X2_35 hj dX2_hasFillerOfDoubt_4 ?_
  refine z_icmp_ge hx (tgt := 37) dX2_hasFillerOfDoubt_7 (by decide) h (fun h => h) (fun hc h => ?_) (fun hc h => ?_)
  · refine z_iconst hx (n := 0) dX2_hasFillerOfDoubt_37 ?_
    cases h
    exact z_zret hx (by decide) hq dX2_hasFillerOfDoubt_38
  · refine z_aload_n hx 0 dX2_hasFillerOfDoubt_10 rfl ?_
    refine gf_X2_kinds hx wf_X2_19 hj dX2_hasFillerOfDoubt_11 ?_
    refine z_iload_n hx 2 dX2_hasFillerOfDoubt_14 rfl ?_
    refine z_iald hx (n := 20) (z_lt0 (z_ok_sd hx) (by have := hj; omega)) (z_ka2 (z_ok_sd hx) hj _) rfl (by decide) dX2_hasFillerOfDoubt_15 h (fun h => ?_)
    refine z_if_ne hx (tgt := 31) dX2_hasFillerOfDoubt_16 (by decide) h (fun h => h) (fun hc h => ?_) (fun hc h => ?_)
    · refine z_sub [0, 1, 2] rfl ?_
      exact w_X2_hasFillerOfDoubt_b31 hx hn hR hq hj hK2 σ x1 x2 h
    · refine z_aload_n hx 0 dX2_hasFillerOfDoubt_19 rfl ?_
      refine gf_X2_doubts hx wf_X2_28 hj dX2_hasFillerOfDoubt_20 ?_
      refine z_iload_n hx 2 dX2_hasFillerOfDoubt_23 rfl ?_
      refine z_iald hx (n := 20) (z_lt0 (z_ok_sd hx) (by have := hj; omega)) (z_ka5 (z_ok_sd hx) hj _) rfl (by decide) dX2_hasFillerOfDoubt_24 h (fun h => ?_)
      refine z_iload_n hx 1 dX2_hasFillerOfDoubt_25 rfl ?_
      refine z_icmp_ne hx (tgt := 31) dX2_hasFillerOfDoubt_26 (by decide) h (fun h => h) (fun hc h => ?_) (fun hc h => ?_)
      · refine z_sub [0, 1, 2] rfl ?_
        exact w_X2_hasFillerOfDoubt_b31 hx hn hR hq hj hK2 σ x1 x2 h
      · refine z_iconst hx (n := 1) dX2_hasFillerOfDoubt_29 ?_
        cases h
        exact z_zret hx (by decide) hq dX2_hasFillerOfDoubt_30

theorem w_X2_hasFillerOfDoubt_l2 {C : zC} (hx : z_ok C cX2_hasFillerOfDoubt RX2 0) (hn : z_nL C = 3) (hR : z_R C = rm_X2_hasFillerOfDoubt) {rr : Int × zS} (hq : z_fin C (some .boolean) (z_QI (z_g C) rr.1 rr.2)) {j : Nat} (hj : j < 6) : ∀ (n : Nat) (σ : zS) (x1 : Int) (x2 : Int) (_ : f_X2_hasFillerOfDoubt_l2 j n σ x1 x2 = some rr), z_W C σ 2 [(0, .ref (z_ad (z_g C) (8 * j))), (1, .int (zi x1)), (2, .int (zi x2))] [] := by
  intro n
  induction n with
  | zero => intro σ x1 x2 h; cases h
  | succ n ih =>
    intro σ x1 x2 h
    exact w_X2_hasFillerOfDoubt_b2 hx hn hR hq hj ih σ x1 x2 h
theorem w_X2_hasFillerOfDoubt {C : zC} (hx : z_ok C cX2_hasFillerOfDoubt RX2 0) (hn : z_nL C = 3) (hR : z_R C = rm_X2_hasFillerOfDoubt) {rr : Int × zS} (hq : z_fin C (some .boolean) (z_QI (z_g C) rr.1 rr.2)) {j : Nat} (hj : j < 6) (σ : zS) (x1 : Int) (h : f_X2_hasFillerOfDoubt j σ x1 = some rr) : z_W C σ 0 [(0, .ref (z_ad (z_g C) (8 * j))), (1, .int (zi x1))] [] := by
  unfold f_X2_hasFillerOfDoubt at h
  refine z_iconst hx (n := 0) dX2_hasFillerOfDoubt_0 ?_
  refine z_istore_n hx hn (lv' := [(2, .int (zi 0)), (0, .ref (z_ad (z_g C) (8 * j))), (1, .int (zi x1))]) dX2_hasFillerOfDoubt_1 (by decide) rfl ?_
  refine z_sub [1, 2, 0] rfl ?_
  exact w_X2_hasFillerOfDoubt_l2 hx hn hR hq hj z_fuel σ x1 0 h

theorem met_X2_hasFillerOfDoubt (l : Launch) (g : zG) (hg : g.1 = 0) {j : Nat} (hj : j < 6) {σ : zS} {x1 : Int} {rr : Int × zS} (h : f_X2_hasFillerOfDoubt j σ x1 = some rr) : z_Met l yX2_hasFillerOfDoubt cX2_hasFillerOfDoubt 3 (some .boolean) rm_X2_hasFillerOfDoubt g [.ref (z_ad (g) (8 * j)), .int (zi x1)] σ (z_QI g rr.1 rr.2) := by
  refine z_enter (own := RX2) (sd := 0) (lv0 := [(0, .ref (z_ad (g) (8 * j))), (1, .int (zi x1))]) (by decide) rfl (Nat.le_of_ble_eq_true rfl) hg rfl (fun C hx hl hgC hR hn hq => ?_)
  subst hgC
  refine z_sub [0, 1] rfl ?_
  exact w_X2_hasFillerOfDoubt hx hn hR hq hj σ x1 h
theorem dX2_endOfMarkBefore_0 : decode cX2_endOfMarkBefore 0 = .ok (.aload_n 0, 1) := by decide +kernel
theorem dX2_endOfMarkBefore_1 : decode cX2_endOfMarkBefore 1 = .ok (.iload_n 1, 1) := by decide +kernel
theorem dX2_endOfMarkBefore_2 : decode cX2_endOfMarkBefore 2 = .ok (.iconst 1, 1) := by decide +kernel
theorem dX2_endOfMarkBefore_3 : decode cX2_endOfMarkBefore 3 = .ok (.isub, 1) := by decide +kernel
theorem dX2_endOfMarkBefore_4 : decode cX2_endOfMarkBefore 4 = .ok (.invokevirtual 58, 3) := by decide +kernel
theorem dX2_endOfMarkBefore_7 : decode cX2_endOfMarkBefore 7 = .ok (.ifCond .eq 14, 3) := by decide +kernel
theorem dX2_endOfMarkBefore_10 : decode cX2_endOfMarkBefore 10 = .ok (.aload_n 0, 1) := by decide +kernel
theorem dX2_endOfMarkBefore_11 : decode cX2_endOfMarkBefore 11 = .ok (.getfield 25, 3) := by decide +kernel
theorem dX2_endOfMarkBefore_14 : decode cX2_endOfMarkBefore 14 = .ok (.iload_n 1, 1) := by decide +kernel
theorem dX2_endOfMarkBefore_15 : decode cX2_endOfMarkBefore 15 = .ok (.iconst 1, 1) := by decide +kernel
theorem dX2_endOfMarkBefore_16 : decode cX2_endOfMarkBefore 16 = .ok (.isub, 1) := by decide +kernel
theorem dX2_endOfMarkBefore_17 : decode cX2_endOfMarkBefore 17 = .ok (.iaload, 1) := by decide +kernel
theorem dX2_endOfMarkBefore_18 : decode cX2_endOfMarkBefore 18 = .ok (.goto 4, 3) := by decide +kernel
theorem dX2_endOfMarkBefore_21 : decode cX2_endOfMarkBefore 21 = .ok (.iconst 0, 1) := by decide +kernel
theorem dX2_endOfMarkBefore_22 : decode cX2_endOfMarkBefore 22 = .ok (.ireturn, 1) := by decide +kernel
abbrev rm_X2_endOfMarkBefore : Room := { frames := 1, cells := 0, slots := 0, locals := 21 }
theorem w_X2_endOfMarkBefore_b22 {C : zC} (hx : z_ok C cX2_endOfMarkBefore RX2 0) (hn : z_nL C = 2) (hR : z_R C = rm_X2_endOfMarkBefore) {rr : Int × zS} (hq : z_fin C (some .int) (z_QI (z_g C) rr.1 rr.2)) {j : Nat} (hj : j < 6) (σ : zS) (s0 : Int) (h : f_X2_endOfMarkBefore_b22 j σ s0 = some rr) : z_W C σ 22 [] [.int (zi s0)] := by
  unfold f_X2_endOfMarkBefore_b22 at h
  cases h
  exact z_iret hx hq dX2_endOfMarkBefore_22

theorem w_X2_endOfMarkBefore {C : zC} (hx : z_ok C cX2_endOfMarkBefore RX2 0) (hn : z_nL C = 2) (hR : z_R C = rm_X2_endOfMarkBefore) {rr : Int × zS} (hq : z_fin C (some .int) (z_QI (z_g C) rr.1 rr.2)) {j : Nat} (hj : j < 6) (σ : zS) (x1 : Int) (h : f_X2_endOfMarkBefore j σ x1 = some rr) : z_W C σ 0 [(0, .ref (z_ad (z_g C) (8 * j))), (1, .int (zi x1))] [] := by
  unfold f_X2_endOfMarkBefore at h
  refine z_aload_n hx 0 dX2_endOfMarkBefore_0 rfl ?_
  refine z_iload_n hx 1 dX2_endOfMarkBefore_1 rfl ?_
  refine z_iconst hx (n := 1) dX2_endOfMarkBefore_2 ?_
  refine z_isub hx dX2_endOfMarkBefore_3 ?_
  obtain ⟨r2, σ1, h4, h⟩ := z_bind_some h
  refine z_calli hx (As := [.int (zi (x1 - 1))]) (k := 8 * j) (met_X2_hasMark (z_l C) (z_g C) (z_ok_sd hx) hj h4) (z_lt0 (z_ok_sd hx) (by have := hj; omega)) (z_ka0 (z_ok_sd hx) hj _) rfl rfl cv_X2_58 (z_room hR ⟨Nat.le_of_ble_eq_true rfl, Nat.le_of_ble_eq_true rfl⟩) ⟨rfl, rfl⟩ rfl rfl (Nat.le_of_ble_eq_true rfl) dX2_endOfMarkBefore_4 ?_
  refine z_if_eq hx (tgt := 21) dX2_endOfMarkBefore_7 (by decide) h (fun h => h) (fun hc h => ?_) (fun hc h => ?_)
  · refine z_iconst hx (n := 0) dX2_endOfMarkBefore_21 ?_
    refine z_sub [] rfl ?_
    exact w_X2_endOfMarkBefore_b22 hx hn hR hq hj σ1 0 h
  · refine z_aload_n hx 0 dX2_endOfMarkBefore_10 rfl ?_
    refine gf_X2_ends hx wf_X2_25 hj dX2_endOfMarkBefore_11 ?_
    refine z_iload_n hx 1 dX2_endOfMarkBefore_14 rfl ?_
    refine z_iconst hx (n := 1) dX2_endOfMarkBefore_15 ?_
    refine z_isub hx dX2_endOfMarkBefore_16 ?_
    refine z_iald hx (n := 20) (z_lt0 (z_ok_sd hx) (by have := hj; omega)) (z_ka4 (z_ok_sd hx) hj _) rfl (by decide) dX2_endOfMarkBefore_17 h (fun h => ?_)
    refine z_goto hx (tgt := 22) dX2_endOfMarkBefore_18 (by decide) ?_
    refine z_sub [] rfl ?_
    exact w_X2_endOfMarkBefore_b22 hx hn hR hq hj σ1 (σ1 (8 * j + 4) (x1 - 1)) h

theorem met_X2_endOfMarkBefore (l : Launch) (g : zG) (hg : g.1 = 0) {j : Nat} (hj : j < 6) {σ : zS} {x1 : Int} {rr : Int × zS} (h : f_X2_endOfMarkBefore j σ x1 = some rr) : z_Met l yX2_endOfMarkBefore cX2_endOfMarkBefore 2 (some .int) rm_X2_endOfMarkBefore g [.ref (z_ad (g) (8 * j)), .int (zi x1)] σ (z_QI g rr.1 rr.2) := by
  refine z_enter (own := RX2) (sd := 0) (lv0 := [(0, .ref (z_ad (g) (8 * j))), (1, .int (zi x1))]) (by decide) rfl (Nat.le_of_ble_eq_true rfl) hg rfl (fun C hx hl hgC hR hn hq => ?_)
  subst hgC
  refine z_sub [0, 1] rfl ?_
  exact w_X2_endOfMarkBefore hx hn hR hq hj σ x1 h
theorem dX2_firstOfMarkAfter_0 : decode cX2_firstOfMarkAfter 0 = .ok (.aload_n 0, 1) := by decide +kernel
theorem dX2_firstOfMarkAfter_1 : decode cX2_firstOfMarkAfter 1 = .ok (.iload_n 1, 1) := by decide +kernel
theorem dX2_firstOfMarkAfter_2 : decode cX2_firstOfMarkAfter 2 = .ok (.iconst 1, 1) := by decide +kernel
theorem dX2_firstOfMarkAfter_3 : decode cX2_firstOfMarkAfter 3 = .ok (.iadd, 1) := by decide +kernel
theorem dX2_firstOfMarkAfter_4 : decode cX2_firstOfMarkAfter 4 = .ok (.invokevirtual 58, 3) := by decide +kernel
theorem dX2_firstOfMarkAfter_7 : decode cX2_firstOfMarkAfter 7 = .ok (.ifCond .eq 14, 3) := by decide +kernel
theorem dX2_firstOfMarkAfter_10 : decode cX2_firstOfMarkAfter 10 = .ok (.aload_n 0, 1) := by decide +kernel
theorem dX2_firstOfMarkAfter_11 : decode cX2_firstOfMarkAfter 11 = .ok (.getfield 22, 3) := by decide +kernel
theorem dX2_firstOfMarkAfter_14 : decode cX2_firstOfMarkAfter 14 = .ok (.iload_n 1, 1) := by decide +kernel
theorem dX2_firstOfMarkAfter_15 : decode cX2_firstOfMarkAfter 15 = .ok (.iconst 1, 1) := by decide +kernel
theorem dX2_firstOfMarkAfter_16 : decode cX2_firstOfMarkAfter 16 = .ok (.iadd, 1) := by decide +kernel
theorem dX2_firstOfMarkAfter_17 : decode cX2_firstOfMarkAfter 17 = .ok (.iaload, 1) := by decide +kernel
theorem dX2_firstOfMarkAfter_18 : decode cX2_firstOfMarkAfter 18 = .ok (.goto 7, 3) := by decide +kernel
theorem dX2_firstOfMarkAfter_21 : decode cX2_firstOfMarkAfter 21 = .ok (.aload_n 0, 1) := by decide +kernel
theorem dX2_firstOfMarkAfter_22 : decode cX2_firstOfMarkAfter 22 = .ok (.getfield 15, 3) := by decide +kernel
theorem dX2_firstOfMarkAfter_25 : decode cX2_firstOfMarkAfter 25 = .ok (.ireturn, 1) := by decide +kernel
abbrev rm_X2_firstOfMarkAfter : Room := { frames := 1, cells := 0, slots := 0, locals := 21 }
theorem w_X2_firstOfMarkAfter_b25 {C : zC} (hx : z_ok C cX2_firstOfMarkAfter RX2 0) (hn : z_nL C = 2) (hR : z_R C = rm_X2_firstOfMarkAfter) {rr : Int × zS} (hq : z_fin C (some .int) (z_QI (z_g C) rr.1 rr.2)) {j : Nat} (hj : j < 6) (σ : zS) (s0 : Int) (h : f_X2_firstOfMarkAfter_b25 j σ s0 = some rr) : z_W C σ 25 [] [.int (zi s0)] := by
  unfold f_X2_firstOfMarkAfter_b25 at h
  cases h
  exact z_iret hx hq dX2_firstOfMarkAfter_25

theorem w_X2_firstOfMarkAfter {C : zC} (hx : z_ok C cX2_firstOfMarkAfter RX2 0) (hn : z_nL C = 2) (hR : z_R C = rm_X2_firstOfMarkAfter) {rr : Int × zS} (hq : z_fin C (some .int) (z_QI (z_g C) rr.1 rr.2)) {j : Nat} (hj : j < 6) (σ : zS) (x1 : Int) (h : f_X2_firstOfMarkAfter j σ x1 = some rr) : z_W C σ 0 [(0, .ref (z_ad (z_g C) (8 * j))), (1, .int (zi x1))] [] := by
  unfold f_X2_firstOfMarkAfter at h
  refine z_aload_n hx 0 dX2_firstOfMarkAfter_0 rfl ?_
  refine z_iload_n hx 1 dX2_firstOfMarkAfter_1 rfl ?_
  refine z_iconst hx (n := 1) dX2_firstOfMarkAfter_2 ?_
  refine z_iadd hx dX2_firstOfMarkAfter_3 ?_
  obtain ⟨r2, σ1, h4, h⟩ := z_bind_some h
  refine z_calli hx (As := [.int (zi (x1 + 1))]) (k := 8 * j) (met_X2_hasMark (z_l C) (z_g C) (z_ok_sd hx) hj h4) (z_lt0 (z_ok_sd hx) (by have := hj; omega)) (z_ka0 (z_ok_sd hx) hj _) rfl rfl cv_X2_58 (z_room hR ⟨Nat.le_of_ble_eq_true rfl, Nat.le_of_ble_eq_true rfl⟩) ⟨rfl, rfl⟩ rfl rfl (Nat.le_of_ble_eq_true rfl) dX2_firstOfMarkAfter_4 ?_
  refine z_if_eq hx (tgt := 21) dX2_firstOfMarkAfter_7 (by decide) h (fun h => h) (fun hc h => ?_) (fun hc h => ?_)
  · refine z_aload_n hx 0 dX2_firstOfMarkAfter_21 rfl ?_
    refine gf_X2_frames hx wf_X2_15 hj dX2_firstOfMarkAfter_22 ?_
    refine z_sub [] rfl ?_
    exact w_X2_firstOfMarkAfter_b25 hx hn hR hq hj σ1 (σ1 (8 * j) 1) h
  · refine z_aload_n hx 0 dX2_firstOfMarkAfter_10 rfl ?_
    refine gf_X2_firsts hx wf_X2_22 hj dX2_firstOfMarkAfter_11 ?_
    refine z_iload_n hx 1 dX2_firstOfMarkAfter_14 rfl ?_
    refine z_iconst hx (n := 1) dX2_firstOfMarkAfter_15 ?_
    refine z_iadd hx dX2_firstOfMarkAfter_16 ?_
    refine z_iald hx (n := 20) (z_lt0 (z_ok_sd hx) (by have := hj; omega)) (z_ka3 (z_ok_sd hx) hj _) rfl (by decide) dX2_firstOfMarkAfter_17 h (fun h => ?_)
    refine z_goto hx (tgt := 25) dX2_firstOfMarkAfter_18 (by decide) ?_
    refine z_sub [] rfl ?_
    exact w_X2_firstOfMarkAfter_b25 hx hn hR hq hj σ1 (σ1 (8 * j + 3) (x1 + 1)) h

theorem met_X2_firstOfMarkAfter (l : Launch) (g : zG) (hg : g.1 = 0) {j : Nat} (hj : j < 6) {σ : zS} {x1 : Int} {rr : Int × zS} (h : f_X2_firstOfMarkAfter j σ x1 = some rr) : z_Met l yX2_firstOfMarkAfter cX2_firstOfMarkAfter 2 (some .int) rm_X2_firstOfMarkAfter g [.ref (z_ad (g) (8 * j)), .int (zi x1)] σ (z_QI g rr.1 rr.2) := by
  refine z_enter (own := RX2) (sd := 0) (lv0 := [(0, .ref (z_ad (g) (8 * j))), (1, .int (zi x1))]) (by decide) rfl (Nat.le_of_ble_eq_true rfl) hg rfl (fun C hx hl hgC hR hn hq => ?_)
  subst hgC
  refine z_sub [0, 1] rfl ?_
  exact w_X2_firstOfMarkAfter hx hn hR hq hj σ x1 h
theorem dX2_isQuiet_0 : decode cX2_isQuiet 0 = .ok (.aload_n 0, 1) := by decide +kernel
theorem dX2_isQuiet_1 : decode cX2_isQuiet 1 = .ok (.getfield 38, 3) := by decide +kernel
theorem dX2_isQuiet_4 : decode cX2_isQuiet 4 = .ok (.iconst 1, 1) := by decide +kernel
theorem dX2_isQuiet_5 : decode cX2_isQuiet 5 = .ok (.iaload, 1) := by decide +kernel
theorem dX2_isQuiet_6 : decode cX2_isQuiet 6 = .ok (.istore_n 2, 1) := by decide +kernel
theorem dX2_isQuiet_7 : decode cX2_isQuiet 7 = .ok (.aload_n 0, 1) := by decide +kernel
theorem dX2_isQuiet_8 : decode cX2_isQuiet 8 = .ok (.iload_n 1, 1) := by decide +kernel
theorem dX2_isQuiet_9 : decode cX2_isQuiet 9 = .ok (.iconst 1, 1) := by decide +kernel
theorem dX2_isQuiet_10 : decode cX2_isQuiet 10 = .ok (.isub, 1) := by decide +kernel
theorem dX2_isQuiet_11 : decode cX2_isQuiet 11 = .ok (.invokevirtual 65, 3) := by decide +kernel
theorem dX2_isQuiet_14 : decode cX2_isQuiet 14 = .ok (.iload_n 2, 1) := by decide +kernel
theorem dX2_isQuiet_15 : decode cX2_isQuiet 15 = .ok (.if_icmp .gt 16, 3) := by decide +kernel
theorem dX2_isQuiet_18 : decode cX2_isQuiet 18 = .ok (.aload_n 0, 1) := by decide +kernel
theorem dX2_isQuiet_19 : decode cX2_isQuiet 19 = .ok (.iload_n 1, 1) := by decide +kernel
theorem dX2_isQuiet_20 : decode cX2_isQuiet 20 = .ok (.invokevirtual 65, 3) := by decide +kernel
theorem dX2_isQuiet_23 : decode cX2_isQuiet 23 = .ok (.iload_n 2, 1) := by decide +kernel
theorem dX2_isQuiet_24 : decode cX2_isQuiet 24 = .ok (.if_icmp .gt 7, 3) := by decide +kernel
theorem dX2_isQuiet_27 : decode cX2_isQuiet 27 = .ok (.iconst 1, 1) := by decide +kernel
theorem dX2_isQuiet_28 : decode cX2_isQuiet 28 = .ok (.goto 4, 3) := by decide +kernel
theorem dX2_isQuiet_31 : decode cX2_isQuiet 31 = .ok (.iconst 0, 1) := by decide +kernel
theorem dX2_isQuiet_32 : decode cX2_isQuiet 32 = .ok (.ireturn, 1) := by decide +kernel
abbrev rm_X2_isQuiet : Room := { frames := 1, cells := 0, slots := 0, locals := 21 }
theorem w_X2_isQuiet_b32 {C : zC} (hx : z_ok C cX2_isQuiet RX2 0) (hn : z_nL C = 3) (hR : z_R C = rm_X2_isQuiet) {rr : Int × zS} (hq : z_fin C (some .boolean) (z_QI (z_g C) rr.1 rr.2)) {j : Nat} (hj : j < 6) (σ : zS) (s0 : Int) (h : f_X2_isQuiet_b32 j σ s0 = some rr) : z_W C σ 32 [] [.int (zi s0)] := by
  unfold f_X2_isQuiet_b32 at h
  obtain ⟨hz, h⟩ := z_gd h
  cases h
  exact z_zret hx hz hq dX2_isQuiet_32

theorem w_X2_isQuiet_b31 {C : zC} (hx : z_ok C cX2_isQuiet RX2 0) (hn : z_nL C = 3) (hR : z_R C = rm_X2_isQuiet) {rr : Int × zS} (hq : z_fin C (some .boolean) (z_QI (z_g C) rr.1 rr.2)) {j : Nat} (hj : j < 6) (σ : zS) (h : f_X2_isQuiet_b31 j σ = some rr) : z_W C σ 31 [] [] := by
  unfold f_X2_isQuiet_b31 at h
  refine z_iconst hx (n := 0) dX2_isQuiet_31 ?_
  refine z_sub [] rfl ?_
  exact w_X2_isQuiet_b32 hx hn hR hq hj σ 0 h

theorem w_X2_isQuiet {C : zC} (hx : z_ok C cX2_isQuiet RX2 0) (hn : z_nL C = 3) (hR : z_R C = rm_X2_isQuiet) {rr : Int × zS} (hq : z_fin C (some .boolean) (z_QI (z_g C) rr.1 rr.2)) {j : Nat} (hj : j < 6) (σ : zS) (x1 : Int) (h : f_X2_isQuiet j σ x1 = some rr) : z_W C σ 0 [(0, .ref (z_ad (z_g C) (8 * j))), (1, .int (zi x1))] [] := by
  unfold f_X2_isQuiet at h
  refine z_aload_n hx 0 dX2_isQuiet_0 rfl ?_
  refine gf_X2_settings hx wf_X2_38 hj dX2_isQuiet_1 ?_
  refine z_iconst hx (n := 1) dX2_isQuiet_4 ?_
  refine z_iald hx (n := 7) (z_lt0 (z_ok_sd hx) (by have := hj; omega)) (z_ka7 (z_ok_sd hx) hj _) rfl (by decide) dX2_isQuiet_5 h (fun h => ?_)
  refine z_istore_n hx hn (lv' := [(2, .int (zi (σ (8 * j + 7) 1))), (0, .ref (z_ad (z_g C) (8 * j))), (1, .int (zi x1))]) dX2_isQuiet_6 (by decide) rfl ?_
  refine z_aload_n hx 1 dX2_isQuiet_7 rfl ?_
  refine z_iload_n hx 2 dX2_isQuiet_8 rfl ?_
  refine z_iconst hx (n := 1) dX2_isQuiet_9 ?_
  refine z_isub hx dX2_isQuiet_10 ?_
  obtain ⟨r2, σ1, h11, h⟩ := z_bind_some h
  refine z_calli hx (As := [.int (zi (x1 - 1))]) (k := 8 * j) (met_X2_levelAt (z_l C) (z_g C) (z_ok_sd hx) hj h11) (z_lt0 (z_ok_sd hx) (by have := hj; omega)) (z_ka0 (z_ok_sd hx) hj _) rfl rfl cv_X2_65 (z_room hR ⟨Nat.le_of_ble_eq_true rfl, Nat.le_of_ble_eq_true rfl⟩) ⟨rfl, rfl⟩ rfl rfl (Nat.le_of_ble_eq_true rfl) dX2_isQuiet_11 ?_
  refine z_iload_n hx 0 dX2_isQuiet_14 rfl ?_
  refine z_icmp_gt hx (tgt := 31) dX2_isQuiet_15 (by decide) h (fun h => h) (fun hc h => ?_) (fun hc h => ?_)
  · refine z_sub [] rfl ?_
    exact w_X2_isQuiet_b31 hx hn hR hq hj σ1 h
  · refine z_aload_n hx 1 dX2_isQuiet_18 rfl ?_
    refine z_iload_n hx 2 dX2_isQuiet_19 rfl ?_
    obtain ⟨r4, σ3, h20, h⟩ := z_bind_some h
    refine z_calli hx (As := [.int (zi x1)]) (k := 8 * j) (met_X2_levelAt (z_l C) (z_g C) (z_ok_sd hx) hj h20) (z_lt0 (z_ok_sd hx) (by have := hj; omega)) (z_ka0 (z_ok_sd hx) hj _) rfl rfl cv_X2_65 (z_room hR ⟨Nat.le_of_ble_eq_true rfl, Nat.le_of_ble_eq_true rfl⟩) ⟨rfl, rfl⟩ rfl rfl (Nat.le_of_ble_eq_true rfl) dX2_isQuiet_20 ?_
    refine z_iload_n hx 0 dX2_isQuiet_23 rfl ?_
    refine z_icmp_gt hx (tgt := 31) dX2_isQuiet_24 (by decide) h (fun h => h) (fun hc h => ?_) (fun hc h => ?_)
    · refine z_sub [] rfl ?_
      exact w_X2_isQuiet_b31 hx hn hR hq hj σ3 h
    · refine z_iconst hx (n := 1) dX2_isQuiet_27 ?_
      refine z_goto hx (tgt := 32) dX2_isQuiet_28 (by decide) ?_
      refine z_sub [] rfl ?_
      exact w_X2_isQuiet_b32 hx hn hR hq hj σ3 1 h

theorem met_X2_isQuiet (l : Launch) (g : zG) (hg : g.1 = 0) {j : Nat} (hj : j < 6) {σ : zS} {x1 : Int} {rr : Int × zS} (h : f_X2_isQuiet j σ x1 = some rr) : z_Met l yX2_isQuiet cX2_isQuiet 3 (some .boolean) rm_X2_isQuiet g [.ref (z_ad (g) (8 * j)), .int (zi x1)] σ (z_QI g rr.1 rr.2) := by
  refine z_enter (own := RX2) (sd := 0) (lv0 := [(0, .ref (z_ad (g) (8 * j))), (1, .int (zi x1))]) (by decide) rfl (Nat.le_of_ble_eq_true rfl) hg rfl (fun C hx hl hgC hR hn hq => ?_)
  subst hgC
  refine z_sub [0, 1] rfl ?_
  exact w_X2_isQuiet hx hn hR hq hj σ x1 h
theorem dX2_nearestQuietSeam_0 : decode cX2_nearestQuietSeam 0 = .ok (.iconst 0, 1) := by decide +kernel
theorem dX2_nearestQuietSeam_1 : decode cX2_nearestQuietSeam 1 = .ok (.istore 5, 2) := by decide +kernel
theorem dX2_nearestQuietSeam_3 : decode cX2_nearestQuietSeam 3 = .ok (.iload 5, 2) := by decide +kernel
theorem dX2_nearestQuietSeam_5 : decode cX2_nearestQuietSeam 5 = .ok (.iload_n 2, 1) := by decide +kernel
theorem dX2_nearestQuietSeam_6 : decode cX2_nearestQuietSeam 6 = .ok (.if_icmp .gt 71, 3) := by decide +kernel
theorem dX2_nearestQuietSeam_9 : decode cX2_nearestQuietSeam 9 = .ok (.iload_n 1, 1) := by decide +kernel
theorem dX2_nearestQuietSeam_10 : decode cX2_nearestQuietSeam 10 = .ok (.iload 5, 2) := by decide +kernel
theorem dX2_nearestQuietSeam_12 : decode cX2_nearestQuietSeam 12 = .ok (.isub, 1) := by decide +kernel
theorem dX2_nearestQuietSeam_13 : decode cX2_nearestQuietSeam 13 = .ok (.istore 6, 2) := by decide +kernel
theorem dX2_nearestQuietSeam_15 : decode cX2_nearestQuietSeam 15 = .ok (.iload 6, 2) := by decide +kernel
theorem dX2_nearestQuietSeam_17 : decode cX2_nearestQuietSeam 17 = .ok (.iload_n 3, 1) := by decide +kernel
theorem dX2_nearestQuietSeam_18 : decode cX2_nearestQuietSeam 18 = .ok (.if_icmp .lt 22, 3) := by decide +kernel
theorem dX2_nearestQuietSeam_21 : decode cX2_nearestQuietSeam 21 = .ok (.iload 6, 2) := by decide +kernel
theorem dX2_nearestQuietSeam_23 : decode cX2_nearestQuietSeam 23 = .ok (.iload 4, 2) := by decide +kernel
theorem dX2_nearestQuietSeam_25 : decode cX2_nearestQuietSeam 25 = .ok (.if_icmp .gt 15, 3) := by decide +kernel
theorem dX2_nearestQuietSeam_28 : decode cX2_nearestQuietSeam 28 = .ok (.aload_n 0, 1) := by decide +kernel
theorem dX2_nearestQuietSeam_29 : decode cX2_nearestQuietSeam 29 = .ok (.iload 6, 2) := by decide +kernel
theorem dX2_nearestQuietSeam_31 : decode cX2_nearestQuietSeam 31 = .ok (.invokevirtual 62, 3) := by decide +kernel
theorem dX2_nearestQuietSeam_34 : decode cX2_nearestQuietSeam 34 = .ok (.ifCond .eq 6, 3) := by decide +kernel
theorem dX2_nearestQuietSeam_37 : decode cX2_nearestQuietSeam 37 = .ok (.iload 6, 2) := by decide +kernel
theorem dX2_nearestQuietSeam_39 : decode cX2_nearestQuietSeam 39 = .ok (.ireturn, 1) := by decide +kernel
theorem dX2_nearestQuietSeam_40 : decode cX2_nearestQuietSeam 40 = .ok (.iload_n 1, 1) := by decide +kernel
theorem dX2_nearestQuietSeam_41 : decode cX2_nearestQuietSeam 41 = .ok (.iload 5, 2) := by decide +kernel
theorem dX2_nearestQuietSeam_43 : decode cX2_nearestQuietSeam 43 = .ok (.iadd, 1) := by decide +kernel
theorem dX2_nearestQuietSeam_44 : decode cX2_nearestQuietSeam 44 = .ok (.istore 7, 2) := by decide +kernel
theorem dX2_nearestQuietSeam_46 : decode cX2_nearestQuietSeam 46 = .ok (.iload 7, 2) := by decide +kernel
theorem dX2_nearestQuietSeam_48 : decode cX2_nearestQuietSeam 48 = .ok (.iload_n 3, 1) := by decide +kernel
theorem dX2_nearestQuietSeam_49 : decode cX2_nearestQuietSeam 49 = .ok (.if_icmp .lt 22, 3) := by decide +kernel
theorem dX2_nearestQuietSeam_52 : decode cX2_nearestQuietSeam 52 = .ok (.iload 7, 2) := by decide +kernel
theorem dX2_nearestQuietSeam_54 : decode cX2_nearestQuietSeam 54 = .ok (.iload 4, 2) := by decide +kernel
theorem dX2_nearestQuietSeam_56 : decode cX2_nearestQuietSeam 56 = .ok (.if_icmp .gt 15, 3) := by decide +kernel
theorem dX2_nearestQuietSeam_59 : decode cX2_nearestQuietSeam 59 = .ok (.aload_n 0, 1) := by decide +kernel
theorem dX2_nearestQuietSeam_60 : decode cX2_nearestQuietSeam 60 = .ok (.iload 7, 2) := by decide +kernel
theorem dX2_nearestQuietSeam_62 : decode cX2_nearestQuietSeam 62 = .ok (.invokevirtual 62, 3) := by decide +kernel
theorem dX2_nearestQuietSeam_65 : decode cX2_nearestQuietSeam 65 = .ok (.ifCond .eq 6, 3) := by decide +kernel
theorem dX2_nearestQuietSeam_68 : decode cX2_nearestQuietSeam 68 = .ok (.iload 7, 2) := by decide +kernel
theorem dX2_nearestQuietSeam_70 : decode cX2_nearestQuietSeam 70 = .ok (.ireturn, 1) := by decide +kernel
theorem dX2_nearestQuietSeam_71 : decode cX2_nearestQuietSeam 71 = .ok (.iinc 5 1, 3) := by decide +kernel
theorem dX2_nearestQuietSeam_74 : decode cX2_nearestQuietSeam 74 = .ok (.goto (-71), 3) := by decide +kernel
theorem dX2_nearestQuietSeam_77 : decode cX2_nearestQuietSeam 77 = .ok (.iconst (-1), 1) := by decide +kernel
theorem dX2_nearestQuietSeam_78 : decode cX2_nearestQuietSeam 78 = .ok (.ireturn, 1) := by decide +kernel
abbrev rm_X2_nearestQuietSeam : Room := { frames := 2, cells := 0, slots := 0, locals := 43 }
theorem w_X2_nearestQuietSeam_b71 {C : zC} (hx : z_ok C cX2_nearestQuietSeam RX2 0) (hn : z_nL C = 8) (hR : z_R C = rm_X2_nearestQuietSeam) {rr : Int × zS} (hq : z_fin C (some .int) (z_QI (z_g C) rr.1 rr.2)) {j : Nat} (hj : j < 6) {K3 : zS → Int → Int → Int → Int → Int → Option (Int × zS)} (hK3 : ∀ (σ : zS) (x1 : Int) (x2 : Int) (x3 : Int) (x4 : Int) (x5 : Int) , K3 σ x1 x2 x3 x4 x5 = some rr → z_W C σ 3 [(0, .ref (z_ad (z_g C) (8 * j))), (1, .int (zi x1)), (2, .int (zi x2)), (3, .int (zi x3)), (4, .int (zi x4)), (5, .int (zi x5))] []) (σ : zS) (x1 : Int) (x2 : Int) (x3 : Int) (x4 : Int) (x5 : Int) (h : f_X2_nearestQuietSeam_b71 j K3 σ x1 x2 x3 x4 x5 = some rr) : z_W C σ 71 [(0, .ref (z_ad (z_g C) (8 * j))), (1, .int (zi x1)), (2, .int (zi x2)), (3, .int (zi x3)), (4, .int (zi x4)), (5, .int (zi x5))] [] := by
  unfold f_X2_nearestQuietSeam_b71 at h
  refine z_iinc hx hn 5 (lv' := [(5, .int (zi (x5 + 1))), (0, .ref (z_ad (z_g C) (8 * j))), (1, .int (zi x1)), (2, .int (zi x2)), (3, .int (zi x3)), (4, .int (zi x4))]) dX2_nearestQuietSeam_71 rfl (by decide) rfl ?_
  refine z_goto hx (tgt := 3) dX2_nearestQuietSeam_74 (by decide) ?_
  refine z_sub [1, 2, 3, 4, 5, 0] rfl ?_
  exact hK3 σ x1 x2 x3 x4 (x5 + 1) h

theorem w_X2_nearestQuietSeam_b40 {C : zC} (hx : z_ok C cX2_nearestQuietSeam RX2 0) (hn : z_nL C = 8) (hR : z_R C = rm_X2_nearestQuietSeam) {rr : Int × zS} (hq : z_fin C (some .int) (z_QI (z_g C) rr.1 rr.2)) {j : Nat} (hj : j < 6) {K3 : zS → Int → Int → Int → Int → Int → Option (Int × zS)} (hK3 : ∀ (σ : zS) (x1 : Int) (x2 : Int) (x3 : Int) (x4 : Int) (x5 : Int) , K3 σ x1 x2 x3 x4 x5 = some rr → z_W C σ 3 [(0, .ref (z_ad (z_g C) (8 * j))), (1, .int (zi x1)), (2, .int (zi x2)), (3, .int (zi x3)), (4, .int (zi x4)), (5, .int (zi x5))] []) (σ : zS) (x1 : Int) (x2 : Int) (x3 : Int) (x4 : Int) (x5 : Int) (h : f_X2_nearestQuietSeam_b40 j K3 σ x1 x2 x3 x4 x5 = some rr) : z_W C σ 40 [(0, .ref (z_ad (z_g C) (8 * j))), (1, .int (zi x1)), (2, .int (zi x2)), (3, .int (zi x3)), (4, .int (zi x4)), (5, .int (zi x5))] [] := by
  unfold f_X2_nearestQuietSeam_b40 at h
  refine z_iload_n hx 1 dX2_nearestQuietSeam_40 rfl ?_
  refine z_iload hx 5 dX2_nearestQuietSeam_41 rfl ?_
  refine z_iadd hx dX2_nearestQuietSeam_43 ?_
  refine z_istore hx hn (lv' := [(7, .int (zi (x1 + x5))), (0, .ref (z_ad (z_g C) (8 * j))), (1, .int (zi x1)), (2, .int (zi x2)), (3, .int (zi x3)), (4, .int (zi x4)), (5, .int (zi x5))]) dX2_nearestQuietSeam_44 (by decide) rfl ?_
  refine z_iload hx 0 dX2_nearestQuietSeam_46 rfl ?_
  refine z_iload_n hx 4 dX2_nearestQuietSeam_48 rfl ?_
  refine z_icmp_lt hx (tgt := 71) dX2_nearestQuietSeam_49 (by decide) h (fun h => h) (fun hc h => ?_) (fun hc h => ?_)
  · refine z_sub [1, 2, 3, 4, 5, 6] rfl ?_
    exact w_X2_nearestQuietSeam_b71 hx hn hR hq hj hK3 σ x1 x2 x3 x4 x5 h
  · refine z_iload hx 0 dX2_nearestQuietSeam_52 rfl ?_
    refine z_iload hx 5 dX2_nearestQuietSeam_54 rfl ?_
    refine z_icmp_gt hx (tgt := 71) dX2_nearestQuietSeam_56 (by decide) h (fun h => h) (fun hc h => ?_) (fun hc h => ?_)
    · refine z_sub [1, 2, 3, 4, 5, 6] rfl ?_
      exact w_X2_nearestQuietSeam_b71 hx hn hR hq hj hK3 σ x1 x2 x3 x4 x5 h
    · refine z_aload_n hx 1 dX2_nearestQuietSeam_59 rfl ?_
      refine z_iload hx 0 dX2_nearestQuietSeam_60 rfl ?_
      obtain ⟨r2, σ1, h62, h⟩ := z_bind_some h
      refine z_calli hx (As := [.int (zi (x1 + x5))]) (k := 8 * j) (met_X2_isQuiet (z_l C) (z_g C) (z_ok_sd hx) hj h62) (z_lt0 (z_ok_sd hx) (by have := hj; omega)) (z_ka0 (z_ok_sd hx) hj _) rfl rfl cv_X2_62 (z_room hR ⟨Nat.le_of_ble_eq_true rfl, Nat.le_of_ble_eq_true rfl⟩) ⟨rfl, rfl⟩ rfl rfl (Nat.le_of_ble_eq_true rfl) dX2_nearestQuietSeam_62 ?_
      refine z_if_eq hx (tgt := 71) dX2_nearestQuietSeam_65 (by decide) h (fun h => h) (fun hc h => ?_) (fun hc h => ?_)
      · refine z_sub [1, 2, 3, 4, 5, 6] rfl ?_
        exact w_X2_nearestQuietSeam_b71 hx hn hR hq hj hK3 σ1 x1 x2 x3 x4 x5 h
      · refine z_iload hx 0 dX2_nearestQuietSeam_68 rfl ?_
        cases h
        exact z_iret hx hq dX2_nearestQuietSeam_70

theorem w_X2_nearestQuietSeam_b3 {C : zC} (hx : z_ok C cX2_nearestQuietSeam RX2 0) (hn : z_nL C = 8) (hR : z_R C = rm_X2_nearestQuietSeam) {rr : Int × zS} (hq : z_fin C (some .int) (z_QI (z_g C) rr.1 rr.2)) {j : Nat} (hj : j < 6) {K3 : zS → Int → Int → Int → Int → Int → Option (Int × zS)} (hK3 : ∀ (σ : zS) (x1 : Int) (x2 : Int) (x3 : Int) (x4 : Int) (x5 : Int) , K3 σ x1 x2 x3 x4 x5 = some rr → z_W C σ 3 [(0, .ref (z_ad (z_g C) (8 * j))), (1, .int (zi x1)), (2, .int (zi x2)), (3, .int (zi x3)), (4, .int (zi x4)), (5, .int (zi x5))] []) (σ : zS) (x1 : Int) (x2 : Int) (x3 : Int) (x4 : Int) (x5 : Int) (h : f_X2_nearestQuietSeam_b3 j K3 σ x1 x2 x3 x4 x5 = some rr) : z_W C σ 3 [(0, .ref (z_ad (z_g C) (8 * j))), (1, .int (zi x1)), (2, .int (zi x2)), (3, .int (zi x3)), (4, .int (zi x4)), (5, .int (zi x5))] [] := by
  unfold f_X2_nearestQuietSeam_b3 at h
  refine z_iload hx 5 dX2_nearestQuietSeam_3 rfl ?_
  refine z_iload_n hx 2 dX2_nearestQuietSeam_5 rfl ?_
  refine z_icmp_gt hx (tgt := 77) dX2_nearestQuietSeam_6 (by decide) h (fun h => h) (fun hc h => ?_) (fun hc h => ?_)
  · refine z_iconst hx (n := (-1)) dX2_nearestQuietSeam_77 ?_
    cases h
    exact z_iret hx hq dX2_nearestQuietSeam_78
  · refine z_iload_n hx 1 dX2_nearestQuietSeam_9 rfl ?_
    refine z_iload hx 5 dX2_nearestQuietSeam_10 rfl ?_
    refine z_isub hx dX2_nearestQuietSeam_12 ?_
    refine z_istore hx hn (lv' := [(6, .int (zi (x1 - x5))), (0, .ref (z_ad (z_g C) (8 * j))), (1, .int (zi x1)), (2, .int (zi x2)), (3, .int (zi x3)), (4, .int (zi x4)), (5, .int (zi x5))]) dX2_nearestQuietSeam_13 (by decide) rfl ?_
    refine z_iload hx 0 dX2_nearestQuietSeam_15 rfl ?_
    refine z_iload_n hx 4 dX2_nearestQuietSeam_17 rfl ?_
    refine z_icmp_lt hx (tgt := 40) dX2_nearestQuietSeam_18 (by decide) h (fun h => h) (fun hc h => ?_) (fun hc h => ?_)
    · refine z_sub [1, 2, 3, 4, 5, 6] rfl ?_
      exact w_X2_nearestQuietSeam_b40 hx hn hR hq hj hK3 σ x1 x2 x3 x4 x5 h
    · refine z_iload hx 0 dX2_nearestQuietSeam_21 rfl ?_
      refine z_iload hx 5 dX2_nearestQuietSeam_23 rfl ?_
      refine z_icmp_gt hx (tgt := 40) dX2_nearestQuietSeam_25 (by decide) h (fun h => h) (fun hc h => ?_) (fun hc h => ?_)
      · refine z_sub [1, 2, 3, 4, 5, 6] rfl ?_
        exact w_X2_nearestQuietSeam_b40 hx hn hR hq hj hK3 σ x1 x2 x3 x4 x5 h
      · refine z_aload_n hx 1 dX2_nearestQuietSeam_28 rfl ?_
        refine z_iload hx 0 dX2_nearestQuietSeam_29 rfl ?_
        obtain ⟨r2, σ1, h31, h⟩ := z_bind_some h
        refine z_calli hx (As := [.int (zi (x1 - x5))]) (k := 8 * j) (met_X2_isQuiet (z_l C) (z_g C) (z_ok_sd hx) hj h31) (z_lt0 (z_ok_sd hx) (by have := hj; omega)) (z_ka0 (z_ok_sd hx) hj _) rfl rfl cv_X2_62 (z_room hR ⟨Nat.le_of_ble_eq_true rfl, Nat.le_of_ble_eq_true rfl⟩) ⟨rfl, rfl⟩ rfl rfl (Nat.le_of_ble_eq_true rfl) dX2_nearestQuietSeam_31 ?_
        refine z_if_eq hx (tgt := 40) dX2_nearestQuietSeam_34 (by decide) h (fun h => h) (fun hc h => ?_) (fun hc h => ?_)
        · refine z_sub [1, 2, 3, 4, 5, 6] rfl ?_
          exact w_X2_nearestQuietSeam_b40 hx hn hR hq hj hK3 σ1 x1 x2 x3 x4 x5 h
        · refine z_iload hx 0 dX2_nearestQuietSeam_37 rfl ?_
          cases h
          exact z_iret hx hq dX2_nearestQuietSeam_39

theorem w_X2_nearestQuietSeam_l3 {C : zC} (hx : z_ok C cX2_nearestQuietSeam RX2 0) (hn : z_nL C = 8) (hR : z_R C = rm_X2_nearestQuietSeam) {rr : Int × zS} (hq : z_fin C (some .int) (z_QI (z_g C) rr.1 rr.2)) {j : Nat} (hj : j < 6) : ∀ (n : Nat) (σ : zS) (x1 : Int) (x2 : Int) (x3 : Int) (x4 : Int) (x5 : Int) (_ : f_X2_nearestQuietSeam_l3 j n σ x1 x2 x3 x4 x5 = some rr), z_W C σ 3 [(0, .ref (z_ad (z_g C) (8 * j))), (1, .int (zi x1)), (2, .int (zi x2)), (3, .int (zi x3)), (4, .int (zi x4)), (5, .int (zi x5))] [] := by
  intro n
  induction n with
  | zero => intro σ x1 x2 x3 x4 x5 h; cases h
  | succ n ih =>
    intro σ x1 x2 x3 x4 x5 h
    exact w_X2_nearestQuietSeam_b3 hx hn hR hq hj ih σ x1 x2 x3 x4 x5 h
theorem w_X2_nearestQuietSeam {C : zC} (hx : z_ok C cX2_nearestQuietSeam RX2 0) (hn : z_nL C = 8) (hR : z_R C = rm_X2_nearestQuietSeam) {rr : Int × zS} (hq : z_fin C (some .int) (z_QI (z_g C) rr.1 rr.2)) {j : Nat} (hj : j < 6) (σ : zS) (x1 : Int) (x2 : Int) (x3 : Int) (x4 : Int) (h : f_X2_nearestQuietSeam j σ x1 x2 x3 x4 = some rr) : z_W C σ 0 [(0, .ref (z_ad (z_g C) (8 * j))), (1, .int (zi x1)), (2, .int (zi x2)), (3, .int (zi x3)), (4, .int (zi x4))] [] := by
  unfold f_X2_nearestQuietSeam at h
  refine z_iconst hx (n := 0) dX2_nearestQuietSeam_0 ?_
  refine z_istore hx hn (lv' := [(5, .int (zi 0)), (0, .ref (z_ad (z_g C) (8 * j))), (1, .int (zi x1)), (2, .int (zi x2)), (3, .int (zi x3)), (4, .int (zi x4))]) dX2_nearestQuietSeam_1 (by decide) rfl ?_
  refine z_sub [1, 2, 3, 4, 5, 0] rfl ?_
  exact w_X2_nearestQuietSeam_l3 hx hn hR hq hj z_fuel σ x1 x2 x3 x4 0 h

theorem met_X2_nearestQuietSeam (l : Launch) (g : zG) (hg : g.1 = 0) {j : Nat} (hj : j < 6) {σ : zS} {x1 : Int} {x2 : Int} {x3 : Int} {x4 : Int} {rr : Int × zS} (h : f_X2_nearestQuietSeam j σ x1 x2 x3 x4 = some rr) : z_Met l yX2_nearestQuietSeam cX2_nearestQuietSeam 8 (some .int) rm_X2_nearestQuietSeam g [.ref (z_ad (g) (8 * j)), .int (zi x1), .int (zi x2), .int (zi x3), .int (zi x4)] σ (z_QI g rr.1 rr.2) := by
  refine z_enter (own := RX2) (sd := 0) (lv0 := [(0, .ref (z_ad (g) (8 * j))), (1, .int (zi x1)), (2, .int (zi x2)), (3, .int (zi x3)), (4, .int (zi x4))]) (by decide) rfl (Nat.le_of_ble_eq_true rfl) hg rfl (fun C hx hl hgC hR hn hq => ?_)
  subst hgC
  refine z_sub [0, 1, 2, 3, 4] rfl ?_
  exact w_X2_nearestQuietSeam hx hn hR hq hj σ x1 x2 x3 x4 h
end
