/-! WHAT STANDS WHEN BOTH ARE MADE -/
def z_s0 : zS := fun k b => if k = 61 then b + 1 else if k < 48 ∧ k % 8 = 7 then k_set b else 0
set_option maxRecDepth 100000 in
set_option maxHeartbeats 4000000 in
theorem wd_foldC (a : Nat → Nat) (cI cZ cR : ClassId) (D : va_G) (h0 : Nat) (u : Nat → Nat) : wd_X5 (0, a, cI, cZ, cR, D) h0 u = z_w (0, fun k => if k = 62 then h0 else u k, cI, cZ, cR, D) z_s0 := rfl
set_option maxRecDepth 100000 in
set_option maxHeartbeats 4000000 in
def z_V0 : zV := (0, 0, fun _ => 0, fun _ _ => 0, z_init)
def z_A0 : zA := (0, fun _ => 0, z_V0, 0, fun _ => z_V0)
theorem z_A0_ok : a_ok z_A0 := by
  refine ⟨⟨by show (0 : Int) ≤ 0 ∧ (0 : Int) ≤ 120; omega, fun i i0 i1 => by have i1 : i < 0 := i1; omega⟩, ⟨by show (0 : Int) ≤ 0 ∧ (0 : Int) ≤ 200; omega, by show (0 : Int) ≤ 0 ∧ (0 : Int) ≤ 20; omega, fun i i0 i1 => by have i1 : i < 0 := i1; omega, fun i i0 i1 => by have i1 : i < 0 := i1; omega, fun i i0 i1 => by have i1 : i + 1 < 0 := i1; omega, ?_⟩, ⟨by show (0 : Int) ≤ 0 ∧ (0 : Int) ≤ 4; omega, fun i i0 i1 => by have i1 : i < 0 := i1; omega⟩⟩
  show v_sok z_init
  unfold v_sok z_init
  simp
theorem z_A0_C : a_C z_s0 z_A0 := by
  refine ⟨⟨rfl, fun i i0 i1 => by have i1 : i < 0 := i1; omega⟩, ⟨rfl, rfl, fun i i0 i1 => by have i1 : i < 0 := i1; omega, fun i i0 i1 => by have i1 : i < 0 := i1; omega, fun i i0 i1 => ?_⟩, ⟨rfl, fun i i0 i1 => ?_, fun i k i0 i1 k0 k1 h => ?_, fun i i0 i1 => by have i1 : i < 0 := i1; omega⟩⟩
  · show k_set i = z_init i
    unfold k_set
    rw [if_pos ⟨i0, i1⟩]
  · show 1 ≤ i + 1 ∧ i + 1 ≤ 4
    omega
  · have h : i + 1 = k + 1 := h
    omega