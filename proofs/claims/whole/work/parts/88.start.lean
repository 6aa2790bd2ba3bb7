/-! the two devices as they are made -/
def hm0 : zH := (fun k => if k = 32 ∨ k = 48 then -1 else 0, fun _ _ => 0)
def hx0 : zH := (fun k => if k = 46 ∨ k = 24 then -1 else 0, fun _ _ => 0)
theorem gs_m0 (k : Nat) : gs hm0 k = if k = 32 ∨ k = 48 then -1 else 0 := rfl
theorem gs_x0 (k : Nat) : gs hx0 k = if k = 46 ∨ k = 24 then -1 else 0 := rfl
theorem REL_start : REL hm0 hx0 0 := by
  have eN : mN hm0 = 0 := rfl
  have nopg (i : Int) : ¬ pg hm0 i := fun h => by
    have h1 : i < mN hm0 := h.2.1
    have := h.1
    omega
  have sim : SIM hm0 hx0 := by
    refine ⟨prs_all ⟨rfl, rfl, rfl, rfl, rfl, rfl, rfl, rfl, rfl, rfl, rfl, rfl, rfl, rfl, rfl, rfl, rfl, rfl, rfl⟩, ⟨⟨⟨Int.le_refl 0, show (0 : Int) ≤ 32 by decide⟩, ⟨Int.le_refl 0, show (0 : Int) ≤ 32 by decide⟩, rfl⟩, fun b b0 b1 => ?_, ⟨Int.le_refl 0, show (0 : Int) ≤ 64 by decide⟩, ⟨Int.le_refl 0, show (0 : Int) ≤ 1000 by decide⟩, ⟨Int.le_refl 0, show (0 : Int) < 16 by decide⟩, Int.le_refl 0, ⟨Int.le_refl (-1), show (-1 : Int) < 0 by decide⟩, rfl⟩, ⟨⟨Int.le_refl 0, show (0 : Int) ≤ 32 by decide, Int.le_refl 0, show (0 : Int) ≤ 32 by decide, Int.le_refl 0, show (0 : Int) ≤ 64 by decide⟩, fun i i0 i1 => ?_, ⟨Int.le_refl (-1), show (-1 : Int) < 0 by decide⟩, ⟨Int.le_refl 0, show (0 : Int) ≤ 1000 by decide⟩, fun b b0 b1 => ?_⟩, fun i i0 i1 => ?_, fun b b0 b1 => rfl, fun p p0 p1 => ⟨rfl, rfl, rfl⟩, fun r r0 r1 => ⟨⟨fun z => absurd z (xBit_0 r), fun z => absurd rfl z⟩, fun z => absurd rfl z⟩, fun t t0 t1 => rfl⟩
    · have b1 : b < 0 := b1
      omega
    · exact ⟨fun z => absurd z (show ¬ (0 : Int) = 1 by decide), fun z => absurd z (show ¬ (0 : Int) = 3 by decide)⟩
    · have b1 : b < 0 := b1
      omega
    · have i1 : i < 0 := i1
      omega
  refine ⟨Or.inr ⟨⟨sim, ⟨fun i h => absurd h (nopg i), fun i j h => absurd h (nopg i), fun i j h => absurd h (nopg i), ⟨⟨Int.le_refl 0, Int.le_refl 0⟩, ⟨Int.le_refl 0, Int.le_refl 0⟩, fun b b0 b1 => ⟨Int.le_refl 0, Int.le_refl 0⟩⟩, fun i h => absurd h (nopg i), ⟨Int.le_refl 0, show (0 : Int) ≤ 1000 by decide⟩⟩, ⟨fun i h => absurd h (nopg i), fun i h => absurd h (nopg i)⟩, ⟨0, 0, fun _ => 0, ⟨fun _ => 0, fun _ => ⟨rfl, fun i h => absurd h (nopg i), fun _ => rfl⟩, fun z => absurd rfl z, fun z => absurd rfl z, fun z => absurd rfl z, fun p p0 p1 => ?_, fun _ _ => rfl⟩, fun i h => absurd h (nopg i), fun p p0 p1 => ?_, fun p p0 p1 => ⟨Int.le_refl 0, fun _ => rfl⟩, ⟨Int.le_refl 0, Int.le_refl 0⟩, ⟨Int.le_refl 0, Int.le_refl 0⟩⟩, rfl, Or.inl rfl, ⟨fun p p0 p1 => ⟨rfl, rfl, rfl⟩, fun r r0 r1 => rfl, rfl, rfl, rfl, rfl, rfl⟩⟩, fun _ => rfl⟩, ⟨rfl, ⟨Int.le_refl 0, show (0 : Int) ≤ 600 by decide⟩, fun k k0 k1 => ?_, rfl, rfl⟩, show (0 : Int) ≤ 6 by decide⟩
  · have p1 : p < 0 := p1
    omega
  · have p1 : p < 0 := p1
    omega
  · have k1 : k < 0 := k1
    omega

