/-! The beginning -/
theorem rl_ini : Rl MN_X MN_R := by
  have r2 : MN_R 2 = fun i => if i < 416 then -1 else 0 := rfl
  have x6 : ∀ i, i < 416 → MN_X 6 i = -1 := fun i hi => by show (if 0 = 0 ∧ i < 416 then (-1 : Int) else 0) = -1; rw [if_pos ⟨rfl, hi⟩]
  refine ⟨⟨⟨rfl, by decide, by decide⟩, fun i hi => ⟨rfl, by show (0 : Int) ≤ 0; decide, by show (0 : Int) ≤ 2; decide⟩, fun i hi => ?_, fun i hi => ⟨rfl, by show (0 : Int) ≤ 0; decide, by show (0 : Int) ≤ 60; decide, fun _ => rfl, fun _ => by show (0 : Int) ≤ 4; decide⟩, fun i hi => ⟨rfl, by show (0 : Int) ≤ 0; decide, by show (0 : Int) ≤ 255; decide⟩, fun i hi => ?_⟩, rfl, fun i hi => ⟨by show (0 : Int) ≤ 0; decide, by show (0 : Int) ≤ 255; decide⟩, rfl, Or.inl rfl⟩
  · have hc : cntE (MN_R 2) (i : Int) 416 = 0 := cntE_none 416 (fun j hj => by rw [r2]; show (if j < 416 then (-1 : Int) else 0) ≠ _; rw [if_pos hj]; omega)
    rw [hc]
    refine ⟨?_, ?_⟩
    · show (if i = 0 then (1 : Int) else 0) = if i = 0 then 1 else 0
      rfl
    · show (if i = 0 then (1 : Int) else 0) = ((0 : Nat) : Int) + if i = 0 then 1 else 0
      split <;> rfl
  · rw [x6 i hi]
    have : MN_R 2 i = -1 := by rw [r2]; show (if i < 416 then (-1 : Int) else 0) = -1; rw [if_pos hi]
    rw [this]
    exact ⟨rfl, by decide, by decide⟩
