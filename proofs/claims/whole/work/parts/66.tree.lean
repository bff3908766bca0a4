/-! a new node -/
section T6
variable {X R : Mm}
theorem RT.newNode (h : RT X R) {k : Int} (hk : 0 ≤ k ∧ k ≤ 2) (hn : R 0 1 < 16) : RT (st (st X 2 (R 0 1).toNat k) 1 5 (R 0 1 + 1)) (st (st R 1 (R 0 1).toNat k) 0 1 (R 0 1 + 1)) := by
  obtain ⟨h1, h2, h3, h4, h5, h6⟩ := h
  refine ⟨by simp [st]; omega, fun i hi => ?_, fun i hi => by rw [st_ne (k := 1) (k' := 3) (by decide), st_ne (k := 2) (k' := 3) (by decide), st_ne (k := 0) (k' := 5) (by decide), st_ne (k := 1) (k' := 5) (by decide), st_ne (k := 0) (k' := 2) (by decide), st_ne (k := 1) (k' := 2) (by decide)]; exact h3 i hi, fun i hi => ?_, fun i hi => by simpa [st] using h5 i hi, fun i hi => ?_⟩
  · have hq := h2 i hi
    by_cases hie : i = (R 0 1).toNat
    · subst hie; simp [st]; omega
    · simpa [st, hie] using hq
  · have hq := h4 i hi
    by_cases hie : i = (R 0 1).toNat
    · subst hie; simp [st]; omega
    · simp [st, hie]; omega
  · have hq := h6 i hi
    simp [st]
    omega
end T6
