/-! counts of unused nodes; how two writes change places -/
theorem cntE_none {f : Nat → Int} {v : Int} : ∀ n, (∀ i, i < n → f i ≠ v) → cntE f v n = 0
  | 0, _ => rfl
  | n + 1, h => by
    unfold cntE
    rw [cntE_none n (fun i hi => h i (by omega)), if_neg (h n (by omega))]
theorem st_swap {M : Mm} {k i k' i' : Nat} {v v' : Int} (h : k ≠ k') : st (st M k i v) k' i' v' = st (st M k' i' v') k i v := by
  funext a b
  unfold st
  by_cases h1 : a = k' ∧ b = i'
  · rw [if_pos h1, if_neg (fun z => h (z.1.symm.trans h1.1)), if_pos h1]
  · rw [if_neg h1]
    by_cases h2 : a = k ∧ b = i
    · rw [if_pos h2, if_pos h2]
    · rw [if_neg h2, if_neg h2, if_neg h1]
theorem RT.unused {X R : Mm} (h : RT X R) {v : Nat} (hv : R 0 1 ≤ (v : Int)) (h16 : v < 16) : R 5 v = 0 ∧ X 3 v = 0 := by
  have h3 := h.2.2.1 v h16
  have h1 := h.1
  have hc : cntE (R 2) (v : Int) 416 = 0 := cntE_none 416 (fun i hi => by have := h.2.2.2.2.2 i hi; omega)
  rw [hc, if_neg (by omega)] at h3
  exact ⟨h3.2, by rw [h3.1]; exact h3.2⟩
