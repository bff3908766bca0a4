/-! The tree's relation is kept: a name entered -/
section T3
variable {X R : Mm}
theorem RT.freeR (h : RT X R) {x1 x2 : Int} (hx : rI x1) (hc : rI x2) : fR_isFree x1 x2 R = some (if DirR R x1 x2 ∧ R 2 (x1 * 26 + (x2 - 97)).toNat = -1 then 1 else 0, R) := by
  unfold fR_isFree
  rw [mcn_e (h.nodeR hx rI_0)]
  by_cases h1 : 0 ≤ x1 ∧ x1 < R 0 1 ∧ R 1 x1.toNat = 0
  · rw [if_pos h1, meq_f ⟨by decide, by decide⟩ rI_0 (by decide), mcn_e (isLetter_vR hc)]
    by_cases h2 : 97 ≤ x2 ∧ x2 ≤ 122
    · have hn := h.1
      have he := h.2.2.2.2.2 (x1 * 26 + (x2 - 97)).toNat (by omega)
      rw [if_pos h2, meq_f ⟨by decide, by decide⟩ rI_0 (by decide), mrd_t ⟨by omega, by omega⟩, show 26 * x1 + x2 - 97 = x1 * 26 + (x2 - 97) by omega]
      by_cases h3 : R 2 (x1 * 26 + (x2 - 97)).toNat = -1
      · rw [meq_t ⟨by omega, by omega⟩ ⟨by decide, by decide⟩ h3, if_pos ⟨⟨h1, h2⟩, h3⟩]
      · rw [meq_f ⟨by omega, by omega⟩ ⟨by decide, by decide⟩ h3, if_neg (fun z => h3 z.2)]
    · rw [if_neg h2, meq_t rI_0 rI_0 rfl, if_neg (fun z => h2 z.1.2)]
  · rw [if_neg h1, meq_t rI_0 rI_0 rfl, if_neg (fun z => h1 z.1.1)]
/-- an entry e that was empty comes to name node v -/
theorem RT.enter (h : RT X R) {e v : Nat} (he : e < 416) (hv : (v : Int) < R 0 1) (h0 : R 2 e = -1) : RT (st (st X 6 e v) 3 v (X 3 v + 1)) (st (st R 2 e v) 5 v (R 5 v + 1)) := by
  obtain ⟨h1, h2, h3, h4, h5, h6⟩ := h
  have hv16 : v < 16 := by omega
  refine ⟨by simpa [st] using h1, fun i hi => by simpa [st] using h2 i hi, fun i hi => ?_, fun i hi => by simpa [st] using h4 i hi, fun i hi => by simpa [st] using h5 i hi, fun i hi => ?_⟩
  · have e2 : (st (st R 2 e v) 5 v (R 5 v + 1)) 2 = fun j => if j = e then (v : Int) else R 2 j := by
      funext j; simp [st]
    have ec : ((cntE ((st (st R 2 e v) 5 v (R 5 v + 1)) 2) i 416 : Nat) : Int) = (cntE (R 2) i 416 : Int) + (if (v : Int) = i then 1 else 0) - (if R 2 e = i then 1 else 0) :=
      cntE_set (by rw [e2]; simp) (fun j hj => by rw [e2]; simp [hj]) 416 he
    have hni : ¬ R 2 e = (i : Int) := by omega
    rw [ec, if_neg hni]
    have hq := h3 i hi
    by_cases hiv : i = v
    · subst hiv
      rw [if_pos rfl]
      have := h3 i hi
      simp only [st, and_self, if_true]
      omega
    · rw [if_neg (fun z => hiv (by omega))]
      simp only [st, hiv, and_false, if_false]
      simp
      omega
  · have hq := h6 i hi
    by_cases hie : i = e
    · subst hie
      simp [st]
      omega
    · simpa [st, hie] using hq
end T3
