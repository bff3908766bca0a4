/-! create refused -/
section T8
variable {X R : Mm} {x1 x2 x3 : Int}
theorem create_no (h : RT X R) (hx1 : rI x1) (hx2 : rI x2) (hx3 : rI x3) (hno : ¬ ((0 ≤ x1 ∧ x1 ≤ 2) ∧ DirR R x2 x3 ∧ R 2 (x2 * 26 + (x3 - 97)).toNat = -1)) : fX_create x1 x2 x3 X = some (1, 0, X) ∧ fR_create x1 x2 x3 R = some (0, st R 0 0 1) := by
  have h19 : fR_create_19 x1 x2 x3 R = some (0, st R 0 0 1) := by
    unfold fR_create_19 fR_create_37
    rw [mput_t, st_same, mlt_t rI_0 ⟨by decide, by decide⟩ (by decide)]
  have r2 : rI 2 := ⟨by decide, by decide⟩
  unfold fX_create fR_create
  by_cases h1 : x1 < 0
  · rw [mlt_t hx1 rI_0 h1, mlt_t hx1 rI_0 h1]; exact ⟨rfl, h19⟩
  · rw [mlt_f hx1 rI_0 h1, mlt_f hx1 rI_0 h1]
    by_cases h2 : 2 < x1
    · rw [mlt_t r2 hx1 h2, mlt_t r2 hx1 h2]; exact ⟨rfl, h19⟩
    · have h3 : ¬ (DirR R x2 x3 ∧ R 2 (x2 * 26 + (x3 - 97)).toNat = -1) := fun z => hno ⟨⟨by omega, by omega⟩, z⟩
      rw [mlt_f r2 hx1 h2, mlt_f r2 hx1 h2, mcx_x (by rw [h.freeX hx2 hx3, if_neg h3]) (fun z => nomatch (show (1 : Nat) = 0 from z)), mcn_e (h.freeR hx2 hx3), if_neg h3, meq_t rI_0 rI_0 rfl]
      exact ⟨rfl, h19⟩
end T8
