/-! link keeps the tree's relation -/
/-- what a call on the tree leaves as it was -/
def TS (X X' R R' : Mm) : Prop := (∀ p, p = 0 ∨ 7 ≤ p → X' p = X p) ∧ (∀ p, 6 ≤ p → R' p = R p) ∧ ∀ k, k ≠ 0 → k ≠ 1 → R' 0 k = R 0 k
section T4
variable {X R : Mm} {x1 x2 x3 : Int}
theorem RT.code (h : RT X R) (c : Int) : RT X (st R 0 0 c) := by
  obtain ⟨h1, h2, h3, h4, h5, h6⟩ := h
  have e0 : st R 0 0 c 0 1 = R 0 1 := st_off (by decide)
  have ep : ∀ p, p ≠ 0 → st R 0 0 c p = R p := fun p hp => st_ne hp
  refine ⟨by rw [e0]; exact h1, fun i hi => by rw [ep 1 (by decide)]; exact h2 i hi, fun i hi => by rw [ep 5 (by decide), ep 2 (by decide)]; exact h3 i hi, fun i hi => by rw [ep 4 (by decide), ep 1 (by decide), e0]; exact h4 i hi, fun i hi => by rw [ep 3 (by decide)]; exact h5 i hi, fun i hi => by rw [ep 2 (by decide), e0]; exact h6 i hi⟩
theorem link_no (h : RT X R) (hx1 : rI x1) (hx2 : rI x2) (hx3 : rI x3) (hno : ¬ ((0 ≤ x1 ∧ x1 < R 0 1 ∧ R 1 x1.toNat = 1) ∧ DirR R x2 x3 ∧ R 2 (x2 * 26 + (x3 - 97)).toNat = -1)) : fX_link x1 x2 x3 X = some (1, 0, X) ∧ fR_link x1 x2 x3 R = some (0, st R 0 0 1) := by
  have h23 : fR_link_23 x1 x2 x3 R = some (0, st R 0 0 1) := by
    unfold fR_link_23 fR_link_24
    rw [mput_t, st_same, mlt_t rI_0 ⟨by decide, by decide⟩ (by decide)]
  have r1 : rI 1 := ⟨by decide, by decide⟩
  unfold fX_link fR_link
  rw [mcn_e (h.nodeX hx1 r1), mcn_e (h.nodeR hx1 r1)]
  by_cases h1 : 0 ≤ x1 ∧ x1 < R 0 1 ∧ R 1 x1.toNat = 1
  · have h2 : ¬ (DirR R x2 x3 ∧ R 2 (x2 * 26 + (x3 - 97)).toNat = -1) := fun z => hno ⟨h1, z⟩
    rw [if_pos h1, meq_f r1 rI_0 (by decide), meq_f r1 rI_0 (by decide), mcx_x (by rw [h.freeX hx2 hx3, if_neg h2]) (fun z => nomatch (show (1 : Nat) = 0 from z)), mcn_e (h.freeR hx2 hx3), if_neg h2, meq_t rI_0 rI_0 rfl]
    exact ⟨rfl, h23⟩
  · rw [if_neg h1, meq_t rI_0 rI_0 rfl, meq_t rI_0 rI_0 rfl]
    exact ⟨rfl, h23⟩
end T4
