/-! The tree's relation; free names -/
def RT (X R : Mm) : Prop := (X 1 5 = R 0 1 ∧ 1 ≤ R 0 1 ∧ R 0 1 ≤ 16) ∧ (∀ i, i < 16 → X 2 i = R 1 i ∧ 0 ≤ R 1 i ∧ R 1 i ≤ 2) ∧ (∀ i : Nat, i < 16 → X 3 i = R 5 i ∧ R 5 i = (cntE (R 2) i 416 : Int) + (if i = 0 then 1 else 0)) ∧ (∀ i : Nat, i < 16 → X 4 i = R 4 i ∧ 0 ≤ R 4 i ∧ R 4 i ≤ 60 ∧ (R 0 1 ≤ (i : Int) → R 4 i = 0) ∧ (R 1 i = 2 → R 4 i ≤ 4)) ∧ (∀ i, i < 960 → X 5 i = R 3 i ∧ 0 ≤ R 3 i ∧ R 3 i ≤ 255) ∧ (∀ i, i < 416 → X 6 i = R 2 i ∧ -1 ≤ R 2 i ∧ R 2 i < R 0 1)
abbrev DirR (R : Mm) (x1 x2 : Int) : Prop := (0 ≤ x1 ∧ x1 < R 0 1 ∧ R 1 x1.toNat = 0) ∧ 97 ≤ x2 ∧ x2 ≤ 122
section T2
variable {X R : Mm} {x1 x2 : Int}
theorem RT.kX (h : RT X R) : ∀ i, i < 16 → rI (X 2 i) := fun i hi => by
  have := h.2.1 i hi
  exact ⟨by omega, by omega⟩
theorem RT.kR (h : RT X R) : ∀ i, i < 16 → rI (R 1 i) := fun i hi => by
  have := h.2.1 i hi
  exact ⟨by omega, by omega⟩
theorem RT.nodeX (h : RT X R) {x k : Int} (hx : rI x) (hr : rI k) : fTr_isNodeOf x k X = some (if 0 ≤ x ∧ x < R 0 1 ∧ R 1 x.toNat = k then 1 else 0, X) := by
  have h1 := h.1
  rw [isNodeOf_v ⟨by omega, by omega⟩ h.kX hx hr, h1.1]
  by_cases hc : 0 ≤ x ∧ x < R 0 1
  · have := (h.2.1 x.toNat (by omega)).1
    rw [this]
  · rw [if_neg (fun z => hc ⟨z.1, z.2.1⟩), if_neg (fun z => hc ⟨z.1, z.2.1⟩)]
theorem RT.nodeR (h : RT X R) {x k : Int} (hx : rI x) (hr : rI k) : fR_isNode x k R = some (if 0 ≤ x ∧ x < R 0 1 ∧ R 1 x.toNat = k then 1 else 0, R) := isNode_v h.1.2 h.kR hx hr
theorem RT.dirX (h : RT X R) (hx : rI x1) (hc : rI x2) : fX_demandDirectoryAndLetter x1 x2 X = some (if DirR R x1 x2 then 0 else 1, 0, X) := by
  unfold fX_demandDirectoryAndLetter
  rw [mcn_e (h.nodeX hx rI_0)]
  by_cases h1 : 0 ≤ x1 ∧ x1 < R 0 1 ∧ R 1 x1.toNat = 0
  · rw [if_pos h1, meq_f ⟨by decide, by decide⟩ rI_0 (by decide), mcn_e (isLetter_vX hc)]
    by_cases h2 : 97 ≤ x2 ∧ x2 ≤ 122
    · rw [if_pos h2, meq_f ⟨by decide, by decide⟩ rI_0 (by decide), if_pos ⟨h1, h2⟩]
    · rw [if_neg h2, meq_t rI_0 rI_0 rfl, if_neg (fun z => h2 z.2)]
  · rw [if_neg h1, meq_t rI_0 rI_0 rfl, if_neg (fun z => h1 z.1)]
theorem RT.freeX (h : RT X R) (hx : rI x1) (hc : rI x2) : fX_demandFreeName x1 x2 X = some (if DirR R x1 x2 ∧ R 2 (x1 * 26 + (x2 - 97)).toNat = -1 then 0 else 1, 0, X) := by
  unfold fX_demandFreeName
  by_cases hd : DirR R x1 x2
  · have hd' := hd

    have h1 := h.1
    have he := h.2.2.2.2.2 (x1 * 26 + (x2 - 97)).toNat (by omega)
    rw [mcx_e (by rw [h.dirX hx hc, if_pos hd])]
    unfold fTr_nodeAt
    rw [mrd_t ⟨by omega, by omega⟩, mcn_t, he.1]
    by_cases h2 : R 2 (x1 * 26 + (x2 - 97)).toNat = -1
    · rw [meq_t ⟨by omega, by omega⟩ ⟨by decide, by decide⟩ h2, if_pos ⟨hd, h2⟩]
    · rw [meq_f ⟨by omega, by omega⟩ ⟨by decide, by decide⟩ h2, if_neg (fun z => h2 z.2)]
  · rw [mcx_x (by rw [h.dirX hx hc, if_neg hd]) (fun z => nomatch (show (1 : Nat) = 0 from z)), if_neg (fun z => hd z.1)]
end T2
