/-! link done: both sides alike -/
section T5
variable {X R : Mm} {x1 x2 x3 : Int}
theorem link_yes (h : RT X R) (hx1 : rI x1) (hx2 : rI x2) (hx3 : rI x3) (h1 : 0 ≤ x1 ∧ x1 < R 0 1 ∧ R 1 x1.toNat = 1) (h2 : DirR R x2 x3 ∧ R 2 (x2 * 26 + (x3 - 97)).toNat = -1) : ∃ X' R', fX_link x1 x2 x3 X = some (0, 0, X') ∧ fR_link x1 x2 x3 R = some (0, R') ∧ R' 0 0 = 0 ∧ RT X' R' ∧ TS X X' R R' := by
  have r1 : rI 1 := ⟨by decide, by decide⟩
  have hn := h.1
  have hd := h2.1
  have hc := h.code 0
  have e01 : st R 0 0 0 0 1 = R 0 1 := st_off (by decide)
  have hE := hc.enter (e := (x2 * 26 + (x3 - 97)).toNat) (v := x1.toNat) (by omega) (by rw [e01]; omega) (by rw [st_ne (by decide)]; exact h2.2)
  refine ⟨_, _, ?_, ?_, ?_, hE, ?_⟩
  · unfold fX_link
    rw [mcn_e (h.nodeX hx1 r1), if_pos h1, meq_f r1 rI_0 (by decide), mcx_e (by rw [h.freeX hx2 hx3, if_pos h2])]
    unfold fTr_enter
    rw [mwr_t ⟨by omega, by omega⟩, mrd_t ⟨by omega, by omega⟩, mwr_t ⟨by omega, by omega⟩, mcn_t, st_ne (by decide), show ((x1.toNat : Nat) : Int) = x1 by omega]
  · unfold fR_link
    rw [mcn_e (h.nodeR hx1 r1), if_pos h1, meq_f r1 rI_0 (by decide), mcn_e (h.freeR hx2 hx3), if_pos h2, meq_f r1 rI_0 (by decide)]
    unfold fR_link_24
    rw [mput_t, st_same, mlt_f rI_0 rI_0 (by decide), mwr_t ⟨by omega, by omega⟩, mrd_t ⟨by omega, by omega⟩, mwr_t ⟨by omega, by omega⟩, show 26 * x2 + x3 - 97 = x2 * 26 + (x3 - 97) by omega, show ((x1.toNat : Nat) : Int) = x1 by omega, st_ne (k := 2) (k' := 5) (by decide)]
  · rw [st_ne (by decide), st_ne (by decide), st_same]
  · refine ⟨fun p hp => ?_, fun p hp => ?_, fun k h0 h1 => ?_⟩
    · rw [st_ne (by omega), st_ne (by omega)]
    · rw [st_ne (by omega), st_ne (by omega), st_ne (by omega)]
    · rw [st_ne (by decide), st_ne (by decide), st_off h0]
end T5
