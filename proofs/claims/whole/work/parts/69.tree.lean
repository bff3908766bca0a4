/-! create with no room, create done -/
section T9
variable {X R : Mm} {x1 x2 x3 : Int}
theorem create_full (h : RT X R) (hx1 : rI x1) (hx2 : rI x2) (hx3 : rI x3) (h1 : 0 ≤ x1 ∧ x1 ≤ 2) (h2 : DirR R x2 x3 ∧ R 2 (x2 * 26 + (x3 - 97)).toNat = -1) (hn : R 0 1 = 16) : fX_create x1 x2 x3 X = some (2, 0, X) ∧ fR_create x1 x2 x3 R = some (0, st R 0 0 2) := by
  have h0 := h.1
  constructor
  · unfold fX_create
    rw [mlt_f hx1 rI_0 (by omega), mlt_f ⟨by decide, by decide⟩ hx1 (by omega), mcx_e (by rw [h.freeX hx2 hx3, if_pos h2])]
    unfold fTr_isFull
    simp (disch := omega) only [↓mlt_t, ↓mlt_f, ↓meq_t, ↓meq_f, ↓mrd_t, ↓mwr_t, ↓mput_t, ↓mdiv_t, ↓mrem_t, ↓mcn_t, ↓mcx_t, ↓mz_t, ↓mpuz_t, ↓mwz_t, ↓mshr_t, ↓mcp_t]
  · unfold fR_create
    rw [mlt_f hx1 rI_0 (by omega), mlt_f ⟨by decide, by decide⟩ hx1 (by omega), mcn_e (by rw [h.freeR hx2 hx3, if_pos h2])]
    unfold fR_create_37
    simp (disch := omega) only [↓mlt_t, ↓mlt_f, ↓meq_t, ↓meq_f, ↓mrd_t, ↓mwr_t, ↓mput_t, ↓mdiv_t, ↓mrem_t, ↓mcn_t, ↓mcx_t, ↓mz_t, ↓mpuz_t, ↓mwz_t, ↓mshr_t, ↓mcp_t, st_same]
theorem create_done (h : RT X R) (hx1 : rI x1) (hx2 : rI x2) (hx3 : rI x3) (h1 : 0 ≤ x1 ∧ x1 ≤ 2) (h2 : DirR R x2 x3 ∧ R 2 (x2 * 26 + (x3 - 97)).toNat = -1) (hn : R 0 1 < 16) : ∃ X' R', fX_create x1 x2 x3 X = some (0, R 0 1, X') ∧ fR_create x1 x2 x3 R = some (R 0 1, R') ∧ R' 0 0 = 0 ∧ RT X' R' ∧ TS X X' R R' := by
  have h0 := h.1
  have hd := h2.1
  have hu := h.unused (v := (R 0 1).toNat) (by omega) (by omega)
  have e01 : st R 0 0 0 0 1 = R 0 1 := st_off (by decide)
  have hN := (h.code 0).newNode h1 (by rw [e01]; exact hn)
  rw [e01] at hN
  have hE := hN.enter (e := (x2 * 26 + (x3 - 97)).toNat) (v := (R 0 1).toNat) (by omega) (by rw [st_same]; omega) (by rw [st_ne (by decide), st_ne (by decide), st_ne (by decide)]; exact h2.2)
  rw [st_ne (k := 1) (k' := 3) (by decide), st_ne (k := 2) (k' := 3) (by decide), st_ne (k := 0) (k' := 5) (by decide), st_ne (k := 1) (k' := 5) (by decide), st_ne (k := 0) (k' := 5) (by decide), hu.1, hu.2, show (((R 0 1).toNat : Nat) : Int) = R 0 1 by omega] at hE
  refine ⟨_, _, ?_, ?_, ?_, hE, ?_⟩
  · unfold fX_create
    rw [mlt_f hx1 rI_0 (by omega), mlt_f ⟨by decide, by decide⟩ hx1 (by omega), mcx_e (by rw [h.freeX hx2 hx3, if_pos h2])]
    unfold fTr_isFull fTr_newNode fTr_enter
    have hq : st (st X 2 (R 0 1).toNat x1) 1 5 (R 0 1 + 1) 3 (R 0 1).toNat = 0 := by
      rw [st_ne (by decide), st_ne (by decide)]; exact hu.2
    rw [mlt_t ⟨by omega, by omega⟩ ⟨by decide, by decide⟩ (by omega), mcn_t, meq_t rI_0 rI_0 rfl, mwr_t ⟨by omega, by omega⟩, mput_t, mcn_t, h0.1, st_ne (k := 2) (k' := 1) (by decide), h0.1, mwr_t ⟨by omega, by omega⟩, mrd_t ⟨by omega, by omega⟩, mwr_t ⟨by omega, by omega⟩, mcn_t, st_ne (k := 6) (k' := 3) (by decide), hq]
  · unfold fR_create
    rw [mlt_f hx1 rI_0 (by omega), mlt_f ⟨by decide, by decide⟩ hx1 (by omega), mcn_e (by rw [h.freeR hx2 hx3, if_pos h2]), meq_f ⟨by decide, by decide⟩ rI_0 (by decide), meq_f ⟨by omega, by omega⟩ ⟨by decide, by decide⟩ (by omega)]
    unfold fR_create_37
    rw [mput_t, st_same, mlt_f rI_0 rI_0 (by decide), e01, mwr_t ⟨by omega, by omega⟩, st_ne (k := 1) (k' := 0) (by decide), e01, mwr_t ⟨by omega, by omega⟩, mwr_t ⟨by omega, by omega⟩, mput_t, st_same, st_ne (k := 2) (k' := 0) (by decide), st_ne (k := 5) (k' := 0) (by decide), st_ne (k := 1) (k' := 0) (by decide), e01, show 26 * x2 + x3 - 97 = x2 * 26 + (x3 - 97) by omega, show R 0 1 + 1 - 1 = R 0 1 by omega, st_swap (k := 2) (k' := 5) (by decide), st_swap (k := 0) (k' := 5) (by decide), st_swap (k := 0) (k' := 2) (by decide)]
    rfl
  · rw [st_ne (by decide), st_ne (by decide), st_off (by decide), st_ne (by decide), st_same]
  · refine ⟨fun p hp => ?_, fun p hp => ?_, fun k h0 h1 => ?_⟩
    · rw [st_ne (by omega), st_ne (by omega), st_ne (by omega), st_ne (by omega)]
    · rw [st_ne (by omega), st_ne (by omega), st_ne (by omega), st_ne (by omega), st_ne (by omega)]
    · rw [st_ne (by decide), st_ne (by decide), st_off h1, st_ne (by decide), st_off h0]
end T9
