/-! unlink: both sides alike -/
section T10
variable {X R : Mm} {x1 x2 : Int}
theorem RT.leave (h : RT X R) {e v : Nat} (he : e < 416) (h0 : R 2 e = v) : RT (st (st X 3 v (X 3 v - 1)) 6 e (-1)) (st (st R 2 e (-1)) 5 v (R 5 v - 1)) := by
  obtain ⟨h1, h2, h3, h4, h5, h6⟩ := h
  have hv := h6 e he
  have hv16 : v < 16 := by omega
  refine ⟨by simpa [st] using h1, fun i hi => by simpa [st] using h2 i hi, fun i hi => ?_, fun i hi => by simpa [st] using h4 i hi, fun i hi => by simpa [st] using h5 i hi, fun i hi => ?_⟩
  · have e2 : (st (st R 2 e (-1)) 5 v (R 5 v - 1)) 2 = fun j => if j = e then (-1 : Int) else R 2 j := by
      funext j; simp [st]
    have ec : ((cntE ((st (st R 2 e (-1)) 5 v (R 5 v - 1)) 2) i 416 : Nat) : Int) = (cntE (R 2) i 416 : Int) + (if (-1 : Int) = i then 1 else 0) - (if R 2 e = i then 1 else 0) :=
      cntE_set (by rw [e2]; simp) (fun j hj => by rw [e2]; simp [hj]) 416 he
    have hni : ¬ (-1 : Int) = (i : Int) := by omega
    rw [ec, if_neg hni]
    have hq := h3 i hi
    by_cases hiv : i = v
    · subst hiv
      rw [if_pos h0]
      simp [st]
      omega
    · rw [if_neg (fun z => hiv (by omega))]
      simp [st, hiv]
      omega
  · have hq := h6 i hi
    by_cases hie : i = e
    · subst hie
      simp [st]
      omega
    · simpa [st, hie] using hq
abbrev UnR (R : Mm) (x1 x2 : Int) : Prop := DirR R x1 x2 ∧ 0 ≤ R 2 (x1 * 26 + (x2 - 97)).toNat ∧ R 1 (R 2 (x1 * 26 + (x2 - 97)).toNat).toNat = 1
theorem unlink_no (h : RT X R) (hx1 : rI x1) (hx2 : rI x2) (hno : ¬ UnR R x1 x2) : fX_unlink x1 x2 X = some (1, 0, X) ∧ fR_unlink x1 x2 R = some (0, st R 0 0 1) := by
  have r1 : rI 1 := ⟨by decide, by decide⟩
  have h55 : ∀ z, fR_unlink_55 x1 x2 z R = some (0, st R 0 0 1) := fun z => by
    unfold fR_unlink_55 fR_unlink_56
    rw [mput_t, st_same, mlt_t rI_0 r1 (by decide)]
  have h33 : fR_unlink_33 x1 x2 R = some (0, st R 0 0 1) := by
    unfold fR_unlink_33 fR_unlink_34
    rw [meq_t ⟨by decide, by decide⟩ ⟨by decide, by decide⟩ rfl]
    exact h55 _
  unfold fX_unlink fR_unlink
  rw [mcn_e (h.nodeR hx1 rI_0)]
  by_cases hd : DirR R x1 x2
  · have hd' := hd
    have h1 := h.1
    have he := h.2.2.2.2.2 (x1 * 26 + (x2 - 97)).toNat (by omega)
    rw [mcx_e (by rw [h.dirX hx1 hx2, if_pos hd]), if_pos hd.1, meq_f r1 rI_0 (by decide), mcn_e (isLetter_vR hx2), if_pos hd.2, meq_f r1 rI_0 (by decide), mrd_t ⟨by omega, by omega⟩, show 26 * x1 + x2 - 97 = x1 * 26 + (x2 - 97) by omega]
    unfold fTr_nodeAt fR_unlink_34
    rw [mrd_t ⟨by omega, by omega⟩, mcn_t, he.1, mcn_e (h.nodeX ⟨by omega, by omega⟩ r1)]
    by_cases hm : R 2 (x1 * 26 + (x2 - 97)).toNat = -1
    · rw [if_neg (by omega), meq_t rI_0 rI_0 rfl, meq_t ⟨by omega, by omega⟩ ⟨by decide, by decide⟩ hm]
      exact ⟨rfl, h55 _⟩
    · have hk := h.2.1 (R 2 (x1 * 26 + (x2 - 97)).toNat).toNat (by omega)
      rw [if_neg (fun z => hno ⟨hd, z.1, z.2.2⟩), meq_t rI_0 rI_0 rfl, meq_f ⟨by omega, by omega⟩ ⟨by decide, by decide⟩ hm, mrd_t ⟨by omega, by omega⟩, meq_f ⟨by omega, by omega⟩ r1 (fun z => hno ⟨hd, by omega, z⟩)]
      exact ⟨rfl, h55 _⟩
  · rw [mcx_x (by rw [h.dirX hx1 hx2, if_neg hd]) (fun z => nomatch (show (1 : Nat) = 0 from z))]
    refine ⟨rfl, ?_⟩
    by_cases h1 : 0 ≤ x1 ∧ x1 < R 0 1 ∧ R 1 x1.toNat = 0
    · rw [if_pos h1, meq_f r1 rI_0 (by decide), mcn_e (isLetter_vR hx2), if_neg (fun z => hd ⟨h1, z⟩), meq_t rI_0 rI_0 rfl]
      exact h33
    · rw [if_neg h1, meq_t rI_0 rI_0 rfl]
      exact h33
theorem unlink_yes (h : RT X R) (hx1 : rI x1) (hx2 : rI x2) (hy : UnR R x1 x2) : ∃ X' R', fX_unlink x1 x2 X = some (0, 0, X') ∧ fR_unlink x1 x2 R = some (0, R') ∧ R' 0 0 = 0 ∧ RT X' R' ∧ TS X X' R R' := by
  have r1 : rI 1 := ⟨by decide, by decide⟩
  obtain ⟨hd, hv, hk⟩ := hy
  have h1 := h.1
  have hd' := hd
  have he := h.2.2.2.2.2 (x1 * 26 + (x2 - 97)).toNat (by omega)
  have hL := (h.code 0).leave (e := (x1 * 26 + (x2 - 97)).toNat) (v := (R 2 (x1 * 26 + (x2 - 97)).toNat).toNat) (by omega) (by rw [st_ne (by decide)]; omega)
  refine ⟨_, _, ?_, ?_, ?_, hL, ?_⟩
  · unfold fX_unlink
    rw [mcx_e (by rw [h.dirX hx1 hx2, if_pos hd])]
    unfold fTr_leave fTr_nodeAt
    rw [mrd_t ⟨by omega, by omega⟩, mcn_t, he.1, mcn_e (h.nodeX ⟨by omega, by omega⟩ r1), if_pos ⟨hv, he.2.2, hk⟩, meq_f r1 rI_0 (by decide), mrd_t ⟨by omega, by omega⟩, mcn_t, he.1, mrd_t ⟨by omega, by omega⟩, mwr_t ⟨by omega, by omega⟩, mwr_t ⟨by omega, by omega⟩, mcn_t]
  · unfold fR_unlink
    rw [mcn_e (h.nodeR hx1 rI_0), if_pos hd.1, meq_f r1 rI_0 (by decide), mcn_e (isLetter_vR hx2), if_pos hd.2, meq_f r1 rI_0 (by decide), mrd_t ⟨by omega, by omega⟩, show 26 * x1 + x2 - 97 = x1 * 26 + (x2 - 97) by omega]
    unfold fR_unlink_34
    rw [meq_f ⟨by omega, by omega⟩ ⟨by decide, by decide⟩ (by omega), mrd_t ⟨by omega, by omega⟩, hk, meq_t r1 r1 rfl]
    unfold fR_unlink_56
    rw [mput_t, st_same, mlt_f rI_0 rI_0 (by decide), mwr_t ⟨by omega, by omega⟩, mrd_t ⟨by omega, by omega⟩, mwr_t ⟨by omega, by omega⟩, show 26 * x1 + x2 - 97 = x1 * 26 + (x2 - 97) by omega, st_ne (k := 2) (k' := 5) (by decide)]
  · rw [st_ne (by decide), st_ne (by decide), st_same]
  · refine ⟨fun p hp => ?_, fun p hp => ?_, fun k h0 h1 => ?_⟩
    · rw [st_ne (by omega), st_ne (by omega)]
    · rw [st_ne (by omega), st_ne (by omega), st_ne (by omega)]
    · rw [st_ne (by decide), st_ne (by decide), st_off h0]
end T10
