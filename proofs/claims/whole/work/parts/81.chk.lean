/-! check: both sides alike -/
def ff (d : Nat → Int) (sl us : Int) (bg : Nat → Int) : Nat → Nat → Int
  | 0, _ => -1
  | k + 1, i => if In sl bg (i : Int) ∧ wrg d sl us bg i = true then (i : Int) else ff d sl us bg k (i + 1)
section C2
variable {d : Nat → Int} {X R M : Mm} {sl us : Int} {bg : Nat → Int}
theorem ff_r : ∀ (k i : Nat), -1 ≤ ff d sl us bg k i ∧ ff d sl us bg k i ≤ (k : Int) + i
  | 0, i => by unfold ff; omega
  | k + 1, i => by
    have := ff_r k (i + 1)
    unfold ff
    by_cases c : In sl bg (i : Int) ∧ wrg d sl us bg i = true
    · rw [if_pos c]; omega
    · rw [if_neg c]; omega
theorem ff_n : ∀ (k i : Nat), sl ≤ (i : Int) → ff d sl us bg k i = -1
  | 0, _, _ => rfl
  | k + 1, i, h => by
    unfold ff
    rw [if_neg (fun z => by have := z.1.2.1; omega), ff_n k (i + 1) (by omega)]
theorem ff_e (m : Nat) : ∀ (k i : Nat), (i + k : Int) = sl → ff d sl us bg (k + m) i = ff d sl us bg k i
  | 0, i, h => by rw [ff_n _ _ (by omega), ff_n _ _ (by omega)]
  | k + 1, i, h => by
    rw [show k + 1 + m = (k + m) + 1 by omega]
    unfold ff
    rw [ff_e m k (i + 1) (by omega)]
theorem check_vX (h : Ok d sl us bg) : ∀ (k fu i : Nat) (M : Mm), MX M d sl us bg → i + k = 126 → k < fu → ∃ M', fX_check_6 fu (i : Int) M = some (0, ff d sl us bg k i, M') ∧ FrX M M'
  | _, 0, _, _, _, _, hf => absurd hf (Nat.not_lt_zero _)
  | 0, fu + 1, i, M, hM, hi, _ => by
    unfold fX_check_6
    rw [mlt_f ⟨by omega, by omega⟩ ⟨by decide, by decide⟩ (by omega)]
    exact ⟨M, rfl, fun _ _ _ => rfl⟩
  | k + 1, fu + 1, i, M, hM, hi, hf => by
    unfold fX_check_6 ff
    rw [mlt_t ⟨by omega, by omega⟩ ⟨by decide, by decide⟩ (by omega), mcn_e (isInode_vX h hM ⟨by omega, by omega⟩), show (i : Int) + 1 = ((i + 1 : Nat) : Int) by omega]
    by_cases a : In sl bg (i : Int)
    · obtain ⟨M', f1, f2⟩ := wrong_vX h hM a
      rw [if_pos a, meq_f ⟨by decide, by decide⟩ rI_0 (by decide), mcn_e f1]
      by_cases b : wrg d sl us bg i = true
      · rw [if_pos b, meq_f ⟨by decide, by decide⟩ rI_0 (by decide), if_pos ⟨a, b⟩]
        exact ⟨M', rfl, f2⟩
      · rw [if_neg b, meq_t rI_0 rI_0 rfl, if_neg (fun z => b z.2)]
        obtain ⟨M2, f3, f4⟩ := check_vX h k fu (i + 1) M' (f2.mx hM) (by omega) (by omega)
        exact ⟨M2, f3, f2.tr f4⟩
    · rw [if_neg a, meq_t rI_0 rI_0 rfl, if_neg (fun z => a z.1)]
      exact check_vX h k fu (i + 1) M hM (by omega) (by omega)
theorem check_vR (h : Ok d sl us bg) : ∀ (i fu : Nat) (M : Mm), MY M d sl us bg → (i : Int) ≤ sl → i < fu → ∃ M', fR_check0_34 fu (ff d sl us bg (sl.toNat - i) i) ((i : Int) - 1) M = some (ff d sl us bg sl.toNat 0, M') ∧ FrR M M'
  | _, 0, _, _, _, hf => absurd hf (Nat.not_lt_zero _)
  | 0, fu + 1, M, hM, hi, _ => by
    unfold fR_check0_34
    rw [mlt_t ⟨by omega, by omega⟩ rI_0 (by omega)]
    exact ⟨M, rfl, fun _ _ => rfl⟩
  | i + 1, fu + 1, M, hM, hi, hf => by
    have h2 := h.2.1
    have q := h.2.2.2 i (by omega)
    have ef : ff d sl us bg (sl.toNat - i) i = if In sl bg (i : Int) ∧ wrg d sl us bg i = true then (i : Int) else ff d sl us bg (sl.toNat - (i + 1)) (i + 1) := by
      rw [show sl.toNat - i = (sl.toNat - (i + 1)) + 1 by omega]
      rfl
    unfold fR_check0_34
    rw [mlt_f ⟨by omega, by omega⟩ rI_0 (by omega), show ((i + 1 : Nat) : Int) - 1 = (i : Int) by omega, mrd_t ⟨by omega, by omega⟩, hM.2.2.2 _ (by omega), show (((i : Nat) : Int)).toNat = i by omega, show (i : Int) + (-1) = (i : Int) - 1 by omega]
    by_cases a : bg i = 0
    · rw [meq_t ⟨by omega, by omega⟩ rI_0 a]
      have := check_vR h i fu M hM (by omega) (by omega)
      rw [ef, if_neg (fun z => by have := z.1.2.2; rw [show (((i : Nat) : Int)).toNat = i by omega] at this; omega)] at this
      exact this
    · have hin : In sl bg (i : Int) := ⟨by omega, by omega, by rw [show (((i : Nat) : Int)).toNat = i by omega]; omega⟩
      obtain ⟨M', f1, f2⟩ := wrong_vR h hM hin
      rw [meq_f ⟨by omega, by omega⟩ rI_0 a, mcn_e f1]
      obtain ⟨M2, f3, f4⟩ := check_vR h i fu M' (f2.my hM) (by omega) (by omega)
      by_cases b : wrg d sl us bg i = true
      · rw [ef, if_pos ⟨hin, b⟩] at f3
        rw [if_pos b, meq_f ⟨by decide, by decide⟩ rI_0 (by decide)]
        exact ⟨M2, f3, f2.tr f4⟩
      · rw [ef, if_neg (fun z => b z.2)] at f3
        rw [if_neg b, meq_t rI_0 rI_0 rfl]
        exact ⟨M2, f3, f2.tr f4⟩
theorem check_m (h : Ok d sl us bg) (hX : MX X d sl us bg) (hR : MY R d sl us bg) (hm : X 16 2 = 1) (hm' : R 0 17 = 1) : ∃ (v : Int) (X' R' : Mm), fX_check X = some (0, v, X') ∧ rI v ∧ fR_check0 R = some (v, R') ∧ FrX X X' ∧ FrR (st R 0 0 0) R' := by
  have h2 := h.2.1
  obtain ⟨X', f1, f2⟩ := check_vX h 126 FU 0 X hX rfl (by unfold FU; omega)
  obtain ⟨R', f3, f4⟩ := check_vR h sl.toNat FU (st R 0 0 0) (hR.code (c := 0)) (by omega) (by unfold FU; omega)
  have e1 : ff d sl us bg 126 0 = ff d sl us bg sl.toNat 0 := by
    have := ff_e (d := d) (us := us) (bg := bg) (sl := sl) (126 - sl.toNat) sl.toNat 0 (by omega)
    rw [show sl.toNat + (126 - sl.toNat) = 126 by omega] at this
    exact this
  have e2 := ff_r (d := d) (us := us) (bg := bg) (sl := sl) sl.toNat 0
  refine ⟨ff d sl us bg sl.toNat 0, X', R', ?_, ⟨by omega, by omega⟩, ?_, f2, f4⟩
  · unfold fX_check fX_demandMounted
    rw [hm, meq_f ⟨by decide, by decide⟩ rI_0 (by decide), mcx_t]
    rw [e1] at f1
    exact f1
  · unfold fR_check0 fR_check0_13
    rw [hm', meq_f ⟨by decide, by decide⟩ rI_0 (by decide), mput_t, st_same, mlt_f rI_0 rI_0 (by decide), (hR.code (c := 0)).2.1]
    rw [show sl.toNat - sl.toNat = 0 by omega, show ((sl.toNat : Nat) : Int) = sl by omega] at f3
    exact f3
theorem check_u (hm : X 16 2 = 0) (hm' : R 0 17 = 0) : Sm [2] fX_check fR_check0 X R := by
  unfold Sm fX_check fR_check0 fX_demandMounted fR_check0_13
  rw [hm', hm, meq_t rI_0 rI_0 rfl, meq_t rI_0 rI_0 rfl, mcx_x rfl (fun z => nomatch (show (2 : Nat) = 0 from z)), mput_t, st_same, mlt_t rI_0 ⟨by decide, by decide⟩ (by decide)]
  exact ⟨2, 0, 0, rfl, Or.inr (by decide), fun z => absurd z (by decide), rfl⟩
end C2
