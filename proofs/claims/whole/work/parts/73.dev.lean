/-! Bad inodes: both sides alike -/
def enb (d : Nat → Int) (i : Nat) : Nat → Bool
  | 0 => true
  | n + 1 => enb d i n && decide (cs d i n < rs d i (1 + n))
theorem enb_mono {d : Nat → Int} {i j : Nat} : ∀ n, enb d i n = true → j ≤ n → enb d i j = true
  | 0, h, hj => by rw [show j = 0 by omega]; exact h
  | n + 1, h, hj => by
    by_cases e : j = n + 1
    · rw [e]; exact h
    · unfold enb at h
      exact enb_mono n (by simp at h; exact h.1) (by omega)
theorem enb_lt {d : Nat → Int} {i j n : Nat} (h : enb d i n = true) (hj : j < n) : cs d i j < rs d i (1 + j) := by
  have := enb_mono n h (show j + 1 ≤ n by omega)
  unfold enb at this
  simp at this
  exact this.2
abbrev Ends (d : Nat → Int) (i : Nat) : Prop := 1 ≤ rs d i 0 ∧ rs d i 0 ≤ 11 ∧ rs d i (rs d i 0).toNat = sz d i ∧ enb d i (rs d i 0).toNat = true
abbrev Bk (d : Nat → Int) (sl us : Int) (i : Nat) : Prop := bl d i = 0 ∨ (1 + (sl + 1) / 2 ≤ fb d i ∧ fb d i + bl d i ≤ us)
abbrev Bad (d : Nat → Int) (sl us : Int) (i : Nat) : Prop := kn d i = 3 ∨ (kn d i = 0 ∧ ¬ sz d i % 3 = 0) ∨ ly d i = 3 ∨ (ly d i = 1 ∧ (if lg d i = 0 then 4 else 12) < sz d i % 16) ∨ (ly d i = 2 ∧ (¬ kn d i = 1 ∨ lg d i = 0 ∨ ¬ Ends d i)) ∨ ¬ Bk d sl us i
section D2
variable {d : Nat → Int} {M : Mm} {i : Nat} {sl us : Int}
theorem ends_loopX (hM : M 17 = d) (h : Db d) {n : Nat} (hn : 1 ≤ n) (hi : 16 + 8 * i + 4 + n < 1024) : ∀ (k f j : Nat), j + k = n → k < f → enb d i j = true → fDe_hasRightEnds_22 f (i : Int) (n : Int) (j : Int) M = some (if rs d i n = sz d i ∧ enb d i n = true then 1 else 0, M)
  | k, 0, _, _, hf, _ => absurd hf (Nat.not_lt_zero _)
  | 0, f + 1, j, hj, _, he => by
    have hj' : j = n := by omega
    subst hj'
    have q1 := h.rs_ (i := i) (k := j) (by omega)
    have q2 := h.sz_ (i := i) (by omega)
    unfold fDe_hasRightEnds_22
    rw [mlt_f ⟨by omega, by omega⟩ ⟨by omega, by omega⟩ (by omega), show (j : Int) - 1 = ((j - 1 : Nat) : Int) by omega, mcn_e (cend_vX hM (by omega)), mcn_e (size_vX hM (by omega)), show 1 + (j - 1) = j by omega]
    by_cases e : rs d i j = sz d i
    · rw [meq_t ⟨by omega, by omega⟩ ⟨by omega, by omega⟩ e, if_pos ⟨e, he⟩]
    · rw [meq_f ⟨by omega, by omega⟩ ⟨by omega, by omega⟩ e, if_neg (fun z => e z.1)]
  | k + 1, f + 1, j, hj, hf, he => by
    have q1 := h.rs_ (i := i) (k := 1 + j) (by omega)
    have q0 : 0 ≤ cs d i j ∧ cs d i j ≤ 255 := by
      cases j with
      | zero => exact ⟨Int.le_refl 0, show (0 : Int) ≤ 255 by decide⟩
      | succ j => exact h.rs_ (i := i) (k := 1 + j) (by omega)
    unfold fDe_hasRightEnds_22
    rw [mlt_t ⟨by omega, by omega⟩ ⟨by omega, by omega⟩ (by omega), mcn_e (cend_vX hM (by omega)), mcn_e (cst_vX hM (by omega))]
    by_cases e : cs d i j < rs d i (1 + j)
    · rw [mlt_t ⟨by omega, by omega⟩ ⟨by omega, by omega⟩ e, show (j : Int) + 1 = ((j + 1 : Nat) : Int) by omega]
      exact ends_loopX hM h hn hi k f (j + 1) (by omega) (by omega) (by unfold enb; rw [he]; simp [e])
    · rw [mlt_f ⟨by omega, by omega⟩ ⟨by omega, by omega⟩ e, if_neg (fun z => e (enb_lt z.2 (by omega)))]
theorem ends_vX (hM : M 17 = d) (h : Db d) (hi : i < 125) : fDe_hasRightEnds (i : Int) M = some (if Ends d i then 1 else 0, M) := by
  have q := h.rs_ (i := i) (k := 0) (by omega)
  unfold fDe_hasRightEnds
  rw [mcn_e (slotB (x := (i : Int)) (k' := 4) (k := 4) hM (by omega) rfl rfl), show d (16 + 8 * i + 4) = rs d i 0 from rfl]
  by_cases h1 : rs d i 0 < 1
  · rw [mlt_t ⟨by omega, by omega⟩ ⟨by decide, by decide⟩ h1, if_neg (by omega)]
  · rw [mlt_f ⟨by omega, by omega⟩ ⟨by decide, by decide⟩ h1]
    by_cases h2 : 11 < rs d i 0
    · rw [mlt_t ⟨by decide, by decide⟩ ⟨by omega, by omega⟩ h2, if_neg (by omega)]
    · rw [mlt_f ⟨by decide, by decide⟩ ⟨by omega, by omega⟩ h2]
      have hl := ends_loopX (M := M) (i := i) hM h (n := (rs d i 0).toNat) (by omega) (by omega) (rs d i 0).toNat FU 0 (by omega) (by unfold FU; omega) rfl
      rw [show (((rs d i 0).toNat : Nat) : Int) = rs d i 0 by omega] at hl
      refine hl.trans ?_
      by_cases hq : rs d i (rs d i 0).toNat = sz d i ∧ enb d i (rs d i 0).toNat = true
      · rw [if_pos hq, if_pos ⟨by omega, by omega, hq⟩]
      · rw [if_neg hq, if_neg (fun z => hq z.2.2)]
theorem ends_loopR (hM : M 13 = d) (h : Db d) {n : Nat} (hi : 16 + 8 * i + 4 + n < 1024) : ∀ (k f j : Nat), j + k = n → k < f → fR_endsAreWrong_41 f (i : Int) (n : Int) (if enb d i j = true then 0 else 1) (j : Int) M = some (if enb d i n = true then 0 else 1, M)
  | k, 0, _, _, hf => absurd hf (Nat.not_lt_zero _)
  | 0, f + 1, j, hj, _ => by
    have hj' : j = n := by omega
    subst hj'
    unfold fR_endsAreWrong_41
    rw [mlt_f ⟨by omega, by omega⟩ ⟨by omega, by omega⟩ (by omega), mz_t (by split <;> omega)]
  | k + 1, f + 1, j, hj, hf => by
    have q1 := h.rs_ (i := i) (k := 1 + j) (by omega)
    have q0 : 0 ≤ cs d i j ∧ cs d i j ≤ 255 := by
      cases j with
      | zero => exact ⟨Int.le_refl 0, show (0 : Int) ≤ 255 by decide⟩
      | succ j => exact h.rs_ (i := i) (k := 1 + j) (by omega)
    have ih := ends_loopR hM h hi k f (j + 1) (by omega) (by omega)
    unfold fR_endsAreWrong_41
    rw [mlt_t ⟨by omega, by omega⟩ ⟨by omega, by omega⟩ (by omega), show (j : Int) + 1 = ((j + 1 : Nat) : Int) by omega]
    have eu : enb d i (j + 1) = (enb d i j && decide (cs d i j < rs d i (1 + j))) := rfl
    by_cases e0 : enb d i j = true
    · rw [if_pos e0, meq_t rI_0 rI_0 rfl, mcn_e (end_vR hM (by omega)), mcn_e (cst_vR hM (by omega))]
      by_cases e : cs d i j < rs d i (1 + j)
      · rw [if_pos (by rw [eu, e0]; simp [e])] at ih
        rw [mlt_t ⟨by omega, by omega⟩ ⟨by omega, by omega⟩ e]
        exact ih
      · rw [if_neg (by rw [eu, e0]; simp [e])] at ih
        rw [mlt_f ⟨by omega, by omega⟩ ⟨by omega, by omega⟩ e]
        exact ih
    · rw [if_neg (by rw [eu]; simp [e0])] at ih
      rw [if_neg e0, meq_f ⟨by decide, by decide⟩ rI_0 (by decide)]
      exact ih
theorem ends_vR (hM : M 13 = d) (h : Db d) (hi : i < 125) : fR_endsAreWrong (i : Int) M = some (if Ends d i then 0 else 1, M) := by
  have q := h.rs_ (i := i) (k := 0) (by omega)
  have q2 := h.sz_ (i := i) (by omega)
  unfold fR_endsAreWrong
  rw [mcn_e (rest_vR (k := 0) (y := 0) hM (by omega) rfl)]
  by_cases h1 : rs d i 0 < 1
  · rw [mlt_t ⟨by omega, by omega⟩ ⟨by decide, by decide⟩ h1, if_neg (by omega)]
  · rw [mlt_f ⟨by omega, by omega⟩ ⟨by decide, by decide⟩ h1]
    by_cases h2 : 11 < rs d i 0
    · rw [mlt_t ⟨by decide, by decide⟩ ⟨by omega, by omega⟩ h2, if_neg (by omega)]
    · rw [mlt_f ⟨by decide, by decide⟩ ⟨by omega, by omega⟩ h2]
      have q3 := h.rs_ (i := i) (k := (rs d i 0).toNat) (by omega)
      rw [show rs d i 0 - 1 = (((rs d i 0).toNat - 1 : Nat) : Int) by omega, mcn_e (end_vR hM (by omega)), mcn_e (size_vR hM (by omega)), show 1 + ((rs d i 0).toNat - 1) = (rs d i 0).toNat by omega]
      by_cases h3 : rs d i (rs d i 0).toNat = sz d i
      · have hl := ends_loopR (M := M) (i := i) hM h (n := (rs d i 0).toNat) (by omega) (rs d i 0).toNat FU 0 (by omega) (by unfold FU; omega)
        rw [if_pos (show enb d i 0 = true from rfl), show (((rs d i 0).toNat : Nat) : Int) = rs d i 0 by omega] at hl
        rw [meq_t ⟨by omega, by omega⟩ ⟨by omega, by omega⟩ h3]
        refine hl.trans ?_
        by_cases hq : enb d i (rs d i 0).toNat = true
        · rw [if_pos hq, if_pos ⟨by omega, by omega, h3, hq⟩]
        · rw [if_neg hq, if_neg (fun z => hq z.2.2.2)]
      · rw [meq_f ⟨by omega, by omega⟩ ⟨by omega, by omega⟩ h3, if_neg (fun z => h3 z.2.2.1)]
theorem its_vX (hM : M 17 = d) (h : Db d) (hi : i < 126) (hs : M 16 3 = sl) (hu : M 16 4 = us) (hsl : 0 ≤ sl ∧ sl ≤ 126) (hus : 0 ≤ us ∧ us ≤ 64) : fDe_hasItsBlocks (i : Int) M = some (if Bk d sl us i then 1 else 0, M) := by
  have q1 := h.bl_ hi
  have q2 := h.fb_ hi
  unfold fDe_hasItsBlocks
  rw [mcn_e (blocks_vX h hM hi), mcn_e (first_vX hM hi)]
  by_cases h1 : bl d i = 0
  · rw [meq_t ⟨by omega, by omega⟩ rI_0 h1, if_pos (Or.inl h1)]
  · rw [meq_f ⟨by omega, by omega⟩ rI_0 h1, hs, mcn_e (behind_vX ⟨by omega, by omega⟩), hu]
    by_cases h2 : fb d i < 1 + (sl + 1) / 2
    · rw [mlt_t ⟨by omega, by omega⟩ ⟨by omega, by omega⟩ h2, if_neg (by omega)]
    · rw [mlt_f ⟨by omega, by omega⟩ ⟨by omega, by omega⟩ h2]
      by_cases h3 : us < fb d i + bl d i
      · rw [mlt_t ⟨by omega, by omega⟩ ⟨by omega, by omega⟩ h3, if_neg (by omega)]
      · rw [mlt_f ⟨by omega, by omega⟩ ⟨by omega, by omega⟩ h3, if_pos (by omega)]
theorem its_vR {b : Int} (hM : M 13 = d) (h : Db d) (hi : i < 126) (hs : M 0 18 = sl) (hu : M 0 19 = us) (hsl : 0 ≤ sl ∧ sl ≤ 126) (hus : 0 ≤ us ∧ us ≤ 64) (hb : bl d i = b) : fR_isBad_157 (i : Int) b M = some (if Bk d sl us i then 0 else 1, M) := by
  have q1 := h.bl_ hi
  have q2 := h.fb_ hi
  subst hb
  unfold fR_isBad_157
  by_cases h1 : bl d i = 0
  · rw [mlt_f rI_0 ⟨by omega, by omega⟩ (by omega), if_pos (Or.inl h1)]
  · rw [mlt_t rI_0 ⟨by omega, by omega⟩ (by omega), mcn_e (first_vR hM hi), hs, mdiv_t ⟨by omega, by omega, by omega, by omega⟩]
    by_cases h2 : fb d i < 1 + (sl + 1) / 2
    · rw [mlt_t ⟨by omega, by omega⟩ ⟨by omega, by omega⟩ h2, if_neg (by omega)]
    · rw [mlt_f ⟨by omega, by omega⟩ ⟨by omega, by omega⟩ h2, mcn_e (first_vR hM hi), hu]
      by_cases h3 : us < fb d i + bl d i
      · rw [mlt_t ⟨by omega, by omega⟩ ⟨by omega, by omega⟩ h3, if_neg (by omega)]
      · rw [mlt_f ⟨by omega, by omega⟩ ⟨by omega, by omega⟩ h3, if_pos (by omega)]
end D2
