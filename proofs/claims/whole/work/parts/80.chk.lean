/-! Wrong entries, wrong inodes; check -/
def nmb (d : Nat → Int) (i : Nat) : Nat → Int
  | 0 => -1
  | j + 1 => bt d i (3 * j)
abbrev Wej (d : Nat → Int) (sl : Int) (bg : Nat → Int) (i j : Nat) : Prop := bt d i (3 * j) ≤ nmb d i j ∨ ¬ In sl bg (bt d i (3 * j + 1)) ∨ ¬ kn d (bt d i (3 * j + 1)).toNat = bt d i (3 * j + 2)
def wen (d : Nat → Int) (sl : Int) (bg : Nat → Int) (i : Nat) : Nat → Bool
  | 0 => false
  | n + 1 => wen d sl bg i n || decide (Wej d sl bg i n)
def wrg (d : Nat → Int) (sl us : Int) (bg : Nat → Int) (i : Nat) : Bool := decide (Bad d sl us i) || (if ly d i = 2 then bcl d i (rs d i 0).toNat else if kn d i = 0 then wen d sl bg i (sz d i / 3).toNat else false)
section C1
variable {d : Nat → Int} {M : Mm} {i : Nat} {sl us : Int} {bg : Nat → Int}
theorem wen_mono {j : Nat} : ∀ n, wen d sl bg i j = true → j ≤ n → wen d sl bg i n = true
  | 0, h, hj => by rw [show (0 : Nat) = j by omega]; exact h
  | n + 1, h, hj => by
    by_cases e : j = n + 1
    · rw [← e]; exact h
    · unfold wen; rw [wen_mono n h (by omega)]; rfl
theorem wen_vX (h : Ok d sl us bg) (hM : MX M d sl us bg) (hg : Go d sl us bg (i : Int)) (hk : kn d i = 0) : ∀ (k fu j : Nat), (j + k : Int) = sz d i / 3 → k < fu → wen d sl bg i j = false → fDe_hasWrongEntry_4 fu (i : Int) (nmb d i j) ((3 * j : Nat) : Int) M = some (if wen d sl bg i (j + k) = true then 1 else 0, M)
  | _, 0, _, _, hf, _ => absurd hf (Nat.not_lt_zero _)
  | 0, fu + 1, j, hj, _, hb => by
    obtain ⟨i', e1, e2, e3, e4⟩ := In.nat h hg.1
    have hi : i < 126 := by omega
    have s3 : sz d i % 3 = 0 := Classical.byContradiction (fun z => hg.2 (Or.inr (Or.inl ⟨hk, z⟩)))
    have qs := h.1.sz_ hi
    unfold fDe_hasWrongEntry_4
    rw [mcn_e (size_vX hM.1 hi), mlt_f ⟨by omega, by omega⟩ (rB qs) (by omega), Nat.add_zero, hb]
    rfl
  | k + 1, fu + 1, j, hj, hf, hb => by
    obtain ⟨i', e1, e2, e3, e4⟩ := In.nat h hg.1
    have hi : i < 126 := by omega
    have hl := hg.np (by omega)
    have qs := h.1.sz_ hi
    have b0 := bt_r h hg hl (k := 3 * j) (by omega)
    have b1 := bt_r h hg hl (k := 3 * j + 1) (by omega)
    have b2 := bt_r h hg hl (k := 3 * j + 2) (by omega)
    have bn : rI (nmb d i j) := by
      cases j with
      | zero => exact (show rI (-1) from ⟨by decide, by decide⟩)
      | succ j => exact rB (bt_r h hg hl (k := 3 * j) (by omega))
    have ew : wen d sl bg i (j + 1) = decide (Wej d sl bg i j) := by unfold wen; rw [hb]; rfl
    have yes : Wej d sl bg i j → wen d sl bg i (j + (k + 1)) = true := fun z => wen_mono (j := j + 1) _ (by rw [ew]; exact decide_eq_true z) (by omega)
    unfold fDe_hasWrongEntry_4
    rw [mcn_e (size_vX hM.1 hi), mlt_t ⟨by omega, by omega⟩ (rB qs) (by omega), mcn_e (data_vX h hM hg hl (k := 3 * j) (by omega) rfl), mcn_e (data_vX h hM hg hl (k := 3 * j + 1) (by omega) (by omega))]
    by_cases c1 : nmb d i j < bt d i (3 * j)
    · rw [mlt_t bn (rB b0) c1, mcn_e (isInode_vX h hM (rB b1))]
      by_cases c2 : In sl bg (bt d i (3 * j + 1))
      · obtain ⟨v, f1, f2, f3, f4⟩ := In.nat h c2
        have qk := h.1.kn_ f3
        rw [if_pos c2, meq_f ⟨by decide, by decide⟩ rI_0 (by decide), f1, mcn_e (kind_vX h.1 hM.1 f3), mcn_e (data_vX h hM hg hl (k := 3 * j + 2) (by omega) (by omega))]
        by_cases c3 : kn d v = bt d i (3 * j + 2)
        · rw [meq_t ⟨by omega, by omega⟩ (rB b2) c3, show ((3 * j : Nat) : Int) + 3 = ((3 * (j + 1) : Nat) : Int) by omega, show j + (k + 1) = j + 1 + k by omega]
          refine wen_vX h hM hg hk k fu (j + 1) (by omega) (by omega) ?_
          rw [ew]
          refine decide_eq_false ?_
          rintro (z | z | z)
          · omega
          · exact z c2
          · exact z (by rw [f2]; exact c3)
        · rw [meq_f ⟨by omega, by omega⟩ (rB b2) c3, if_pos (yes (Or.inr (Or.inr (by rw [f2]; exact c3))))]
      · rw [if_neg c2, meq_t rI_0 rI_0 rfl, if_pos (yes (Or.inr (Or.inl c2)))]
    · rw [mlt_f bn (rB b0) c1, if_pos (yes (Or.inl (by omega)))]
theorem wen_vR (h : Ok d sl us bg) (hM : MY M d sl us bg) (hg : Go d sl us bg (i : Int)) (hk : kn d i = 0) : ∀ (k fu j : Nat), (j + k : Int) = sz d i / 3 → k < fu → fR_isWrong_64 fu (i : Int) (if wen d sl bg i j = true then 1 else 0) (nmb d i j) ((3 * j : Nat) : Int) M = some (if wen d sl bg i (j + k) = true then 1 else 0, M)
  | _, 0, _, _, hf => absurd hf (Nat.not_lt_zero _)
  | 0, fu + 1, j, hj, _ => by
    obtain ⟨i', e1, e2, e3, e4⟩ := In.nat h hg.1
    have hi : i < 126 := by omega
    have s3 : sz d i % 3 = 0 := Classical.byContradiction (fun z => hg.2 (Or.inr (Or.inl ⟨hk, z⟩)))
    have qs := h.1.sz_ hi
    unfold fR_isWrong_64
    rw [mcn_e (tag_vR h.1 hM.1 hi (Or.inl rfl)), if_pos rfl, meq_t ⟨by omega, by omega⟩ rI_0 hk, mcn_e (size_vR hM.1 hi), mlt_f ⟨by omega, by omega⟩ (rB qs) (by omega), Nat.add_zero, mz_t (by split <;> omega)]
  | k + 1, fu + 1, j, hj, hf => by
    obtain ⟨i', e1, e2, e3, e4⟩ := In.nat h hg.1
    have hi : i < 126 := by omega
    have hl := hg.np (by omega)
    have qs := h.1.sz_ hi
    have b0 := bt_r h hg hl (k := 3 * j) (by omega)
    have b1 := bt_r h hg hl (k := 3 * j + 1) (by omega)
    have b2 := bt_r h hg hl (k := 3 * j + 2) (by omega)
    have bn : rI (nmb d i j) := by
      cases j with
      | zero => exact (show rI (-1) from ⟨by decide, by decide⟩)
      | succ j => exact rB (bt_r h hg hl (k := 3 * j) (by omega))
    have ew : wen d sl bg i (j + 1) = (wen d sl bg i j || decide (Wej d sl bg i j)) := rfl
    have ih := wen_vR h hM hg hk k fu (j + 1) (by omega) (by omega)
    have e137 : wen d sl bg i (j + 1) = true → fR_isWrong_137 (fR_isWrong_64 fu) (i : Int) ((3 * j : Nat) : Int) M = some (if wen d sl bg i (j + (k + 1)) = true then 1 else 0, M) := fun z => by
      unfold fR_isWrong_137 fR_isWrong_142
      rw [if_pos z] at ih
      rw [mcn_e (byte_vR h hM hg hl (k := 3 * j) (by omega) rfl), show ((3 * j : Nat) : Int) + 3 = ((3 * (j + 1) : Nat) : Int) by omega, show j + (k + 1) = j + 1 + k by omega]
      exact ih
    have e142 : wen d sl bg i (j + 1) = false → fR_isWrong_142 (fR_isWrong_64 fu) (i : Int) ((3 * j : Nat) : Int) 0 M = some (if wen d sl bg i (j + (k + 1)) = true then 1 else 0, M) := fun z => by
      unfold fR_isWrong_142
      rw [if_neg (by rw [z]; decide)] at ih
      rw [mcn_e (byte_vR h hM hg hl (k := 3 * j) (by omega) rfl), show ((3 * j : Nat) : Int) + 3 = ((3 * (j + 1) : Nat) : Int) by omega, show j + (k + 1) = j + 1 + k by omega]
      exact ih
    rw [fR_isWrong_64]
    rw [mcn_e (tag_vR h.1 hM.1 hi (Or.inl rfl)), if_pos rfl, meq_t ⟨by omega, by omega⟩ rI_0 hk, mcn_e (size_vR hM.1 hi), mlt_t ⟨by omega, by omega⟩ (rB qs) (by omega), mcn_e (byte_vR h hM hg hl (k := 3 * j + 1) (by omega) (by omega))]
    by_cases c0 : wen d sl bg i j = true
    · rw [if_pos c0, meq_f ⟨by decide, by decide⟩ rI_0 (by decide), e137 (by rw [ew, c0]; rfl)]
    · have c0' : wen d sl bg i j = false := by simpa using c0
      have yes : Wej d sl bg i j → wen d sl bg i (j + 1) = true := fun z => by rw [ew, c0', Bool.false_or]; exact decide_eq_true z
      rw [if_neg c0, meq_t rI_0 rI_0 rfl, mcn_e (byte_vR h hM hg hl (k := 3 * j) (by omega) rfl)]
      by_cases c1 : nmb d i j < bt d i (3 * j)
      · rw [mlt_t bn (rB b0) c1, mcn_e (isInode_vR h hM (rB b1))]
        by_cases c2 : In sl bg (bt d i (3 * j + 1))
        · obtain ⟨v, f1, f2, f3, f4⟩ := In.nat h c2
          have qk := h.1.kn_ f3
          rw [if_pos c2, meq_f ⟨by decide, by decide⟩ rI_0 (by decide), f1, mcn_e (tag_vR h.1 hM.1 f3 (Or.inl rfl)), if_pos rfl, mcn_e (byte_vR h hM hg hl (k := 3 * j + 2) (by omega) (by omega))]
          by_cases c3 : kn d v = bt d i (3 * j + 2)
          · rw [meq_t ⟨by omega, by omega⟩ (rB b2) c3, e142]
            rw [ew, c0']
            refine decide_eq_false ?_
            rintro (z | z | z)
            · omega
            · exact z c2
            · exact z (by rw [f2]; exact c3)
          · rw [meq_f ⟨by omega, by omega⟩ (rB b2) c3, e137 (yes (Or.inr (Or.inr (by rw [f2]; exact c3))))]
        · rw [if_neg c2, meq_t rI_0 rI_0 rfl, e137 (yes (Or.inr (Or.inl c2)))]
      · rw [mlt_f bn (rB b0) c1, e137 (yes (Or.inl (by omega)))]
theorem wrong_vX (h : Ok d sl us bg) (hM : MX M d sl us bg) (hi : In sl bg (i : Int)) : ∃ M', fX_isWrong (i : Int) M = some (if wrg d sl us bg i = true then 1 else 0, M') ∧ FrX M M' := by
  obtain ⟨j, e1, e2, e3, e4⟩ := In.nat h hi
  have e5 : j = i := by omega
  subst e5
  have ql := h.1.ly_ e3
  have qk := h.1.kn_ e3
  unfold fX_isWrong wrg
  rw [mcn_e (badX h hM hi), e2]
  by_cases bb : Bad d sl us j
  · rw [if_pos bb, meq_f ⟨by decide, by decide⟩ rI_0 (by decide), decide_eq_true bb, Bool.true_or, if_pos rfl]
    exact ⟨M, rfl, fun _ _ _ => rfl⟩
  · have hg : Go d sl us bg (j : Int) := ⟨hi, bb⟩
    rw [if_neg bb, meq_t rI_0 rI_0 rfl, decide_eq_false bb, Bool.false_or, mcn_e (lay_vX h.1 hM.1 e3)]
    by_cases l2 : ly d j = 2
    · obtain ⟨p1, p2, p3, p4, p5⟩ := packed h hg l2
      have p21 := p2.1
      have p22 := p2.2.1
      obtain ⟨M', f1, f2⟩ := bcl_vX h hg l2 (rs d j 0).toNat FU 0 M hM (by omega) (by unfold FU; omega) rfl
      rw [meq_t ⟨by omega, by omega⟩ ⟨by decide, by decide⟩ l2, if_pos l2]
      unfold fX_hasBadCluster
      rw [show ((0 : Nat) : Int) = 0 from rfl] at f1
      rw [mcn_e f1, mz_t (by split <;> omega)]
      exact ⟨M', rfl, f2⟩
    · rw [meq_f ⟨by omega, by omega⟩ ⟨by decide, by decide⟩ l2, if_neg l2, mcn_e (kind_vX h.1 hM.1 e3)]
      by_cases k0 : kn d j = 0
      · have qs := h.1.sz_ e3
        have f1 := wen_vX h hM hg k0 (sz d j / 3).toNat FU 0 (by omega) (by unfold FU; omega) rfl
        rw [meq_t ⟨by omega, by omega⟩ rI_0 k0, if_pos k0]
        unfold fDe_hasWrongEntry
        rw [Nat.zero_add] at f1
        rw [mcn_e (show fDe_hasWrongEntry_4 FU (j : Int) (-1) 0 M = _ from f1)]
        refine ⟨M, ?_, fun _ _ _ => rfl⟩
        by_cases we : wen d sl bg j (sz d j / 3).toNat = true
        · rw [if_pos we, meq_f ⟨by decide, by decide⟩ rI_0 (by decide)]
        · rw [if_neg we, meq_t rI_0 rI_0 rfl]
      · rw [meq_f ⟨by omega, by omega⟩ rI_0 k0, if_neg k0]
        exact ⟨M, rfl, fun _ _ _ => rfl⟩
theorem wrong_vR (h : Ok d sl us bg) (hM : MY M d sl us bg) (hi : In sl bg (i : Int)) : ∃ M', fR_isWrong (i : Int) M = some (if wrg d sl us bg i = true then 1 else 0, M') ∧ FrR M M' := by
  obtain ⟨j, e1, e2, e3, e4⟩ := In.nat h hi
  have e5 : j = i := by omega
  subst e5
  have ql := h.1.ly_ e3
  have qk := h.1.kn_ e3
  unfold fR_isWrong wrg
  rw [mcn_e (badR h hM hi), e2]
  by_cases bb : Bad d sl us j
  · rw [if_pos bb, meq_f ⟨by decide, by decide⟩ rI_0 (by decide), decide_eq_true bb, Bool.true_or, if_pos rfl]
    exact ⟨M, rfl, fun _ _ => rfl⟩
  · have hg : Go d sl us bg (j : Int) := ⟨hi, bb⟩
    rw [if_neg bb, meq_t rI_0 rI_0 rfl, decide_eq_false bb, Bool.false_or]
    have e64 : ∀ (z : Int) (M' : Mm), MY M' d sl us bg → z = 0 ∨ z = 1 → ¬ kn d j = 0 → fR_isWrong_64 FU (j : Int) z (-1) 0 M' = some (z, M') := fun z M' hM' hz hk => by
      rw [show FU = 1999 + 1 from rfl, fR_isWrong_64]
      rw [mcn_e (tag_vR h.1 hM'.1 e3 (Or.inl rfl)), if_pos rfl, meq_f ⟨by omega, by omega⟩ rI_0 hk, mz_t (by omega)]
    by_cases l2 : ly d j = 2
    · obtain ⟨p1, p2, p3, p4, p5⟩ := packed h hg l2
      have p21 := p2.1
      have p22 := p2.2.1
      obtain ⟨M', f1, f2⟩ := bcl_vR h hg l2 (rs d j 0).toNat FU 0 M hM (by omega) (by unfold FU; omega)
      rw [if_neg (show ¬ bcl d j 0 = true by unfold bcl; decide), show ((0 : Nat) : Int) = 0 from rfl] at f1
      have k1 : ¬ kn d j = 0 := fun z => hg.2 (Or.inr (Or.inr (Or.inr (Or.inr (Or.inl ⟨l2, Or.inl (by omega)⟩)))))
      rw [f1, if_pos l2, e64 _ _ (f2.my hM) (by split <;> omega) k1]
      exact ⟨M', rfl, f2⟩
    · rw [if_neg l2, show FU = 1999 + 1 from rfl, fR_isWrong_14]
      rw [mcn_e (tag_vR h.1 hM.1 e3 (Or.inr rfl)), if_neg (by decide), meq_f ⟨by omega, by omega⟩ ⟨by decide, by decide⟩ l2]
      refine ⟨M, ?_, fun _ _ => rfl⟩
      by_cases k0 : kn d j = 0
      · have qs := h.1.sz_ e3
        have f1 := wen_vR h hM hg k0 (sz d j / 3).toNat FU 0 (by omega) (by unfold FU; omega)
        rw [if_neg (show ¬ wen d sl bg j 0 = true by unfold wen; decide), Nat.zero_add] at f1
        rw [if_pos k0]
        exact f1
      · rw [if_neg k0, e64 _ _ hM (Or.inl rfl) k0]
        rfl
end C1
