/-! isBad on both sides -/
section D3
variable {d : Nat → Int} {M : Mm} {i : Nat} {sl us : Int}
theorem bad_vX (hM : M 17 = d) (h : Db d) (hi : i < 126) (hlg : lg d i = 1 → i < 125) (hs : M 16 3 = sl) (hu : M 16 4 = us) (hsl : 0 ≤ sl ∧ sl ≤ 126) (hus : 0 ≤ us ∧ us ≤ 64) : fDe_isBad (i : Int) M = some (if Bad d sl us i then 1 else 0, M) := by
  have qk := h.kn_ hi
  have ql := h.ly_ hi
  have qg := h.lg_ hi
  have qs := h.sz_ hi
  have its := its_vX (i := i) hM h hi hs hu hsl hus
  have r1 : rI 1 := ⟨by decide, by decide⟩
  have e84 : ∀ z0 z1 : Int, rI z0 → rI z1 → fDe_isBad_84 (i : Int) z0 z1 M = some (if z1 < z0 ∨ ¬ Bk d sl us i then 1 else 0, M) := fun z0 z1 h0 h1 => by
    unfold fDe_isBad_84
    by_cases e : z1 < z0
    · rw [mlt_t h1 h0 e, if_pos (Or.inl e)]
    · rw [mlt_f h1 h0 e, mcn_e its]
      by_cases eb : Bk d sl us i
      · rw [if_pos eb, meq_f r1 rI_0 (by decide), if_neg (fun z => z.elim e (fun w => w eb))]
      · rw [if_neg eb, meq_t rI_0 rI_0 rfl, if_pos (Or.inr eb)]
  have e27 : ¬ kn d i = 3 → ¬ (kn d i = 0 ∧ ¬ sz d i % 3 = 0) → fDe_isBad_27 (i : Int) (kn d i) M = some (if Bad d sl us i then 1 else 0, M) := fun n1 n2 => by
    unfold fDe_isBad_27
    rw [mcn_e (lay_vX h hM hi)]
    by_cases l1 : ly d i = 1
    · have hB : Bad d sl us i ↔ ((if lg d i = 0 then 4 else 12) < sz d i % 16 ∨ ¬ Bk d sl us i) := by
        constructor
        · rintro (z | z | z | z | z | z)
          · exact absurd z n1
          · exact absurd z n2
          · omega
          · exact Or.inl z.2
          · omega
          · exact Or.inr z
        · rintro (z | z)
          · exact Or.inr (Or.inr (Or.inr (Or.inl ⟨l1, z⟩)))
          · exact Or.inr (Or.inr (Or.inr (Or.inr (Or.inr z))))
      rw [meq_t ⟨by omega, by omega⟩ r1 l1, mcn_e (size_vX hM hi), mrem_t ⟨by omega, by omega, by omega, by omega⟩, mcn_e (isLong_vX h hM hi)]
      by_cases g0 : lg d i = 0
      · rw [if_pos g0] at hB
        rw [meq_t ⟨by omega, by omega⟩ rI_0 g0, e84 _ _ ⟨by omega, by omega⟩ ⟨by decide, by decide⟩]
        by_cases hz : Bad d sl us i
        · rw [if_pos hz, if_pos (hB.mp hz)]
        · rw [if_neg hz, if_neg (fun z => hz (hB.mpr z))]
      · rw [if_neg g0] at hB
        rw [meq_f ⟨by omega, by omega⟩ rI_0 g0, e84 _ _ ⟨by omega, by omega⟩ ⟨by decide, by decide⟩]
        by_cases hz : Bad d sl us i
        · rw [if_pos hz, if_pos (hB.mp hz)]
        · rw [if_neg hz, if_neg (fun z => hz (hB.mpr z))]
    · rw [meq_f ⟨by omega, by omega⟩ r1 l1]
      by_cases l2 : ly d i = 2
      · rw [meq_t ⟨by omega, by omega⟩ ⟨by decide, by decide⟩ l2]
        by_cases k1 : kn d i = 1
        · rw [meq_t ⟨by omega, by omega⟩ r1 k1, mcn_e (isLong_vX h hM hi)]
          by_cases g0 : lg d i = 0
          · rw [meq_t ⟨by omega, by omega⟩ rI_0 g0, if_pos (Or.inr (Or.inr (Or.inr (Or.inr (Or.inl ⟨l2, Or.inr (Or.inl g0)⟩)))))]
          · rw [meq_f ⟨by omega, by omega⟩ rI_0 g0, mcn_e (ends_vX hM h (hlg (by omega)))]
            by_cases en : Ends d i
            · rw [if_pos en, meq_f r1 rI_0 (by decide), mcn_e its]
              by_cases eb : Bk d sl us i
              · rw [if_pos eb, meq_f r1 rI_0 (by decide), if_neg]
                rintro (z | z | z | z | z | z)
                · exact n1 z
                · exact n2 z
                · omega
                · omega
                · exact z.2.elim (fun w => w k1) (fun w => w.elim g0 (fun w => w en))
                · exact z eb
              · rw [if_neg eb, meq_t rI_0 rI_0 rfl, if_pos (Or.inr (Or.inr (Or.inr (Or.inr (Or.inr eb)))))]
            · rw [if_neg en, meq_t rI_0 rI_0 rfl, if_pos (Or.inr (Or.inr (Or.inr (Or.inr (Or.inl ⟨l2, Or.inr (Or.inr en)⟩)))))]
        · rw [meq_f ⟨by omega, by omega⟩ r1 k1, if_pos (Or.inr (Or.inr (Or.inr (Or.inr (Or.inl ⟨l2, Or.inl k1⟩)))))]
      · rw [meq_f ⟨by omega, by omega⟩ ⟨by decide, by decide⟩ l2]
        by_cases l3 : ly d i = 3
        · rw [meq_t ⟨by omega, by omega⟩ ⟨by decide, by decide⟩ l3, if_pos (Or.inr (Or.inr (Or.inl l3)))]
        · rw [meq_f ⟨by omega, by omega⟩ ⟨by decide, by decide⟩ l3, mcn_e its]
          by_cases eb : Bk d sl us i
          · rw [if_pos eb, meq_f r1 rI_0 (by decide), if_neg]
            rintro (z | z | z | z | z | z)
            · exact n1 z
            · exact n2 z
            · exact l3 z
            · exact l1 z.1
            · exact l2 z.1
            · exact z eb
          · rw [if_neg eb, meq_t rI_0 rI_0 rfl, if_pos (Or.inr (Or.inr (Or.inr (Or.inr (Or.inr eb)))))]
  unfold fDe_isBad
  rw [mcn_e (kind_vX h hM hi)]
  by_cases k3 : kn d i = 3
  · rw [meq_t ⟨by omega, by omega⟩ ⟨by decide, by decide⟩ k3, if_pos (Or.inl k3)]
  · rw [meq_f ⟨by omega, by omega⟩ ⟨by decide, by decide⟩ k3]
    by_cases k0 : kn d i = 0
    · rw [meq_t ⟨by omega, by omega⟩ rI_0 k0, mcn_e (size_vX hM hi), mrem_t ⟨by omega, by omega, by omega, by omega⟩]
      by_cases s3 : sz d i % 3 = 0
      · rw [meq_t ⟨by omega, by omega⟩ rI_0 s3, e27 k3 (fun z => z.2 s3)]
      · rw [meq_f ⟨by omega, by omega⟩ rI_0 s3, if_pos (Or.inr (Or.inl ⟨k0, s3⟩))]
    · rw [meq_f ⟨by omega, by omega⟩ rI_0 k0, e27 k3 (fun z => k0 z.1)]
theorem bad_vR (hM : M 13 = d) (h : Db d) (hi : i < 126) (hlg : lg d i = 1 → i < 125) (hs : M 0 18 = sl) (hu : M 0 19 = us) (hsl : 0 ≤ sl ∧ sl ≤ 126) (hus : 0 ≤ us ∧ us ≤ 64) : fR_isBad (i : Int) M = some (if Bad d sl us i then 1 else 0, M) := by
  have qk := h.kn_ hi
  have ql := h.ly_ hi
  have qg := h.lg_ hi
  have qs := h.sz_ hi
  have r1 : rI 1 := ⟨by decide, by decide⟩
  have e119 : fR_isBad_119 (i : Int) (ly d i) M = some (if Bk d sl us i then 0 else 1, M) := by
    unfold fR_isBad_119
    by_cases l2 : ly d i = 2
    · rw [meq_t ⟨by omega, by omega⟩ ⟨by decide, by decide⟩ l2, mcn_e (rest_vR (k := 0) (y := 0) hM (by omega) rfl), its_vR hM h hi hs hu hsl hus (by unfold bl; rw [if_neg (by omega), if_pos l2])]
    · rw [meq_f ⟨by omega, by omega⟩ ⟨by decide, by decide⟩ l2]
      by_cases l1 : ly d i = 1
      · rw [meq_t ⟨by omega, by omega⟩ r1 l1, mcn_e (size_vR hM hi), mdiv_t ⟨by omega, by omega, by omega, by omega⟩, its_vR hM h hi hs hu hsl hus (by unfold bl; rw [if_pos l1])]
      · rw [meq_f ⟨by omega, by omega⟩ r1 l1, mcn_e (size_vR hM hi), mcn_e (blocksFor_vR ⟨by omega, by omega⟩), its_vR hM h hi hs hu hsl hus (by unfold bl; rw [if_neg l1, if_neg l2])]
  have e94 : ∀ y4 : Int, y4 = lg d i → ¬ kn d i = 3 → ¬ (kn d i = 0 ∧ ¬ sz d i % 3 = 0) → ¬ ly d i = 3 → ¬ (ly d i = 1 ∧ (if lg d i = 0 then 4 else 12) < sz d i % 16) → fR_isBad_94 (i : Int) (kn d i) (ly d i) y4 M = some (if Bad d sl us i then 1 else 0, M) := fun y4 hy n1 n2 n3 n4 => by
    subst hy
    have fin : ∀ n5 : ¬ (ly d i = 2 ∧ (¬ kn d i = 1 ∨ lg d i = 0 ∨ ¬ Ends d i)), some (if Bk d sl us i then (0 : Int) else 1, M) = some (if Bad d sl us i then 1 else 0, M) := fun n5 => by
      by_cases eb : Bk d sl us i
      · rw [if_pos eb, if_neg]
        rintro (z | z | z | z | z | z)
        · exact n1 z
        · exact n2 z
        · exact n3 z
        · exact n4 z
        · exact n5 z
        · exact z eb
      · rw [if_neg eb, if_pos (Or.inr (Or.inr (Or.inr (Or.inr (Or.inr eb)))))]
    unfold fR_isBad_94
    by_cases l2 : ly d i = 2
    · rw [meq_t ⟨by omega, by omega⟩ ⟨by decide, by decide⟩ l2]
      by_cases g0 : lg d i = 0
      · rw [meq_t ⟨by omega, by omega⟩ rI_0 g0, if_pos (Or.inr (Or.inr (Or.inr (Or.inr (Or.inl ⟨l2, Or.inr (Or.inl g0)⟩)))))]
      · rw [meq_f ⟨by omega, by omega⟩ rI_0 g0]
        by_cases k1 : kn d i = 1
        · rw [meq_t ⟨by omega, by omega⟩ r1 k1, mcn_e (ends_vR hM h (hlg (by omega)))]
          by_cases en : Ends d i
          · rw [if_pos en, meq_t rI_0 rI_0 rfl, e119]
            exact fin (fun z => z.2.elim (fun w => w k1) (fun w => w.elim g0 (fun w => w en)))
          · rw [if_neg en, meq_f r1 rI_0 (by decide), if_pos (Or.inr (Or.inr (Or.inr (Or.inr (Or.inl ⟨l2, Or.inr (Or.inr en)⟩)))))]
        · rw [meq_f ⟨by omega, by omega⟩ r1 k1, if_pos (Or.inr (Or.inr (Or.inr (Or.inr (Or.inl ⟨l2, Or.inl k1⟩)))))]
    · rw [meq_f ⟨by omega, by omega⟩ ⟨by decide, by decide⟩ l2, e119]
      exact fin (fun z => l2 z.1)
  have e65 : ¬ kn d i = 3 → ¬ (kn d i = 0 ∧ ¬ sz d i % 3 = 0) → ¬ ly d i = 3 → fR_isBad_65 (i : Int) (kn d i) (ly d i) (lg d i) M = some (if Bad d sl us i then 1 else 0, M) := fun n1 n2 n3 => by
    unfold fR_isBad_65 fR_isBad_89
    by_cases l1 : ly d i = 1
    · rw [meq_t ⟨by omega, by omega⟩ r1 l1, mcn_e (size_vR hM hi), mrem_t ⟨by omega, by omega, by omega, by omega⟩]
      by_cases g0 : lg d i = 0
      · rw [meq_t ⟨by omega, by omega⟩ rI_0 g0]
        by_cases b4 : 4 < sz d i % 16
        · rw [mlt_t ⟨by decide, by decide⟩ ⟨by omega, by omega⟩ b4, if_pos (Or.inr (Or.inr (Or.inr (Or.inl ⟨l1, by rw [if_pos g0]; exact b4⟩))))]
        · rw [mlt_f ⟨by decide, by decide⟩ ⟨by omega, by omega⟩ b4, e94 _ rfl n1 n2 n3 (fun z => b4 (by rw [if_pos g0] at z; exact z.2))]
      · rw [meq_f ⟨by omega, by omega⟩ rI_0 g0]
        by_cases b4 : 12 < sz d i % 16
        · rw [mlt_t ⟨by decide, by decide⟩ ⟨by omega, by omega⟩ b4, if_pos (Or.inr (Or.inr (Or.inr (Or.inl ⟨l1, by rw [if_neg g0]; exact b4⟩))))]
        · rw [mlt_f ⟨by decide, by decide⟩ ⟨by omega, by omega⟩ b4, e94 _ rfl n1 n2 n3 (fun z => b4 (by rw [if_neg g0] at z; exact z.2))]
    · rw [meq_f ⟨by omega, by omega⟩ r1 l1, e94 _ rfl n1 n2 n3 (fun z => l1 z.1)]
  have e37 : ∀ g : Int, g = lg d i → fR_isBad_37 (i : Int) (kn d i) (ly d i) g M = some (if Bad d sl us i then 1 else 0, M) := fun g hg => by
    subst hg
    unfold fR_isBad_37
    by_cases k3 : kn d i = 3
    · rw [meq_t ⟨by omega, by omega⟩ ⟨by decide, by decide⟩ k3, if_pos (Or.inl k3)]
    · rw [meq_f ⟨by omega, by omega⟩ ⟨by decide, by decide⟩ k3]
      by_cases l3 : ly d i = 3
      · rw [meq_t ⟨by omega, by omega⟩ ⟨by decide, by decide⟩ l3, if_pos (Or.inr (Or.inr (Or.inl l3)))]
      · rw [meq_f ⟨by omega, by omega⟩ ⟨by decide, by decide⟩ l3]
        by_cases k0 : kn d i = 0
        · rw [meq_t ⟨by omega, by omega⟩ rI_0 k0, mcn_e (size_vR hM hi), mrem_t ⟨by omega, by omega, by omega, by omega⟩]
          by_cases s3 : sz d i % 3 = 0
          · rw [mlt_f rI_0 ⟨by omega, by omega⟩ (by omega), e65 k3 (fun z => z.2 s3) l3]
          · rw [mlt_t rI_0 ⟨by omega, by omega⟩ (by omega), if_pos (Or.inr (Or.inl ⟨k0, s3⟩))]
        · rw [meq_f ⟨by omega, by omega⟩ rI_0 k0, e65 k3 (fun z => k0 z.1) l3]
  have hb := h (16 + 8 * i) (by omega)
  unfold fR_isBad
  rw [mcn_e (tag_vR h hM hi (Or.inl rfl)), if_pos rfl, mcn_e (tag_vR h hM hi (Or.inr rfl)), if_neg (by decide), mrd_t ⟨by omega, by omega⟩, hM, show (16 + 8 * (i : Int)).toNat = 16 + 8 * i by omega, mrem_t ⟨by omega, by omega, by omega, by omega⟩, show d (16 + 8 * i) % 2 = lg d i from rfl]
  by_cases g1 : lg d i = 1
  · rw [meq_t ⟨by omega, by omega⟩ r1 g1, e37 1 g1.symm]
  · rw [meq_f ⟨by omega, by omega⟩ r1 g1, e37 0 (by omega)]
end D3
