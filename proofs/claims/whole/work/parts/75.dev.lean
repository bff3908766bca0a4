/-! Inodes of a mounted device, their data -/
def MX (M : Mm) (d : Nat → Int) (sl us : Int) (bg : Nat → Int) : Prop := M 17 = d ∧ M 16 3 = sl ∧ M 16 4 = us ∧ ∀ i, i < 126 → M 18 i = bg i
def MY (M : Mm) (d : Nat → Int) (sl us : Int) (bg : Nat → Int) : Prop := M 13 = d ∧ M 0 18 = sl ∧ M 0 19 = us ∧ ∀ i, i < 126 → M 14 i = bg i
def Ok (d : Nat → Int) (sl us : Int) (bg : Nat → Int) : Prop := Db d ∧ (1 ≤ sl ∧ sl ≤ 126) ∧ (us ≤ 64 ∧ 1 + (sl + 1) / 2 ≤ us) ∧ ∀ i : Nat, i < 126 → bg i = 0 ∨ (bg i = 1 ∧ (i : Int) + 1 + lg d i ≤ sl)
abbrev In (sl : Int) (bg : Nat → Int) (x : Int) : Prop := 0 ≤ x ∧ x < sl ∧ bg x.toNat = 1
abbrev Go (d : Nat → Int) (sl us : Int) (bg : Nat → Int) (x : Int) : Prop := In sl bg x ∧ ¬ Bad d sl us x.toNat
section D4
variable {d : Nat → Int} {M : Mm} {i : Nat} {sl us : Int} {bg : Nat → Int}
theorem In.nat (h : Ok d sl us bg) {x : Int} (hx : In sl bg x) : ∃ i : Nat, x = (i : Int) ∧ x.toNat = i ∧ i < 126 ∧ (lg d i = 1 → i < 125) := by
  obtain ⟨h1, h2, h3, h4⟩ := h
  have := h4 x.toNat (by omega)
  refine ⟨x.toNat, by omega, rfl, by omega, fun z => by omega⟩
theorem isInode_vX (h : Ok d sl us bg) (hM : MX M d sl us bg) {x : Int} (hx : rI x) : fDe_isInode x M = some (if In sl bg x then 1 else 0, M) := by
  obtain ⟨h1, h2, h3, h4⟩ := h
  obtain ⟨m1, m2, m3, m4⟩ := hM
  unfold fDe_isInode
  by_cases a : x < 0
  · rw [mlt_t hx rI_0 a, if_neg (by omega)]
  · rw [mlt_f hx rI_0 a, m2]
    by_cases b : x < sl
    · have q := h4 x.toNat (by omega)
      rw [mlt_t hx ⟨by omega, by omega⟩ b, mlt_t hx ⟨by decide, by decide⟩ (by omega), mrd_t ⟨by omega, by omega⟩, m4 _ (by omega)]
      by_cases c : bg x.toNat = 0
      · rw [meq_t ⟨by omega, by omega⟩ rI_0 c, if_neg (by omega)]
      · rw [meq_f ⟨by omega, by omega⟩ rI_0 c, if_pos (by omega)]
    · rw [mlt_f hx ⟨by omega, by omega⟩ b, if_neg (by omega)]
theorem isInode_vR (h : Ok d sl us bg) (hM : MY M d sl us bg) {x : Int} (hx : rI x) : fR_isInode x M = some (if In sl bg x then 1 else 0, M) := by
  obtain ⟨h1, h2, h3, h4⟩ := h
  obtain ⟨m1, m2, m3, m4⟩ := hM
  unfold fR_isInode
  by_cases a : x < 0
  · rw [mlt_t hx rI_0 a, if_neg (by omega)]
  · rw [mlt_f hx rI_0 a, m2]
    by_cases b : x < sl
    · have q := h4 x.toNat (by omega)
      rw [mlt_t hx ⟨by omega, by omega⟩ b, mrd_t ⟨by omega, by omega⟩, m4 _ (by omega)]
      by_cases c : bg x.toNat = 0
      · rw [meq_t ⟨by omega, by omega⟩ rI_0 c, if_neg (by omega)]
      · rw [meq_f ⟨by omega, by omega⟩ rI_0 c, if_pos (by omega)]
    · rw [mlt_f hx ⟨by omega, by omega⟩ b, if_neg (by omega)]
theorem badX (h : Ok d sl us bg) (hM : MX M d sl us bg) {x : Int} (hx : In sl bg x) : fDe_isBad x M = some (if Bad d sl us x.toNat then 1 else 0, M) := by
  obtain ⟨i, e1, e2, e3, e4⟩ := In.nat h hx
  obtain ⟨h1, h2, h3, h4⟩ := h
  rw [e2, e1]
  exact bad_vX hM.1 h1 e3 e4 hM.2.1 hM.2.2.1 ⟨by omega, by omega⟩ ⟨by omega, by omega⟩
theorem badR (h : Ok d sl us bg) (hM : MY M d sl us bg) {x : Int} (hx : In sl bg x) : fR_isBad x M = some (if Bad d sl us x.toNat then 1 else 0, M) := by
  obtain ⟨i, e1, e2, e3, e4⟩ := In.nat h hx
  obtain ⟨h1, h2, h3, h4⟩ := h
  rw [e2, e1]
  exact bad_vR hM.1 h1 e3 e4 hM.2.1 hM.2.2.1 ⟨by omega, by omega⟩ ⟨by omega, by omega⟩
theorem good_vX (h : Ok d sl us bg) (hM : MX M d sl us bg) {x : Int} (hx : rI x) : fX_demandGood x M = some (if Go d sl us bg x then 0 else 2, 0, M) := by
  unfold fX_demandGood
  rw [mcn_e (isInode_vX h hM hx)]
  by_cases a : In sl bg x
  · rw [if_pos a, meq_f ⟨by decide, by decide⟩ rI_0 (by decide), mcn_e (badX h hM a)]
    by_cases b : Bad d sl us x.toNat
    · rw [if_pos b, meq_f ⟨by decide, by decide⟩ rI_0 (by decide), if_neg (fun z => z.2 b)]
    · rw [if_neg b, meq_t rI_0 rI_0 rfl, if_pos ⟨a, b⟩]
  · rw [if_neg a, meq_t rI_0 rI_0 rfl, if_neg (fun z => a z.1)]
theorem sound_vR (h : Ok d sl us bg) (hM : MY M d sl us bg) {x : Int} (hx : rI x) : fR_isSound x M = some (if Go d sl us bg x then 1 else 0, M) := by
  unfold fR_isSound
  rw [mcn_e (isInode_vR h hM hx)]
  by_cases a : In sl bg x
  · rw [if_pos a, meq_f ⟨by decide, by decide⟩ rI_0 (by decide), mcn_e (badR h hM a)]
    by_cases b : Bad d sl us x.toNat
    · rw [if_pos b, meq_f ⟨by decide, by decide⟩ rI_0 (by decide), if_neg (fun z => z.2 b)]
    · rw [if_neg b, meq_t rI_0 rI_0 rfl, if_pos ⟨a, b⟩]
  · rw [if_neg a, meq_t rI_0 rI_0 rfl, if_neg (fun z => a z.1)]
/-- a byte of the data of a good inode that is not packed -/
def bt (d : Nat → Int) (i k : Nat) : Int := if ly d i = 1 ∧ sz d i / 16 * 16 ≤ (k : Int) then rs d i (k % 16) else d (16 * (fb d i).toNat + k)
/-- where it lies -/
theorem bt_at (h : Ok d sl us bg) (hg : Go d sl us bg (i : Int)) (hl : ¬ ly d i = 2) {k : Nat} (hk : (k : Int) < sz d i) : (ly d i = 1 ∧ sz d i / 16 * 16 ≤ (k : Int) → 16 + 8 * i + 4 + k % 16 < 1024) ∧ (¬ (ly d i = 1 ∧ sz d i / 16 * 16 ≤ (k : Int)) → 16 * (fb d i).toNat + k < 1024 ∧ (k : Int) < bl d i * 16) := by
  obtain ⟨j, e1, e2, e3, e4⟩ := In.nat h hg.1
  have e5 : j = i := by omega
  subst e5
  have hb : ¬ Bad d sl us j := hg.2
  have h1 := h.1
  have h2 := h.2.1
  have h3 := h.2.2.1
  have q1 := h1.sz_ e3
  have q2 := h1.fb_ e3
  have q3 := h1.lg_ e3
  have hk : Bk d sl us j := Classical.byContradiction (fun z => hb (Or.inr (Or.inr (Or.inr (Or.inr (Or.inr z))))))
  refine ⟨fun z => ?_, fun z => ?_⟩
  · have h4 : ¬ (if lg d j = 0 then 4 else 12) < sz d j % 16 := fun w => hb (Or.inr (Or.inr (Or.inr (Or.inl ⟨z.1, w⟩))))
    by_cases g0 : lg d j = 0
    · rw [if_pos g0] at h4; omega
    · rw [if_neg g0] at h4
      have := e4 (by omega)
      omega
  · have eb : bl d j = if ly d j = 1 then sz d j / 16 else (sz d j + 15) / 16 := by unfold bl; by_cases l1 : ly d j = 1 <;> simp [l1, hl]
    by_cases l1 : ly d j = 1
    · rw [if_pos l1] at eb
      have : ¬ sz d j / 16 * 16 ≤ (k : Int) := fun w => z ⟨l1, w⟩
      rcases hk with hk | hk <;> omega
    · rw [if_neg l1] at eb
      rcases hk with hk | hk <;> omega
theorem bt_r (h : Ok d sl us bg) (hg : Go d sl us bg (i : Int)) (hl : ¬ ly d i = 2) {k : Nat} (hk : (k : Int) < sz d i) : 0 ≤ bt d i k ∧ bt d i k ≤ 255 := by
  obtain ⟨a, b⟩ := bt_at h hg hl hk
  unfold bt
  by_cases z : ly d i = 1 ∧ sz d i / 16 * 16 ≤ (k : Int)
  · rw [if_pos z]; exact h.1 _ (a z)
  · rw [if_neg z]; exact h.1 _ (b z).1
theorem data_vX (h : Ok d sl us bg) (hM : MX M d sl us bg) (hg : Go d sl us bg (i : Int)) (hl : ¬ ly d i = 2) {k : Nat} (hk : (k : Int) < sz d i) {y : Int} (hy : y = (k : Int)) : fDe_dataAt (i : Int) y M = some (bt d i k, M) := by
  subst hy
  obtain ⟨a, b⟩ := bt_at h hg hl hk
  obtain ⟨j, e1, e2, e3, e4⟩ := In.nat h hg.1
  have e5 : j = i := by omega
  subst e5
  have q1 := h.1.sz_ e3
  have q2 := h.1.fb_ e3
  have q4 := h.1.bl_ e3
  unfold fDe_dataAt bt
  rw [mcn_e (blocks_vX h.1 hM.1 e3)]
  by_cases z : ly d j = 1 ∧ sz d j / 16 * 16 ≤ (k : Int)
  · have eb : bl d j = sz d j / 16 := by unfold bl; rw [if_pos z.1]
    have a' := a z
    rw [if_pos z, eb, mlt_f ⟨by omega, by omega⟩ ⟨by omega, by omega⟩ (by omega), mcn_e (slotB (x := (j : Int)) (k' := 4 + (k : Int) - sz d j / 16 * 16) (k := 4 + k % 16) hM.1 (by omega) rfl (by omega))]
    unfold rs
    rw [show 16 + 8 * j + (4 + k % 16) = 16 + 8 * j + 4 + k % 16 by omega]
  · obtain ⟨b1, b2⟩ := b z
    rw [if_neg z, mlt_t ⟨by omega, by omega⟩ ⟨by omega, by omega⟩ b2, mcn_e (first_vX hM.1 e3)]
    unfold fDe_byteAt
    rw [mlt_f ⟨by omega, by omega⟩ rI_0 (by omega), mlt_t ⟨by omega, by omega⟩ ⟨by decide, by decide⟩ (by omega), mrd_t ⟨by omega, by omega⟩, mcn_t, hM.1, show (fb d j * 16 + (k : Int)).toNat = 16 * (fb d j).toNat + k by omega]
theorem byte_vR (h : Ok d sl us bg) (hM : MY M d sl us bg) (hg : Go d sl us bg (i : Int)) (hl : ¬ ly d i = 2) {k : Nat} (hk : (k : Int) < sz d i) {y : Int} (hy : y = (k : Int)) : fR_byteOf (i : Int) y M = some (bt d i k, M) := by
  subst hy
  obtain ⟨a, b⟩ := bt_at h hg hl hk
  obtain ⟨j, e1, e2, e3, e4⟩ := In.nat h hg.1
  have e5 : j = i := by omega
  subst e5
  have q1 := h.1.sz_ e3
  have q2 := h.1.fb_ e3
  have q3 := h.1.ly_ e3
  unfold fR_byteOf fR_byteOf_29 bt
  have e0 : ¬ (ly d j = 1 ∧ sz d j / 16 * 16 ≤ (k : Int)) → fR_byteOf_30 (j : Int) (k : Int) 0 M = some (d (16 * (fb d j).toNat + k), M) := fun z => by
    obtain ⟨b1, b2⟩ := b z
    unfold fR_byteOf_30
    rw [meq_t rI_0 rI_0 rfl, mcn_e (first_vR hM.1 e3), mrd_t ⟨by omega, by omega⟩, hM.1, show (16 * fb d j + (k : Int)).toNat = 16 * (fb d j).toNat + k by omega]
  rw [mcn_e (tag_vR h.1 hM.1 e3 (Or.inr rfl)), if_neg (by decide)]
  by_cases l1 : ly d j = 1
  · rw [meq_t ⟨by omega, by omega⟩ ⟨by decide, by decide⟩ l1, mcn_e (size_vR hM.1 e3), mdiv_t ⟨by omega, by omega, by omega, by omega⟩]
    by_cases z : sz d j / 16 * 16 ≤ (k : Int)
    · have a' := a ⟨l1, z⟩
      rw [mlt_f ⟨by omega, by omega⟩ ⟨by omega, by omega⟩ (by omega), if_pos ⟨l1, z⟩]
      unfold fR_byteOf_30
      rw [meq_f ⟨by decide, by decide⟩ rI_0 (by decide), mrem_t ⟨by omega, by omega, by omega, by omega⟩, mcn_e (rest_vR (k := k % 16) hM.1 a' (by omega))]
    · rw [mlt_t ⟨by omega, by omega⟩ ⟨by omega, by omega⟩ (by omega), if_neg (fun w => z w.2), e0 (fun w => z w.2)]
  · rw [meq_f ⟨by omega, by omega⟩ ⟨by decide, by decide⟩ l1, if_neg (fun w => l1 w.1), e0 (fun w => l1 w.1)]
end D4
