/-! The device: what both sides read of an inode -/
def Db (d : Nat → Int) : Prop := ∀ i, i < 1024 → 0 ≤ d i ∧ d i ≤ 255
def kn (d : Nat → Int) (i : Nat) : Int := d (16 + 8 * i) / 2 % 4
def ly (d : Nat → Int) (i : Nat) : Int := d (16 + 8 * i) / 8 % 4
def lg (d : Nat → Int) (i : Nat) : Int := d (16 + 8 * i) % 2
def sz (d : Nat → Int) (i : Nat) : Int := d (16 + 8 * i + 1)
def fb (d : Nat → Int) (i : Nat) : Int := d (16 + 8 * i + 2)
def rs (d : Nat → Int) (i k : Nat) : Int := d (16 + 8 * i + 4 + k)
def bl (d : Nat → Int) (i : Nat) : Int := if ly d i = 1 then sz d i / 16 else if ly d i = 2 then rs d i 0 else (sz d i + 15) / 16
section D1
variable {d : Nat → Int} {M : Mm} {i : Nat}
theorem Db.sz_ (h : Db d) (hi : i < 126) : 0 ≤ sz d i ∧ sz d i ≤ 255 := h _ (by omega)
theorem Db.fb_ (h : Db d) (hi : i < 126) : 0 ≤ fb d i ∧ fb d i ≤ 255 := h _ (by omega)
theorem Db.rs_ (h : Db d) {k : Nat} (hi : 16 + 8 * i + 4 + k < 1024) : 0 ≤ rs d i k ∧ rs d i k ≤ 255 := h _ hi
theorem Db.kn_ (h : Db d) (hi : i < 126) : 0 ≤ kn d i ∧ kn d i ≤ 3 := by have := h (16 + 8 * i) (by omega); unfold kn; omega
theorem Db.ly_ (h : Db d) (hi : i < 126) : 0 ≤ ly d i ∧ ly d i ≤ 3 := by have := h (16 + 8 * i) (by omega); unfold ly; omega
theorem Db.lg_ (h : Db d) (hi : i < 126) : 0 ≤ lg d i ∧ lg d i ≤ 1 := by have := h (16 + 8 * i) (by omega); unfold lg; omega
theorem slotB {k : Nat} (hM : M 17 = d) (hk : 16 + 8 * i + k < 1024) {x k' : Int} (hx : x = (i : Int)) (hk' : k' = (k : Int)) : fDe_slotByte x k' M = some (d (16 + 8 * i + k), M) := by
  subst hx; subst hk'
  unfold fDe_slotByte
  rw [mlt_f ⟨by omega, by omega⟩ rI_0 (by omega), mlt_t ⟨by omega, by omega⟩ ⟨by decide, by decide⟩ (by omega), mrd_t ⟨by omega, by omega⟩, hM, show (16 + (i : Int) * 8 + (k : Int)).toNat = 16 + 8 * i + k by omega]
theorem isLong_vX (h : Db d) (hM : M 17 = d) (hi : i < 126) : fDe_isLong (i : Int) M = some (lg d i, M) := by
  have := h (16 + 8 * i) (by omega)
  unfold fDe_isLong lg
  rw [mcn_e (slotB (x := (i : Int)) (k' := 0) (k := 0) hM (by omega) rfl rfl), Nat.add_zero]
  by_cases h1 : d (16 + 8 * i) % 2 = 0
  · rw [meq_t ⟨by omega, by omega⟩ rI_0 h1, h1]
  · rw [meq_f ⟨by omega, by omega⟩ rI_0 h1, show d (16 + 8 * i) % 2 = 1 by omega]
theorem kind_vX (h : Db d) (hM : M 17 = d) (hi : i < 126) : fDe_kindOf (i : Int) M = some (kn d i, M) := by
  have := h (16 + 8 * i) (by omega)
  unfold fDe_kindOf kn
  rw [mcn_e (slotB (x := (i : Int)) (k' := 0) (k := 0) hM (by omega) rfl rfl), Nat.add_zero, mshr_t ⟨⟨by omega, by omega⟩, by omega, by omega⟩]
  rfl
theorem lay_vX (h : Db d) (hM : M 17 = d) (hi : i < 126) : fDe_layoutOf (i : Int) M = some (ly d i, M) := by
  have := h (16 + 8 * i) (by omega)
  unfold fDe_layoutOf ly
  rw [mcn_e (slotB (x := (i : Int)) (k' := 0) (k := 0) hM (by omega) rfl rfl), Nat.add_zero, mshr_t ⟨⟨by omega, by omega⟩, by omega, by omega⟩]
  rfl
theorem size_vX (hM : M 17 = d) (hi : i < 126) : fDe_sizeOf (i : Int) M = some (sz d i, M) := by
  unfold fDe_sizeOf sz
  rw [mcn_e (slotB (x := (i : Int)) (k' := 1) (k := 1) hM (by omega) rfl rfl)]
theorem first_vX (hM : M 17 = d) (hi : i < 126) : fDe_firstBlockOf (i : Int) M = some (fb d i, M) := by
  unfold fDe_firstBlockOf fb
  rw [mcn_e (slotB (x := (i : Int)) (k' := 2) (k := 2) hM (by omega) rfl rfl)]
theorem count_vX (hM : M 17 = d) (hi : i < 126) : fDe_countOf (i : Int) M = some (d (16 + 8 * i + 3), M) := by
  unfold fDe_countOf
  rw [mcn_e (slotB (x := (i : Int)) (k' := 3) (k := 3) hM (by omega) rfl rfl)]
theorem blocksFor_vX {x : Int} (hx : 0 ≤ x ∧ x < 1000000) : fX_blocksFor x M = some ((x + 15) / 16, M) := by
  unfold fX_blocksFor
  rw [mdiv_t ⟨by omega, by omega, by omega, by omega⟩, show x + 16 - 1 = x + 15 by omega]
theorem blocksFor_vR {x : Int} (hx : 0 ≤ x ∧ x < 1000000) : fR_blocksFor x M = some ((x + 15) / 16, M) := by
  unfold fR_blocksFor
  rw [mdiv_t ⟨by omega, by omega, by omega, by omega⟩, show x + 16 - 1 = x + 15 by omega]
theorem behind_vX {x : Int} (hx : 0 ≤ x ∧ x < 1000) : fX_firstBlockBehind x M = some (1 + (x + 1) / 2, M) := by
  unfold fX_firstBlockBehind
  rw [mcn_e (blocksFor_vX ⟨by omega, by omega⟩), show (16 + x * 8 + 15) / 16 = 1 + (x + 1) / 2 by omega]
theorem Db.bl_ (h : Db d) (hi : i < 126) : 0 ≤ bl d i ∧ bl d i ≤ 255 := by
  have h1 := h.sz_ hi
  have h2 := h.rs_ (i := i) (k := 0) (by omega)
  unfold bl
  by_cases e1 : ly d i = 1
  · rw [if_pos e1]; omega
  · rw [if_neg e1]
    by_cases e2 : ly d i = 2
    · rw [if_pos e2]; omega
    · rw [if_neg e2]; omega
theorem blocks_vX (h : Db d) (hM : M 17 = d) (hi : i < 126) : fDe_blocksOf (i : Int) M = some (bl d i, M) := by
  have h1 := h.sz_ hi
  have h2 := h.ly_ hi
  unfold fDe_blocksOf bl
  rw [mcn_e (lay_vX h hM hi)]
  by_cases e1 : ly d i = 1
  · rw [meq_t ⟨by omega, by omega⟩ ⟨by decide, by decide⟩ e1, if_pos e1, mcn_e (size_vX hM hi), mdiv_t ⟨by omega, by omega, by omega, by omega⟩]
  · rw [meq_f ⟨by omega, by omega⟩ ⟨by decide, by decide⟩ e1, if_neg e1]
    by_cases e2 : ly d i = 2
    · rw [meq_t ⟨by omega, by omega⟩ ⟨by decide, by decide⟩ e2, if_pos e2, mcn_e (slotB (x := (i : Int)) (k' := 4) (k := 4) hM (by omega) rfl rfl)]
      rfl
    · rw [meq_f ⟨by omega, by omega⟩ ⟨by decide, by decide⟩ e2, if_neg e2, mcn_e (size_vX hM hi), mcn_e (blocksFor_vX ⟨by omega, by omega⟩)]
theorem cend_vX {c : Nat} (hM : M 17 = d) (hi : 16 + 8 * i + 5 + c < 1024) : fDe_clusterEnd (i : Int) (c : Int) M = some (rs d i (1 + c), M) := by
  unfold fDe_clusterEnd rs
  rw [mcn_e (slotB (x := (i : Int)) (k' := 5 + (c : Int)) (k := 5 + c) hM (by omega) rfl (by omega)), show 16 + 8 * i + (5 + c) = 16 + 8 * i + 4 + (1 + c) by omega]
/-! the reference -/
theorem tag_vR (h : Db d) (hM : M 13 = d) (hi : i < 126) {x : Int} (hx : x = 1 ∨ x = 3) : fR_tag (i : Int) x M = some (if x = 1 then kn d i else ly d i, M) := by
  have := h (16 + 8 * i) (by omega)
  unfold fR_tag kn ly
  rw [mrd_t ⟨by omega, by omega⟩, mshr_t ⟨⟨by rw [hM, show (16 + 8 * (i : Int)).toNat = 16 + 8 * i by omega]; omega, by rw [hM, show (16 + 8 * (i : Int)).toNat = 16 + 8 * i by omega]; omega⟩, by omega, by omega⟩, hM, show (16 + 8 * (i : Int)).toNat = 16 + 8 * i by omega]
  rcases hx with rfl | rfl
  · rfl
  · rfl
theorem size_vR (hM : M 13 = d) (hi : i < 126) : fR_size (i : Int) M = some (sz d i, M) := by
  unfold fR_size sz
  rw [mrd_t ⟨by omega, by omega⟩, hM, show (16 + 8 * (i : Int) + 1).toNat = 16 + 8 * i + 1 by omega]
theorem first_vR (hM : M 13 = d) (hi : i < 126) : fR_first (i : Int) M = some (fb d i, M) := by
  unfold fR_first fb
  rw [mrd_t ⟨by omega, by omega⟩, hM, show (16 + 8 * (i : Int) + 2).toNat = 16 + 8 * i + 2 by omega]
theorem rest_vR {k : Nat} (hM : M 13 = d) (hi : 16 + 8 * i + 4 + k < 1024) {y : Int} (hy : y = (k : Int)) : fR_rest (i : Int) y M = some (rs d i k, M) := by
  subst hy
  unfold fR_rest rs
  rw [mrd_t ⟨by omega, by omega⟩, hM, show (16 + 8 * (i : Int) + 4 + (k : Int)).toNat = 16 + 8 * i + 4 + k by omega]
theorem end_vR {c : Nat} (hM : M 13 = d) (hi : 16 + 8 * i + 5 + c < 1024) : fR_end (i : Int) (c : Int) M = some (rs d i (1 + c), M) := by
  unfold fR_end
  rw [mlt_f ⟨by omega, by omega⟩ rI_0 (by omega), mcn_e (rest_vR (k := 1 + c) hM (by omega) (by omega))]
/-- where a cluster begins -/
def cs (d : Nat → Int) (i : Nat) : Nat → Int
  | 0 => 0
  | c + 1 => rs d i (1 + c)
theorem cst_vX {c : Nat} (hM : M 17 = d) (hi : 16 + 8 * i + 5 + c < 1025) : fDe_clusterStart (i : Int) (c : Int) M = some (cs d i c, M) := by
  unfold fDe_clusterStart
  cases c with
  | zero => rw [meq_t (b := 0) ⟨by omega, by omega⟩ rI_0 (by omega)]; rfl
  | succ c => rw [meq_f ⟨by omega, by omega⟩ rI_0 (by omega), show ((c + 1 : Nat) : Int) - 1 = (c : Int) by omega, mcn_e (cend_vX hM (by omega))]; rfl
theorem cst_vR {c : Nat} (hM : M 13 = d) (hi : 16 + 8 * i + 5 + c < 1025) : fR_end (i : Int) ((c : Int) - 1) M = some (cs d i c, M) := by
  cases c with
  | zero => unfold fR_end; rw [mlt_t ⟨by omega, by omega⟩ rI_0 (by omega)]; rfl
  | succ c => rw [show ((c + 1 : Nat) : Int) - 1 = (c : Int) by omega, end_vR hM (by omega)]; rfl
end D1
