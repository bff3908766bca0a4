/-! Building: where a row of blocks goes, on both sides -/
def Im (X R : Mm) : Prop := ∀ j, j < 1024 → X 8 j = R 9 j ∧ 0 ≤ R 9 j ∧ R 9 j ≤ 255
theorem Im.wr {X R : Mm} (h : Im X R) (i : Nat) {v : Int} (hv : 0 ≤ v ∧ v ≤ 255) : Im (st X 8 i v) (st R 9 i v) := fun j hj => by
  by_cases e : j = i
  · rw [e, st_same, st_same]; exact ⟨rfl, hv⟩
  · rw [st_off e, st_off e]; exact h j hj
def Rq (k1 : Nat) (X R : Mm) (b : Nat) : Prop := ∀ j, j < 16 * b → X k1 j = R 10 j ∧ 0 ≤ R 10 j ∧ R 10 j ≤ 255
def ith (im row : Nat → Int) (p : Nat) : Nat → Bool
  | 0 => true
  | k + 1 => ith im row p k && decide (im (16 * p + k) = row k)
theorem ith_mono {im row : Nat → Int} {p j : Nat} : ∀ n, ith im row p n = true → j ≤ n → ith im row p j = true
  | 0, h, hj => by rw [show j = 0 by omega]; exact h
  | n + 1, h, hj => by
    by_cases e : j = n + 1
    · rw [e]; exact h
    · unfold ith at h
      exact ith_mono n (by simp at h; exact h.1) (by omega)
theorem ith_at {im row : Nat → Int} {p j n : Nat} (h : ith im row p n = true) (hj : j < n) : im (16 * p + j) = row j := by
  have := ith_mono n h (show j + 1 ≤ n by omega)
  unfold ith at this
  simp at this
  exact this.2
def fpl (im row : Nat → Int) (b : Nat) : Nat → Nat → Option Nat
  | 0, _ => none
  | k + 1, p => if ith im row p (16 * b) = true then some p else fpl im row b k (p + 1)
section BA
variable {X R M : Mm} {k1 n1 b : Nat}
theorem there_X (hI : Im X R) (hr : Rq k1 X R b) (hn : 16 * b ≤ n1) {p : Nat} (hp : 16 * p + 16 * b ≤ 1024) (hb : b ≤ 11) : ∀ (k fu j : Nat), j + k = 16 * b → k < fu → ith (R 9) (R 10) p j = true → fBu_isThere_3 k1 n1 fu (b : Int) (p : Int) (j : Int) X = some (if ith (R 9) (R 10) p (16 * b) = true then 1 else 0, X)
  | _, 0, _, _, hf, _ => absurd hf (Nat.not_lt_zero _)
  | 0, fu + 1, j, hj, _, ht => by
    have : j = 16 * b := by omega
    subst this
    unfold fBu_isThere_3
    rw [mlt_f ⟨by omega, by omega⟩ ⟨by omega, by omega⟩ (by omega), if_pos ht]
  | k + 1, fu + 1, j, hj, hf, ht => by
    have q1 := hI (16 * p + j) (by omega)
    have q2 := hr j (by omega)
    rw [fBu_isThere_3]
    rw [mlt_t ⟨by omega, by omega⟩ ⟨by omega, by omega⟩ (by omega), mrd_t ⟨by omega, by omega⟩, mrd_t ⟨by omega, by omega⟩, show ((p : Int) * 16 + (j : Int)).toNat = 16 * p + j by omega, show (((j : Nat) : Int)).toNat = j by omega, q1.1, q2.1]
    by_cases e : R 9 (16 * p + j) = R 10 j
    · rw [meq_t (rB q1.2) (rB q2.2) e, show (j : Int) + 1 = ((j + 1 : Nat) : Int) by omega]
      exact there_X hI hr hn hp hb k fu (j + 1) (by omega) (by omega) (by unfold ith; rw [ht]; simp [e])
    · rw [meq_f (rB q1.2) (rB q2.2) e, if_neg (fun z => e (ith_at z (by omega)))]
theorem there_R (hI : Im X R) (hr : Rq k1 X R b) {p : Nat} (hp : 16 * p + 16 * b ≤ 1024) (hb : b ≤ 11) : ∀ (k fu j : Nat), j + k = 16 * b → k < fu → fR_isThere_5 fu (p : Int) (b : Int) (if ith (R 9) (R 10) p j = true then 1 else 0) (j : Int) R = some (if ith (R 9) (R 10) p (16 * b) = true then 1 else 0, R)
  | _, 0, _, _, hf => absurd hf (Nat.not_lt_zero _)
  | 0, fu + 1, j, hj, _ => by
    have : j = 16 * b := by omega
    subst this
    unfold fR_isThere_5
    rw [mlt_f ⟨by omega, by omega⟩ ⟨by omega, by omega⟩ (by omega), mz_t (by split <;> omega)]
  | k + 1, fu + 1, j, hj, hf => by
    have q1 := hI (16 * p + j) (by omega)
    have q2 := hr j (by omega)
    have ih := there_R hI hr hp hb k fu (j + 1) (by omega) (by omega)
    have eu : ith (R 9) (R 10) p (j + 1) = (ith (R 9) (R 10) p j && decide (R 9 (16 * p + j) = R 10 j)) := rfl
    rw [fR_isThere_5]
    rw [mlt_t ⟨by omega, by omega⟩ ⟨by omega, by omega⟩ (by omega), show (j : Int) + 1 = ((j + 1 : Nat) : Int) by omega]
    by_cases c : ith (R 9) (R 10) p j = true
    · rw [if_pos c, meq_f (a := 1) ⟨by decide, by decide⟩ rI_0 (by decide), mrd_t ⟨by omega, by omega⟩, mrd_t ⟨by omega, by omega⟩, show (16 * (p : Int) + (j : Int)).toNat = 16 * p + j by omega, show (((j : Nat) : Int)).toNat = j by omega]
      by_cases e : R 9 (16 * p + j) = R 10 j
      · rw [if_pos (by rw [eu, c]; simp [e])] at ih
        rw [meq_t (rB q1.2) (rB q2.2) e]
        exact ih
      · rw [if_neg (by rw [eu, c]; simp [e])] at ih
        rw [meq_f (rB q1.2) (rB q2.2) e]
        exact ih
    · rw [if_neg (by rw [eu]; simp [c])] at ih
      rw [if_neg c, meq_t rI_0 rI_0 rfl]
      exact ih
theorem place_X (hI : Im X R) (hr : Rq k1 X R b) (hn : 16 * b ≤ n1) (hb : 1 ≤ b ∧ b ≤ 11) {us : Nat} (hu : us ≤ 64) (h7 : X 7 7 = (us : Int)) : ∀ (k fu p : Nat), (p + b + k = us + 1 ∨ (k = 0 ∧ us < p + b)) → p ≤ 64 → k < fu → fBu_settle_18 k1 n1 fu (b : Int) (p : Int) X = (match fpl (R 9) (R 10) b k p with | some q => some ((q : Int), X) | none => fBu_settle_49 k1 n1 (b : Int) X)
  | _, 0, _, _, _, hf => absurd hf (Nat.not_lt_zero _)
  | 0, fu + 1, p, hp, hp6, _ => by
    unfold fBu_settle_18 fpl
    rw [h7, mlt_t ⟨by omega, by omega⟩ ⟨by omega, by omega⟩ (by omega)]
  | k + 1, fu + 1, p, hp, hp6, hf => by
    have ht := there_X hI hr hn (p := p) (by omega) hb.2 (16 * b) FU 0 (by omega) (by unfold FU; omega) rfl
    rw [show ((0 : Nat) : Int) = 0 from rfl] at ht
    rw [fBu_settle_18]
    unfold fBu_isThere fpl
    rw [h7, mlt_f ⟨by omega, by omega⟩ ⟨by omega, by omega⟩ (by omega), mcn_e ht]
    by_cases c : ith (R 9) (R 10) p (16 * b) = true
    · rw [if_pos c, if_pos c, meq_f (a := 1) ⟨by decide, by decide⟩ rI_0 (by decide)]
    · rw [if_neg c, if_neg c, meq_t rI_0 rI_0 rfl, show (p : Int) + 1 = ((p + 1 : Nat) : Int) by omega]
      exact place_X hI hr hn hb hu h7 k fu (p + 1) (by omega) (by omega) (by omega)
theorem place_R (hI : Im X R) (hr : Rq k1 X R b) (hb : 1 ≤ b ∧ b ≤ 11) {us a : Nat} (hu : us ≤ 64) (ha : a + 2 < 1024) (sh : Bool) : ∀ (k fu p : Nat), (p + b + k = us + 1 ∨ (k = 0 ∧ us < p + b)) → p ≤ 64 → k < fu → fR_write_281 fu (us : Int) (if sh then 1 else 0) (a : Int) (b : Int) (p : Int) R = (match (if sh then fpl (R 9) (R 10) b k p else none) with | some q => some ((us : Int), st R 9 (a + 2) (q : Int)) | none => fR_write_347 FU (us : Int) (b : Int) 0 (st R 9 (a + 2) (us : Int)))
  | _, 0, _, _, _, hf => absurd hf (Nat.not_lt_zero _)
  | 0, fu + 1, p, hp, hp6, _ => by
    unfold fR_write_281 fR_write_312 fpl
    rw [mlt_t ⟨by omega, by omega⟩ ⟨by omega, by omega⟩ (by omega), mlt_t ⟨by omega, by omega⟩ ⟨by omega, by omega⟩ (by omega), mwr_t ⟨by omega, by omega⟩, show ((a : Int) + 2).toNat = a + 2 by omega]
    cases sh <;> rfl
  | k + 1, fu + 1, p, hp, hp6, hf => by
    have ih := place_R hI hr hb hu ha sh k fu (p + 1) (by omega) (by omega) (by omega)
    rw [fR_write_281]
    rw [mlt_f ⟨by omega, by omega⟩ ⟨by omega, by omega⟩ (by omega), show (p : Int) + 1 = ((p + 1 : Nat) : Int) by omega]
    cases sh with
    | false =>
      rw [meq_t (b := 0) (by rw [if_neg (by decide)]; exact rI_0) rI_0 (by rw [if_neg (by decide)])]
      exact ih
    | true =>
      have ht := there_R hI hr (p := p) (by omega) hb.2 (16 * b) FU 0 (by omega) (by unfold FU; omega)
      rw [show ((0 : Nat) : Int) = 0 from rfl, if_pos (show ith (R 9) (R 10) p 0 = true from rfl)] at ht
      unfold fR_isThere
      rw [if_pos rfl, if_pos rfl, meq_f (a := 1) ⟨by decide, by decide⟩ rI_0 (by decide), mcn_e ht]
      rw [if_pos rfl, if_pos rfl] at ih
      have ef : fpl (R 9) (R 10) b (k + 1) p = if ith (R 9) (R 10) p (16 * b) = true then some p else fpl (R 9) (R 10) b k (p + 1) := rfl
      by_cases c : ith (R 9) (R 10) p (16 * b) = true
      · rw [if_pos c] at ef
        unfold fR_write_312
        rw [ef, if_pos c, meq_f (a := 1) ⟨by decide, by decide⟩ rI_0 (by decide), mlt_f ⟨by omega, by omega⟩ ⟨by omega, by omega⟩ (by omega), mwr_t ⟨by omega, by omega⟩, show ((a : Int) + 2).toNat = a + 2 by omega]
      · rw [if_neg c] at ef
        rw [ef, if_neg c, meq_t rI_0 rI_0 rfl]
        exact ih
theorem fpl_r {im row : Nat → Int} : ∀ (k p q : Nat), fpl im row b k p = some q → p ≤ q ∧ q < p + k
  | 0, _, _, h => nomatch h
  | k + 1, p, q, h => by
    unfold fpl at h
    by_cases c : ith im row p (16 * b) = true
    · rw [if_pos c] at h
      have := Option.some.inj h
      omega
    · rw [if_neg c] at h
      have := fpl_r k (p + 1) q h
      omega
theorem copy_R {us : Nat} (hu : us + b ≤ 64) : ∀ (k fu j : Nat) (M : Mm), j + k = 16 * b → k < fu → b ≤ 11 → ∃ M', fR_write_347 fu (us : Int) (b : Int) (j : Int) M = some (((us + b : Nat) : Int), M') ∧ (∀ i, i < 16 * us + j ∨ 16 * us + 16 * b ≤ i → M' 9 i = M 9 i) ∧ (∀ i, j ≤ i → i < 16 * b → M' 9 (16 * us + i) = M 10 i) ∧ ∀ p, p ≠ 9 → M' p = M p
  | _, 0, _, _, _, hf, _ => absurd hf (Nat.not_lt_zero _)
  | 0, fu + 1, j, M, hj, _, hb => by
    unfold fR_write_347
    rw [mlt_f ⟨by decide, by decide⟩ ⟨by omega, by omega⟩ (by omega), mlt_f ⟨by omega, by omega⟩ ⟨by omega, by omega⟩ (by omega), show (us : Int) + (b : Int) = ((us + b : Nat) : Int) by omega]
    exact ⟨M, rfl, fun _ _ => rfl, fun i h1 h2 => by omega, fun _ _ => rfl⟩
  | k + 1, fu + 1, j, M, hj, hf, hb => by
    rw [fR_write_347]
    rw [mlt_f ⟨by decide, by decide⟩ ⟨by omega, by omega⟩ (by omega), mlt_t ⟨by omega, by omega⟩ ⟨by omega, by omega⟩ (by omega), mrd_t ⟨by omega, by omega⟩, mwr_t ⟨by omega, by omega⟩, show (((j : Nat) : Int)).toNat = j by omega, show (16 * (us : Int) + (j : Int)).toNat = 16 * us + j by omega, show (j : Int) + 1 = ((j + 1 : Nat) : Int) by omega]
    obtain ⟨M', f1, f2, f3, f4⟩ := copy_R hu k fu (j + 1) (st M 9 (16 * us + j) (M 10 j)) (by omega) (by omega) hb
    refine ⟨M', f1, fun i hi => ?_, fun i h1 h2 => ?_, fun p hp => (f4 p hp).trans (st_ne hp)⟩
    · rw [f2 i (by omega), st_off (by omega)]
    · by_cases e : i = j
      · rw [e, f2 _ (by omega), st_same]
      · rw [f3 i (by omega) h2, st_ne (by decide)]
theorem settle_v {fl fd us a : Nat} (hfl : fl < 8) (hI : Im X R) (hr : Rq k1 X R b) (hn : 16 * b ≤ n1) (hb : 1 ≤ b ∧ b ≤ 11) (hu : 1 ≤ fd ∧ fd ≤ us ∧ us ≤ 64) (h6 : X 7 6 = (fd : Int)) (h7 : X 7 7 = (us : Int)) (ha : a + 2 < 16 * fd) : ∃ (v : Int) (X1 : Mm) (e : Nat) (R' : Mm), fBu_settle k1 n1 (b : Int) (fl : Int) X = some (v, X1) ∧ fR_write_281 FU (us : Int) (if decide ((fl &&& 2) = 0) = true then 0 else 1) (a : Int) (b : Int) (fd : Int) R = some ((e : Int), R') ∧ (∀ p, p ≠ 9 → R' p = R p) ∧ ((v = -1 ∧ 64 < e ∧ e ≤ 80 ∧ X1 = X) ∨ ((0 ≤ v ∧ v ≤ 64) ∧ (us ≤ e ∧ e ≤ 64) ∧ Im (st X1 8 (a + 2) v) R' ∧ X1 7 7 = (e : Int) ∧ (∀ p, p ≠ 7 → p ≠ 8 → X1 p = X p) ∧ (∀ k, k ≠ 7 → X1 7 k = X 7 k) ∧ ∀ j, j < 16 * fd → j ≠ a + 2 → R' 9 j = R 9 j)) := by
  -- nothing found
  have nf : ∃ (v : Int) (X1 : Mm) (e : Nat) (R' : Mm), fBu_settle_49 k1 n1 (b : Int) X = some (v, X1) ∧ fR_write_347 FU (us : Int) (b : Int) 0 (st R 9 (a + 2) (us : Int)) = some ((e : Int), R') ∧ (∀ p, p ≠ 9 → R' p = R p) ∧ ((v = -1 ∧ 64 < e ∧ e ≤ 80 ∧ X1 = X) ∨ ((0 ≤ v ∧ v ≤ 64) ∧ (us ≤ e ∧ e ≤ 64) ∧ Im (st X1 8 (a + 2) v) R' ∧ X1 7 7 = (e : Int) ∧ (∀ p, p ≠ 7 → p ≠ 8 → X1 p = X p) ∧ (∀ k, k ≠ 7 → X1 7 k = X 7 k) ∧ ∀ j, j < 16 * fd → j ≠ a + 2 → R' 9 j = R 9 j)) := by
    unfold fBu_settle_49
    rw [h7]
    by_cases c : 64 < us + b
    · rw [mlt_t ⟨by decide, by decide⟩ ⟨by omega, by omega⟩ (by omega)]
      rw [show FU = 1999 + 1 from rfl, fR_write_347]
      rw [mlt_t ⟨by decide, by decide⟩ ⟨by omega, by omega⟩ (by omega), show (us : Int) + (b : Int) = ((us + b : Nat) : Int) by omega]
      exact ⟨-1, X, us + b, _, rfl, rfl, fun p hp => st_ne hp, Or.inl ⟨rfl, c, by omega, rfl⟩⟩
    · obtain ⟨M', f1, f2, f3, f4⟩ := copy_R (b := b) (us := us) (by omega) (16 * b) FU 0 (st R 9 (a + 2) (us : Int)) (by omega) (by unfold FU; omega) hb.2
      rw [show ((0 : Nat) : Int) = 0 from rfl] at f1
      rw [mlt_f ⟨by decide, by decide⟩ ⟨by omega, by omega⟩ (by omega), mcp_t ⟨by omega, by omega, by omega, by omega, by omega⟩, mput_t, f1, show (0 : Int).toNat = 0 from rfl, show ((us : Int) * 16).toNat = 16 * us by omega, show ((b : Int) * 16).toNat = 16 * b by omega]
      have c7 : cpM X k1 8 0 (16 * us) (16 * b) 7 = X 7 := by
        funext j
        show (if 7 = 8 ∧ _ then _ else _) = _
        rw [if_neg (by omega)]
      refine ⟨(us : Int), _, us + b, M', rfl, rfl, fun p hp => (f4 p hp).trans (st_ne hp), Or.inr ⟨⟨by omega, by omega⟩, ⟨by omega, by omega⟩, fun j hj => ?_, ?_, fun p h7' h8' => ?_, fun k hk => ?_, fun j hj hj' => ?_⟩⟩
      · by_cases e : j = a + 2
        · rw [e, st_same, f2 _ (by omega), st_same]
          exact ⟨rfl, by omega, by omega⟩
        · rw [st_off e, st_ne (by decide)]
          by_cases e2 : 16 * us ≤ j ∧ j < 16 * us + 16 * b
          · have q := hr (j - 16 * us) (by omega)
            have := f3 (j - 16 * us) (by omega) (by omega)
            rw [show 16 * us + (j - 16 * us) = j by omega, st_ne (by decide)] at this
            rw [this]
            refine ⟨?_, q.2⟩
            show (if 8 = 8 ∧ 16 * us ≤ j ∧ j < 16 * us + 16 * b then X k1 (0 + (j - 16 * us)) else _) = _
            rw [if_pos ⟨rfl, e2⟩, Nat.zero_add]
            exact q.1
          · rw [f2 j (by omega), st_off e]
            refine ⟨?_, (hI j hj).2⟩
            show (if 8 = 8 ∧ 16 * us ≤ j ∧ j < 16 * us + 16 * b then X k1 (0 + (j - 16 * us)) else X 8 j) = _
            rw [if_neg (fun z => e2 z.2)]
            exact (hI j hj).1
      · rw [st_same, c7, h7]; omega
      · rw [st_ne h7']
        funext j
        show (if p = 8 ∧ _ then _ else _) = _
        rw [if_neg (fun z => h8' z.1)]
      · rw [st_off hk, c7]
      · rw [f2 j (by omega), st_off hj']
  have hl2 : fl &&& 2 ≤ 2 := Nat.and_le_right
  unfold fBu_settle
  rw [meq_f ⟨by omega, by omega⟩ rI_0 (by omega), mland_t ⟨by omega, by omega, by omega, by omega⟩, show (((fl : Nat) : Int)).toNat = fl by omega, show (2 : Int).toNat = 2 from rfl, h6]
  have hk : ∃ k, (fd + b + k = us + 1 ∨ (k = 0 ∧ us < fd + b)) ∧ k ≤ 65 := by
    by_cases c : fd + b ≤ us + 1
    · exact ⟨us + 1 - (fd + b), Or.inl (by omega), by omega⟩
    · exact ⟨0, Or.inr ⟨rfl, by omega⟩, by omega⟩
  obtain ⟨k, hk1, hk2⟩ := hk
  by_cases c : (fl &&& 2) = 0
  · have pr := place_R hI hr hb hu.2.2 (a := a) (by omega) false k FU fd hk1 (by omega) (by unfold FU; omega)
    rw [if_neg (by decide), if_neg (by decide)] at pr
    rw [meq_t ⟨by omega, by omega⟩ rI_0 (by omega), decide_eq_true c, if_pos rfl, pr]
    exact nf
  · have pr := place_R hI hr hb hu.2.2 (a := a) (by omega) true k FU fd hk1 (by omega) (by unfold FU; omega)
    have px := place_X hI hr hn hb hu.2.2 h7 k FU fd hk1 (by omega) (by unfold FU; omega)
    rw [if_pos rfl, if_pos rfl] at pr
    rw [meq_f ⟨by omega, by omega⟩ rI_0 (by omega), decide_eq_false c, if_neg (by decide), pr, px]
    cases hq : fpl (R 9) (R 10) b k fd with
    | none => exact nf
    | some q =>
      have hqr := fpl_r k fd q hq
      refine ⟨(q : Int), X, us, _, rfl, rfl, fun p hp => st_ne hp, Or.inr ⟨⟨by omega, by omega⟩, ⟨by omega, by omega⟩, hI.wr (a + 2) ⟨by omega, by omega⟩, h7, fun _ _ _ => rfl, fun _ _ => rfl, fun j hj hj' => st_off hj'⟩⟩
end BA
