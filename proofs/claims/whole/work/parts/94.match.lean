/-! Building: the longest match, on both sides -/
def ml (f : Nat → Int) (a d : Nat) : Nat → Nat → Nat
  | 0, m => m
  | k + 1, m => if f (a + m) = f (a + m - d) then ml f a d k (m + 1) else m
theorem ml_r {f : Nat → Int} {a d : Nat} : ∀ k m, m ≤ ml f a d k m ∧ ml f a d k m ≤ m + k
  | 0, m => ⟨Nat.le_refl _, Nat.le_refl _⟩
  | k + 1, m => by
    have := ml_r (f := f) (a := a) (d := d) k (m + 1)
    unfold ml
    split <;> omega
def bs (f : Nat → Int) (a mo : Nat) : Nat → Nat × Nat
  | 0 => (2, 0)
  | D + 1 => if (bs f a mo D).1 < ml f a (D + 1) mo 0 then (ml f a (D + 1) mo 0, D + 1) else bs f a mo D
theorem bs_inv {f : Nat → Int} {a mo : Nat} : ∀ D, ((bs f a mo D).2 = 0 ∧ (bs f a mo D).1 = 2) ∨ ((bs f a mo D).2 ≠ 0 ∧ 2 < (bs f a mo D).1 ∧ (bs f a mo D).1 ≤ mo ∧ (bs f a mo D).2 ≤ D)
  | 0 => Or.inl ⟨rfl, rfl⟩
  | D + 1 => by
    have ih := bs_inv (f := f) (a := a) (mo := mo) D
    have h := ml_r (f := f) (a := a) (d := D + 1) mo 0
    unfold bs
    by_cases c : (bs f a mo D).1 < ml f a (D + 1) mo 0
    · rw [if_pos c]; right; refine ⟨by simp, ?_, ?_, ?_⟩ <;> simp <;> omega
    · rw [if_neg c]; omega
theorem bs_stop {f : Nat → Int} {a mo : Nat} {D : Nat} (h : mo ≤ (bs f a mo D).1) : ∀ k, bs f a mo (D + k) = bs f a mo D
  | 0 => rfl
  | k + 1 => by
    have ih := bs_stop h k
    have hm := ml_r (f := f) (a := a) (d := D + k + 1) mo 0
    show (if (bs f a mo (D + k)).1 < ml f a (D + k + 1) mo 0 then (ml f a (D + k + 1) mo 0, D + k + 1) else bs f a mo (D + k)) = _
    rw [if_neg (by rw [ih]; omega), ih]
/-- the length of the match at a, and its distance -/
def mt (f : Nat → Int) (s a fr : Nat) : Nat := if (bs f a (min 17 (s - a)) (a - fr)).2 = 0 then 0 else (bs f a (min 17 (s - a)) (a - fr)).1
def md (f : Nat → Int) (s a fr : Nat) : Nat := (bs f a (min 17 (s - a)) (a - fr)).2
theorem mt_r {f : Nat → Int} {s a fr : Nat} : mt f s a fr = 0 ∨ (3 ≤ mt f s a fr ∧ mt f s a fr ≤ 17 ∧ mt f s a fr + a ≤ s ∧ 1 ≤ md f s a fr ∧ md f s a fr ≤ a - fr) := by
  have h := bs_inv (f := f) (a := a) (mo := min 17 (s - a)) (a - fr)
  unfold mt md
  by_cases c : (bs f a (min 17 (s - a)) (a - fr)).2 = 0
  · rw [if_pos c]; exact Or.inl rfl
  · rw [if_neg c]
    have hm : min 17 (s - a) ≤ 17 := Nat.min_le_left _ _
    have hm' : min 17 (s - a) ≤ s - a := Nat.min_le_right _ _
    right
    rcases h with h | h
    · exact absurd h.1 c
    · omega
theorem mt_end {f : Nat → Int} {s a fr : Nat} (h : s ≤ a) : mt f s a fr = 0 := by
  rcases mt_r (f := f) (s := s) (a := a) (fr := fr) with z | z <;> omega
def FdX (M M' : Mm) : Prop := (∀ p, p ≠ 12 → M' p = M p) ∧ ∀ k, k ≠ 8 → M' 12 k = M 12 k
def FdR (M M' : Mm) : Prop := (∀ p, p ≠ 0 → M' p = M p) ∧ ∀ k, k ≠ 15 → M' 0 k = M 0 k
section B1
variable {M : Mm} {f : Nat → Int} {s a fr : Nat}
theorem ml_vX {K : Int → Int → Int → Int → Mm → Option (Int × Mm)} {y3 : Int} {d mo : Nat} (hf : ∀ k, k < s → M 13 k = f k) (hs : s ≤ 60) (hr : ∀ k, k < s → 0 ≤ f k ∧ f k ≤ 255) (hmo : a + mo ≤ s) (hd : 1 ≤ d ∧ d ≤ a) : ∀ (k fu m : Nat), m + k = mo → k < fu → fPa_matchAt_41 K fu (a : Int) (mo : Int) y3 (d : Int) (m : Int) M = fPa_matchAt_77 K (a : Int) (mo : Int) y3 (d : Int) ((ml f a d k m : Nat) : Int) M
  | _, 0, _, _, hf => absurd hf (Nat.not_lt_zero _)
  | 0, fu + 1, m, hm, _ => by
    unfold fPa_matchAt_41 ml
    rw [mlt_f ⟨by omega, by omega⟩ ⟨by omega, by omega⟩ (by omega)]
  | k + 1, fu + 1, m, hm, hfu => by
    have q1 := hr (a + m) (by omega)
    have q2 := hr (a + m - d) (by omega)
    rw [fPa_matchAt_41]
    unfold ml
    rw [mlt_t ⟨by omega, by omega⟩ ⟨by omega, by omega⟩ (by omega), mrd_t ⟨by omega, by omega⟩, mrd_t ⟨by omega, by omega⟩, show ((a : Int) + (m : Int)).toNat = a + m by omega, show ((a : Int) + (m : Int) - (d : Int)).toNat = a + m - d by omega, hf _ (by omega), hf _ (by omega)]
    by_cases c : f (a + m) = f (a + m - d)
    · rw [meq_t (rB q1) (rB q2) c, if_pos c, show (m : Int) + 1 = ((m + 1 : Nat) : Int) by omega]
      exact ml_vX hf hs hr hmo hd k fu (m + 1) (by omega) (by omega)
    · rw [meq_f (rB q1) (rB q2) c, if_neg c]
theorem match22 (hs : s ≤ 60) (hr : ∀ k, k < s → 0 ≤ f k ∧ f k ≤ 255) {mo : Nat} (hmo : a + mo ≤ s) (hmo17 : mo ≤ 17) (hfr : fr ≤ a) {M0 : Mm} : ∀ (k fu j : Nat) (M : Mm), j + k = a - fr → k < fu → FdX M0 M → (∀ k, k < s → M0 13 k = f k) → M0 12 5 = (fr : Int) → M 12 8 = ((bs f a mo j).2 : Int) → ∃ M', fPa_matchAt_22 fu (a : Int) (mo : Int) ((bs f a mo j).1 : Int) ((j : Int) + 1) M = some (((if (bs f a mo (a - fr)).2 = 0 then 0 else (bs f a mo (a - fr)).1 : Nat) : Int), M') ∧ FdX M0 M' ∧ M' 12 8 = ((bs f a mo (a - fr)).2 : Int)
  | _, 0, _, _, _, hf, _, _, _, _ => absurd hf (Nat.not_lt_zero _)
  | k, fu + 1, j, M, hj, hfu, hF, h13, h5, h8 => by
    have e5 : M 12 5 = (fr : Int) := (hF.2 5 (by decide)).trans h5
    have e13 : ∀ k, k < s → M 13 k = f k := fun k hk => by rw [hF.1 13 (by decide)]; exact h13 k hk
    have hb := bs_inv (f := f) (a := a) (mo := mo) j
    have e98 : bs f a mo (a - fr) = bs f a mo j → fPa_matchAt_98 ((bs f a mo j).1 : Int) M = some (((if (bs f a mo (a - fr)).2 = 0 then 0 else (bs f a mo (a - fr)).1 : Nat) : Int), M) := fun e => by
      unfold fPa_matchAt_98
      rw [h8, e]
      by_cases c : (bs f a mo j).2 = 0
      · rw [meq_t ⟨by omega, by omega⟩ rI_0 (by omega), if_pos c]; rfl
      · rw [meq_f ⟨by omega, by omega⟩ rI_0 (by omega), if_neg c]
    rw [fPa_matchAt_22]
    rw [e5]
    cases k with
    | zero =>
      have ej : a - fr = j := by omega
      rw [mlt_t ⟨by omega, by omega⟩ ⟨by omega, by omega⟩ (by omega), e98 (by rw [ej])]
      exact ⟨M, rfl, hF, by rw [ej]; exact h8⟩
    | succ k =>
      rw [mlt_f ⟨by omega, by omega⟩ ⟨by omega, by omega⟩ (by omega)]
      by_cases c : (bs f a mo j).1 < mo
      · have hml := ml_r (f := f) (a := a) (d := j + 1) mo 0
        have := ml_vX (K := fPa_matchAt_22 fu) (y3 := ((bs f a mo j).1 : Int)) (d := j + 1) e13 hs hr hmo ⟨by omega, by omega⟩ mo FU 0 (by omega) (by unfold FU; omega)
        rw [show ((0 : Nat) : Int) = 0 from rfl] at this
        rw [mlt_t ⟨by omega, by omega⟩ ⟨by omega, by omega⟩ (by omega), show (j : Int) + 1 = ((j + 1 : Nat) : Int) by omega, this]
        unfold fPa_matchAt_77
        have eb : bs f a mo (j + 1) = if (bs f a mo j).1 < ml f a (j + 1) mo 0 then (ml f a (j + 1) mo 0, j + 1) else bs f a mo j := rfl
        by_cases c2 : (bs f a mo j).1 < ml f a (j + 1) mo 0
        · rw [if_pos c2] at eb
          rw [mlt_t ⟨by omega, by omega⟩ ⟨by omega, by omega⟩ (by omega), mput_t]
          have ih := match22 hs hr hmo hmo17 hfr k fu (j + 1) (st M 12 8 ((j + 1 : Nat) : Int)) (by omega) (by omega) ⟨fun p hp => by rw [st_ne hp]; exact hF.1 p hp, fun q hq => by rw [st_off hq]; exact hF.2 q hq⟩ h13 h5 (by rw [st_same, eb])
          rw [eb] at ih
          exact ih
        · rw [if_neg c2] at eb
          rw [mlt_f ⟨by omega, by omega⟩ ⟨by omega, by omega⟩ (by omega)]
          have ih := match22 hs hr hmo hmo17 hfr k fu (j + 1) M (by omega) (by omega) hF h13 h5 (by rw [eb]; exact h8)
          rw [eb] at ih
          exact ih
      · have e : bs f a mo (a - fr) = bs f a mo j := by
          have := bs_stop (f := f) (a := a) (mo := mo) (D := j) (by omega) (k + 1)
          rw [show j + (k + 1) = a - fr by omega] at this
          exact this
        rw [mlt_f ⟨by omega, by omega⟩ ⟨by omega, by omega⟩ (by omega), e98 e]
        exact ⟨M, rfl, hF, by rw [e]; exact h8⟩
theorem match_X (hs : s ≤ 60) (hr : ∀ k, k < s → 0 ≤ f k ∧ f k ≤ 255) (ha : a ≤ s) (hfr : fr ≤ a) (h13 : ∀ k, k < s → M 13 k = f k) (h3 : M 12 3 = (s : Int)) (h5 : M 12 5 = (fr : Int)) : ∃ M', fPa_matchAt (a : Int) M = some ((mt f s a fr : Int), M') ∧ FdX M M' ∧ M' 12 8 = (md f s a fr : Int) := by
  have hm : min 17 (s - a) ≤ 17 := Nat.min_le_left _ _
  have hm' : min 17 (s - a) ≤ s - a := Nat.min_le_right _ _
  have e : (if (s : Int) - (a : Int) < 17 then (s : Int) - (a : Int) else 17) = ((min 17 (s - a) : Nat) : Int) := by split <;> omega
  unfold fPa_matchAt mt md
  rw [h3, mmin_t ⟨⟨by decide, by decide⟩, ⟨by omega, by omega⟩⟩, mput_t, e]
  exact match22 (M0 := M) hs hr (mo := min 17 (s - a)) (by omega) hm hfr (a - fr) FU 0 (st M 12 8 0) (by omega) (by unfold FU; omega) ⟨fun p hp => st_ne hp, fun q hq => st_off hq⟩ h13 h5 st_same
/-! the reference's match -/
theorem ml_vR {K : Int → Int → Int → Int → Int → Mm → Option (Int × Mm)} {y3 y4 : Int} {n d : Nat} (hn : n < 16) (hc : M 3 = fun k => M 3 k) (hf : ∀ k, k < s → M 3 (60 * n + k) = f k) (h4 : M 4 n = (s : Int)) (hs : s ≤ 60) (hr : ∀ k, k < s → 0 ≤ f k ∧ f k ≤ 255) (hd : 1 ≤ d ∧ d ≤ a) (ha : a ≤ s) : ∀ (k fu m : Nat), m + k = min 17 (s - a) → k < fu → fR_match_17 K fu (n : Int) (a : Int) y3 y4 (d : Int) (m : Int) M = fR_match_77 K (n : Int) (a : Int) y3 y4 (d : Int) ((ml f a d k m : Nat) : Int) M
  | _, 0, _, _, hf => absurd hf (Nat.not_lt_zero _)
  | 0, fu + 1, m, hm, _ => by
    unfold fR_match_17 ml
    by_cases c : m < 17
    · rw [mlt_t ⟨by omega, by omega⟩ ⟨by decide, by decide⟩ (by omega), mrd_t ⟨by omega, by omega⟩, show (((n : Nat) : Int)).toNat = n by omega, h4, mlt_f ⟨by omega, by omega⟩ ⟨by omega, by omega⟩ (by omega)]
    · rw [mlt_f ⟨by omega, by omega⟩ ⟨by decide, by decide⟩ (by omega)]
  | k + 1, fu + 1, m, hm, hfu => by
    have q1 := hr (a + m) (by omega)
    have q2 := hr (a + m - d) (by omega)
    rw [fR_match_17]
    unfold ml
    rw [mlt_t ⟨by omega, by omega⟩ ⟨by decide, by decide⟩ (by omega), mrd_t ⟨by omega, by omega⟩, show (((n : Nat) : Int)).toNat = n by omega, h4, mlt_t ⟨by omega, by omega⟩ ⟨by omega, by omega⟩ (by omega), mrd_t ⟨by omega, by omega⟩, mrd_t ⟨by omega, by omega⟩, show (60 * (n : Int) + (a : Int) + (m : Int)).toNat = 60 * n + (a + m) by omega, show (60 * (n : Int) + (a : Int) + (m : Int) - (d : Int)).toNat = 60 * n + (a + m - d) by omega, hf _ (by omega), hf _ (by omega)]
    by_cases c : f (a + m) = f (a + m - d)
    · rw [meq_t (rB q1) (rB q2) c, if_pos c, show (m : Int) + 1 = ((m + 1 : Nat) : Int) by omega]
      exact ml_vR hn hc hf h4 hs hr hd ha k fu (m + 1) (by omega) (by omega)
    · rw [meq_f (rB q1) (rB q2) c, if_neg c]
theorem match6 {n : Nat} (hn : n < 16) (hs : s ≤ 60) (hr : ∀ k, k < s → 0 ≤ f k ∧ f k ≤ 255) (ha : a ≤ s) (hfr : fr ≤ a) {M0 : Mm} : ∀ (k fu j : Nat) (M : Mm), j + k = a - fr → k < fu → FdR M0 M → (∀ k, k < s → M0 3 (60 * n + k) = f k) → M0 4 n = (s : Int) → ((bs f a (min 17 (s - a)) j).2 ≠ 0 → M 0 15 = ((bs f a (min 17 (s - a)) j).2 : Int)) → ∃ M', fR_match_6 fu (n : Int) (a : Int) (fr : Int) ((bs f a (min 17 (s - a)) j).1 : Int) ((j : Int) + 1) M = some (((if (bs f a (min 17 (s - a)) (a - fr)).2 = 0 then 0 else (bs f a (min 17 (s - a)) (a - fr)).1 : Nat) : Int), M') ∧ FdR M0 M' ∧ ((bs f a (min 17 (s - a)) (a - fr)).2 ≠ 0 → M' 0 15 = ((bs f a (min 17 (s - a)) (a - fr)).2 : Int))
  | _, 0, _, _, _, hf, _, _, _, _ => absurd hf (Nat.not_lt_zero _)
  | k, fu + 1, j, M, hj, hfu, hF, h3, h4, h15 => by
    have e4 : M 4 n = (s : Int) := by rw [hF.1 4 (by decide)]; exact h4
    have e3 : ∀ k, k < s → M 3 (60 * n + k) = f k := fun k hk => by rw [hF.1 3 (by decide)]; exact h3 k hk
    have hb := bs_inv (f := f) (a := a) (mo := min 17 (s - a)) j
    have hm : min 17 (s - a) ≤ 17 := Nat.min_le_left _ _
    rw [fR_match_6]
    cases k with
    | zero =>
      have ej : a - fr = j := by omega
      rw [mlt_t ⟨by omega, by omega⟩ ⟨by omega, by omega⟩ (by omega), ej]
      refine ⟨M, ?_, hF, h15⟩
      by_cases c : (bs f a (min 17 (s - a)) j).2 = 0
      · rw [mlt_f ⟨by decide, by decide⟩ ⟨by omega, by omega⟩ (by omega), if_pos c]; rfl
      · rw [mlt_t ⟨by decide, by decide⟩ ⟨by omega, by omega⟩ (by omega), if_neg c]
    | succ k =>
      have hml := ml_r (f := f) (a := a) (d := j + 1) (min 17 (s - a)) 0
      have := ml_vR (K := fR_match_6 fu) (y3 := (fr : Int)) (y4 := ((bs f a (min 17 (s - a)) j).1 : Int)) (d := j + 1) hn rfl e3 e4 hs hr ⟨by omega, by omega⟩ ha (min 17 (s - a)) FU 0 (by omega) (by unfold FU; omega)
      rw [show ((0 : Nat) : Int) = 0 from rfl] at this
      rw [mlt_f ⟨by omega, by omega⟩ ⟨by omega, by omega⟩ (by omega), show (j : Int) + 1 = ((j + 1 : Nat) : Int) by omega, this]
      unfold fR_match_77 fR_match_94
      have eb : bs f a (min 17 (s - a)) (j + 1) = if (bs f a (min 17 (s - a)) j).1 < ml f a (j + 1) (min 17 (s - a)) 0 then (ml f a (j + 1) (min 17 (s - a)) 0, j + 1) else bs f a (min 17 (s - a)) j := rfl
      by_cases c2 : (bs f a (min 17 (s - a)) j).1 < ml f a (j + 1) (min 17 (s - a)) 0
      · rw [if_pos c2] at eb
        rw [mlt_t ⟨by omega, by omega⟩ ⟨by omega, by omega⟩ (by omega), mput_t, mlt_t ⟨by omega, by omega⟩ ⟨by omega, by omega⟩ (by omega)]
        have ih := match6 hn hs hr ha hfr k fu (j + 1) (st M 0 15 ((j + 1 : Nat) : Int)) (by omega) (by omega) ⟨fun p hp => by rw [st_ne hp]; exact hF.1 p hp, fun q hq => by rw [st_off hq]; exact hF.2 q hq⟩ h3 h4 (fun _ => by rw [st_same, eb])
        rw [eb] at ih
        exact ih
      · rw [if_neg c2] at eb
        rw [mlt_f ⟨by omega, by omega⟩ ⟨by omega, by omega⟩ (by omega), mput_t, mlt_f ⟨by omega, by omega⟩ ⟨by omega, by omega⟩ (by omega)]
        have ih := match6 hn hs hr ha hfr k fu (j + 1) (st M 0 15 (M 0 15)) (by omega) (by omega) ⟨fun p hp => by rw [st_ne hp]; exact hF.1 p hp, fun q hq => by rw [st_off hq]; exact hF.2 q hq⟩ h3 h4 (by rw [eb, st_same]; exact h15)
        rw [eb] at ih
        exact ih
theorem match_R {n : Nat} (hn : n < 16) (hs : s ≤ 60) (hr : ∀ k, k < s → 0 ≤ f k ∧ f k ≤ 255) (ha : a ≤ s) (hfr : fr ≤ a) (h3 : ∀ k, k < s → M 3 (60 * n + k) = f k) (h4 : M 4 n = (s : Int)) : ∃ M', fR_match (n : Int) (a : Int) (fr : Int) M = some ((mt f s a fr : Int), M') ∧ FdR M M' ∧ (mt f s a fr ≠ 0 → M' 0 15 = (md f s a fr : Int)) := by
  obtain ⟨M', e1, e2, e3⟩ := match6 (M0 := M) hn hs hr ha hfr (a - fr) FU 0 M (by omega) (by unfold FU; omega) ⟨fun _ _ => rfl, fun _ _ => rfl⟩ h3 h4 (fun z => absurd rfl z)
  refine ⟨M', e1, e2, fun z => e3 (fun w => z ?_)⟩
  unfold mt
  rw [if_pos w]
end B1
