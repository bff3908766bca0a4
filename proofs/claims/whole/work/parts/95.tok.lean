/-! Building: a token, on both sides -/
theorem gd_ap (l : List Int) (v : Int) (k : Nat) : (l ++ [v]).getD k 0 = if k = l.length then v else l.getD k 0 := by
  by_cases h : k ≤ l.length
  · exact gd_app l v k h
  · rw [if_neg (by omega), List.getD_eq_getElem?_getD, List.getD_eq_getElem?_getD, List.getElem?_eq_none (by simp; omega), List.getElem?_eq_none (by omega)]
def tokl (f : Nat → Int) (a l m ds : Nat) (o : List Int) : List Int := if 0 < m then lits f a l (o ++ [((16 * l + (m - 2) : Nat) : Int)]) ++ [(ds : Int)] else lits f a l (o ++ [((16 * l : Nat) : Int)])
theorem tokl_len {f : Nat → Int} {a l m ds : Nat} {o : List Int} : (tokl f a l m ds o).length = o.length + 1 + l + (if 0 < m then 1 else 0) := by
  unfold tokl
  by_cases c : 0 < m
  · rw [if_pos c, if_pos c, List.length_append, lits_len, List.length_append]; simp
  · rw [if_neg c, if_neg c, lits_len, List.length_append]; simp
def XC (M : Mm) (c : Nat) (o : List Int) : Prop := ∀ j, j < 16 → M 14 (16 * c + j) = o.getD j 0
def RC (M : Mm) (c : Nat) (o : List Int) : Prop := ∀ j, j < 16 → M 11 (16 * c + j) = o.getD j 0
/-- what a token leaves as it was -/
def FtX (c : Nat) (M M' : Mm) : Prop := (∀ p, p ≠ 12 → p ≠ 14 → M' p = M p) ∧ (∀ k, k ≠ 6 → k ≠ 7 → k ≠ 8 → M' 12 k = M 12 k) ∧ ∀ j, j < 16 * c ∨ 16 * c + 16 ≤ j → M' 14 j = M 14 j
def FtR (c : Nat) (M M' : Mm) : Prop := (∀ p, p ≠ 0 → p ≠ 11 → M' p = M p) ∧ (∀ k, k ≠ 14 → k ≠ 15 → M' 0 k = M 0 k) ∧ ∀ j, j < 16 * c ∨ 16 * c + 16 ≤ j → M' 11 j = M 11 j
theorem FtX.tr {c : Nat} {M M' M'' : Mm} (h : FtX c M M') (h' : FtX c M' M'') : FtX c M M'' := ⟨fun p a b => (h'.1 p a b).trans (h.1 p a b), fun k a b d => (h'.2.1 k a b d).trans (h.2.1 k a b d), fun j a => (h'.2.2 j a).trans (h.2.2 j a)⟩
theorem FtR.tr {c : Nat} {M M' M'' : Mm} (h : FtR c M M') (h' : FtR c M' M'') : FtR c M M'' := ⟨fun p a b => (h'.1 p a b).trans (h.1 p a b), fun k a b => (h'.2.1 k a b).trans (h.2.1 k a b), fun j a => (h'.2.2 j a).trans (h.2.2 j a)⟩
theorem FtX.rf {c : Nat} {M : Mm} : FtX c M M := ⟨fun _ _ _ => rfl, fun _ _ _ _ => rfl, fun _ _ => rfl⟩
theorem FtR.rf {c : Nat} {M : Mm} : FtR c M M := ⟨fun _ _ _ => rfl, fun _ _ _ => rfl, fun _ _ => rfl⟩
section B2
variable {M : Mm} {f : Nat → Int} {s a c : Nat}
theorem putB (hc : c ≤ 10) {o : List Int} (h4 : M 12 4 = (c : Int)) (h7 : M 12 7 = (o.length : Int)) (hx : XC M c o) (ho : o.length < 16) (v : Int) : ∃ M', fPa_putByte v M = some (0, M') ∧ XC M' c (o ++ [v]) ∧ M' 12 7 = ((o ++ [v]).length : Int) ∧ FtX c M M' ∧ M' 12 6 = M 12 6 ∧ M' 12 8 = M 12 8 := by
  unfold fPa_putByte
  rw [h4, h7, mwr_t ⟨by omega, by omega⟩, mput_t, show ((c : Int) * 16 + (o.length : Int)).toNat = 16 * c + o.length by omega, st_ne (k := 14) (k' := 12) (by decide), h7]
  refine ⟨_, rfl, fun j hj => ?_, ?_, ⟨fun p h12 h14 => ?_, fun k h6 h7 h8 => ?_, fun j hj => ?_⟩, ?_, ?_⟩
  · rw [st_ne (k := 12) (k' := 14) (by decide), gd_ap]
    by_cases e : j = o.length
    · rw [if_pos e, e, st_same]
    · rw [if_neg e, st_off (by omega)]; exact hx j hj
  · rw [st_same]; simp
  · rw [st_ne h12, st_ne h14]
  · rw [st_off h7, st_ne (by decide)]
  · rw [st_ne (by decide), st_off (by omega)]
  · rw [st_off (by decide), st_ne (by decide)]
  · rw [st_off (by decide), st_ne (by decide)]
theorem put23 (hc : c ≤ 10) (hs : s ≤ 60) {l m ds : Nat} (hm : m ≤ 17) (hl : a + l ≤ s) : ∀ (k fu i : Nat) (o : List Int) (M : Mm), i + k = l → k < fu → M 12 4 = (c : Int) → M 12 6 = (a : Int) → M 12 7 = (o.length : Int) → (0 < m → M 12 8 = (ds : Int)) → (∀ k, k < s → M 13 k = f k) → XC M c o → o.length + k + (if 0 < m then 1 else 0) ≤ 16 → ∃ M', fPa_putToken_23 fu (l : Int) (m : Int) (i : Int) M = some (0, M') ∧ XC M' c (if 0 < m then lits f (a + i) k o ++ [(ds : Int)] else lits f (a + i) k o) ∧ M' 12 7 = ((o.length + k + (if 0 < m then 1 else 0) : Nat) : Int) ∧ M' 12 6 = ((a + l + m : Nat) : Int) ∧ FtX c M M'
  | _, 0, _, _, _, _, hf, _, _, _, _, _, _, _ => absurd hf (Nat.not_lt_zero _)
  | 0, fu + 1, i, o, M, hi, _, h4, h6, h7, h8, h13, hx, ho => by
    rw [fPa_putToken_23]
    unfold lits
    rw [mlt_f ⟨by omega, by omega⟩ ⟨by omega, by omega⟩ (by omega)]
    by_cases cm : 0 < m
    · rw [if_pos cm] at ho ⊢
      rw [if_pos cm]
      obtain ⟨M1, e1, e2, e3, e4, e5, e6⟩ := putB hc h4 h7 hx (by omega) (M 12 8)
      rw [h8 cm] at e1 e2 e3
      unfold fPa_putToken_61
      rw [mlt_t rI_0 ⟨by omega, by omega⟩ (by omega), h8 cm, mcn_e e1, mput_t, e5, h6]
      refine ⟨_, rfl, fun j hj => ?_, ?_, ?_, e4.tr ⟨fun p a b => st_ne a, fun k a b d => st_off a, fun j hj => by rw [st_ne (by decide)]⟩⟩
      · rw [st_ne (by decide)]; exact e2 j hj
      · rw [st_off (by decide), e3]; simp
      · rw [st_same]; omega
    · rw [if_neg cm] at ho ⊢
      rw [if_neg cm]
      unfold fPa_putToken_61
      rw [mlt_f rI_0 ⟨by omega, by omega⟩ (by omega), mput_t, h6]
      refine ⟨_, rfl, fun j hj => ?_, ?_, ?_, fun p a b => st_ne a, fun k a b d => st_off a, fun j hj => by rw [st_ne (by decide)]⟩
      · rw [st_ne (by decide)]; exact hx j hj
      · rw [st_off (by decide), h7]; omega
      · rw [st_same]; omega
  | k + 1, fu + 1, i, o, M, hi, hf, h4, h6, h7, h8, h13, hx, ho => by
    obtain ⟨M1, e1, e2, e3, e4, e5, e6⟩ := putB hc h4 h7 hx (by omega) (f (a + i))
    have ih := put23 hc hs hm hl k fu (i + 1) (o ++ [f (a + i)]) M1 (by omega) (by omega) ((e4.2.1 4 (by decide) (by decide) (by decide)).trans h4) (e5.trans h6) e3 (fun z => e6.trans (h8 z)) (fun k hk => by rw [e4.1 13 (by decide) (by decide)]; exact h13 k hk) e2 (by simp; omega)
    obtain ⟨M', g1, g2, g3, g4, g5⟩ := ih
    rw [fPa_putToken_23]
    unfold lits
    rw [mlt_t ⟨by omega, by omega⟩ ⟨by omega, by omega⟩ (by omega), h6, mrd_t ⟨by omega, by omega⟩, show ((a : Int) + (i : Int)).toNat = a + i by omega, h13 _ (by omega), mcn_e e1, show (i : Int) + 1 = ((i + 1 : Nat) : Int) by omega]
    refine ⟨M', g1, ?_, ?_, g4, e4.tr g5⟩
    · rw [show a + i + 1 = a + (i + 1) by omega]; exact g2
    · rw [g3]; simp; omega
theorem or16 (l b : Nat) (h : b < 16) : (l * 16 ||| b) = 16 * l + b := by
  have := Nat.two_pow_add_eq_or_of_lt (i := 4) (b := b) h l
  rw [show (2 ^ 4 : Nat) = 16 from rfl] at this
  rw [Nat.mul_comm l 16]
  exact this.symm
theorem putT_X (hc : c ≤ 10) (hs : s ≤ 60) {l m ds : Nat} {o : List Int} (hm : m = 0 ∨ (3 ≤ m ∧ m ≤ 17)) (hl : a + l ≤ s) (h4 : M 12 4 = (c : Int)) (h6 : M 12 6 = (a : Int)) (h7 : M 12 7 = (o.length : Int)) (h8 : 0 < m → M 12 8 = (ds : Int)) (h13 : ∀ k, k < s → M 13 k = f k) (hx : XC M c o) (ho : o.length + 1 + l + (if 0 < m then 1 else 0) ≤ 16) : ∃ M', fPa_putToken (l : Int) (m : Int) M = some (0, M') ∧ XC M' c (tokl f a l m ds o) ∧ M' 12 7 = ((tokl f a l m ds o).length : Int) ∧ M' 12 6 = ((a + l + m : Nat) : Int) ∧ FtX c M M' := by
  have key : ∀ v : Int, v = ((16 * l + (if 0 < m then m - 2 else 0) : Nat) : Int) → ∃ M', (mcn (fPa_putByte v M) fun _ M8 => fPa_putToken_23 FU (l : Int) (m : Int) 0 M8) = some (0, M') ∧ XC M' c (tokl f a l m ds o) ∧ M' 12 7 = ((tokl f a l m ds o).length : Int) ∧ M' 12 6 = ((a + l + m : Nat) : Int) ∧ FtX c M M' := fun v hv => by
    obtain ⟨M1, e1, e2, e3, e4, e5, e6⟩ := putB hc h4 h7 hx (by omega) v
    obtain ⟨M', g1, g2, g3, g4, g5⟩ := put23 (f := f) (ds := ds) hc hs (by omega) hl l FU 0 (o ++ [v]) M1 (by omega) (by unfold FU; omega) ((e4.2.1 4 (by decide) (by decide) (by decide)).trans h4) (e5.trans h6) e3 (fun z => e6.trans (h8 z)) (fun k hk => by rw [e4.1 13 (by decide) (by decide)]; exact h13 k hk) e2 (by simp; omega)
    rw [mcn_e e1]
    refine ⟨M', g1, ?_, ?_, g4, e4.tr g5⟩
    · unfold tokl
      by_cases cm : 0 < m
      · rw [if_pos cm] at g2 hv ⊢; rw [← hv]; exact g2
      · rw [if_neg cm] at g2 hv ⊢; rw [Nat.add_zero] at hv; rw [← hv]; exact g2
    · rw [g3, tokl_len]; simp
  unfold fPa_putToken
  by_cases cm : 0 < m
  · rw [mlt_t rI_0 ⟨by omega, by omega⟩ (by omega), mlor_t ⟨by omega, by omega, by omega, by omega⟩]
    refine key _ ?_
    rw [if_pos cm, show ((l : Int) * 16).toNat = l * 16 by omega, show ((m : Int) - 3 + 1).toNat = m - 2 by omega, or16 _ _ (by omega)]
  · rw [mlt_f rI_0 ⟨by omega, by omega⟩ (by omega), mlor_t ⟨by omega, by omega, by omega, by omega⟩]
    refine key _ ?_
    rw [if_neg cm, show ((l : Int) * 16).toNat = l * 16 by omega, show (0 : Int).toNat = 0 from rfl, or16 _ _ (by omega)]
theorem tok33 (hc : c ≤ 11) (hs : s ≤ 60) {n l m ds us : Nat} (hn : n < 16) (hl : a + l ≤ s) (hm : m ≤ 17) : ∀ (k fu i : Nat) (o : List Int) (M : Mm), i + k = l → k < fu → M 0 14 = (us : Int) → o.length = us + 1 + i → (0 < m → M 0 15 = (ds : Int)) → (∀ k, k < s → M 3 (60 * n + k) = f k) → RC M c o → o.length + k + (if 0 < m then 1 else 0) ≤ 16 → ∃ M', fR_token_33 fu ((16 * c : Nat) : Int) (n : Int) (a : Int) (l : Int) (m : Int) (i : Int) M = some (0, M') ∧ RC M' c (if 0 < m then lits f (a + i) k o ++ [(ds : Int)] else lits f (a + i) k o) ∧ M' 0 14 = ((o.length + k + (if 0 < m then 1 else 0) : Nat) : Int) ∧ FtR c M M'
  | _, 0, _, _, _, _, hf, _, _, _, _, _, _ => absurd hf (Nat.not_lt_zero _)
  | 0, fu + 1, i, o, M, hi, _, h14, ho', h15, h3, hx, ho => by
    rw [fR_token_33]
    unfold lits
    rw [mlt_f ⟨by omega, by omega⟩ ⟨by omega, by omega⟩ (by omega), mput_t, h14]
    by_cases cm : 0 < m
    · rw [if_pos cm] at ho ⊢
      rw [if_pos cm, meq_f ⟨by omega, by omega⟩ rI_0 (by omega), st_same, st_off (by decide), h15 cm, mwr_t ⟨by omega, by omega⟩, mput_t, show (((16 * c : Nat) : Int) + ((us : Int) + (1 + (l : Int)))).toNat = 16 * c + o.length by omega, st_ne (k := 11) (k' := 0) (by decide), st_same]
      refine ⟨_, rfl, fun j hj => ?_, ?_, fun p h0 h11 => ?_, fun k h4 h5 => ?_, fun j hj => ?_⟩
      · rw [st_ne (k := 0) (k' := 11) (by decide), gd_ap]
        by_cases e : j = o.length
        · rw [if_pos e, e, st_same]
        · rw [if_neg e, st_off (by omega), st_ne (by decide)]; exact hx j hj
      · rw [st_same]; omega
      · rw [st_ne h0, st_ne h11, st_ne h0]
      · rw [st_off h4, st_ne (by decide), st_off h4]
      · rw [st_ne (by decide), st_off (by omega), st_ne (by decide)]
    · rw [if_neg cm] at ho ⊢
      rw [if_neg cm, meq_t ⟨by omega, by omega⟩ rI_0 (by omega)]
      refine ⟨_, rfl, fun j hj => ?_, ?_, fun p h0 h11 => st_ne h0, fun k h4 h5 => st_off h4, fun j hj => by rw [st_ne (by decide)]⟩
      · rw [st_ne (by decide)]; exact hx j hj
      · rw [st_same]; omega
  | k + 1, fu + 1, i, o, M, hi, hf, h14, ho', h15, h3, hx, ho => by
    have hx1 : RC (st M 11 (16 * c + o.length) (f (a + i))) c (o ++ [f (a + i)]) := fun j hj => by
      rw [gd_ap]
      by_cases e : j = o.length
      · rw [if_pos e, e, st_same]
      · rw [if_neg e, st_off (by omega)]; exact hx j hj
    have fr1 : FtR c M (st M 11 (16 * c + o.length) (f (a + i))) := ⟨fun p h0 h11 => st_ne h11, fun k h4 h5 => by rw [st_ne (by decide)], fun j hj => st_off (by omega)⟩
    obtain ⟨M', g1, g2, g3, g5⟩ := tok33 hc hs (ds := ds) (us := us) hn hl hm k fu (i + 1) (o ++ [f (a + i)]) _ (by omega) (by omega) (by rw [st_ne (by decide)]; exact h14) (by simp; omega) (fun z => by rw [st_ne (by decide)]; exact h15 z) (fun k hk => by rw [st_ne (by decide)]; exact h3 k hk) hx1 (by simp; omega)
    rw [fR_token_33]
    unfold lits
    rw [mlt_t ⟨by omega, by omega⟩ ⟨by omega, by omega⟩ (by omega), mrd_t ⟨by omega, by omega⟩, show (60 * (n : Int) + (a : Int) + (i : Int)).toNat = 60 * n + (a + i) by omega, h3 _ (by omega), h14, mwr_t ⟨by omega, by omega⟩, show (((16 * c : Nat) : Int) + (us : Int) + 1 + (i : Int)).toNat = 16 * c + o.length by omega, show (i : Int) + 1 = ((i + 1 : Nat) : Int) by omega]
    refine ⟨M', g1, ?_, ?_, fr1.tr g5⟩
    · rw [show a + i + 1 = a + (i + 1) by omega]; exact g2
    · rw [g3]; simp; omega
theorem tok_R (hc : c ≤ 11) (hs : s ≤ 60) {n l m ds : Nat} {o : List Int} (hn : n < 16) (hm : m = 0 ∨ (3 ≤ m ∧ m ≤ 17)) (hl : a + l ≤ s) (h14 : M 0 14 = (o.length : Int)) (h15 : 0 < m → M 0 15 = (ds : Int)) (h3 : ∀ k, k < s → M 3 (60 * n + k) = f k) (hx : RC M c o) (ho : o.length + 1 + l + (if 0 < m then 1 else 0) ≤ 16) : ∃ M', fR_token ((16 * c : Nat) : Int) (n : Int) (a : Int) (l : Int) (m : Int) M = some (0, M') ∧ RC M' c (tokl f a l m ds o) ∧ M' 0 14 = ((tokl f a l m ds o).length : Int) ∧ FtR c M M' := by
  have key : ∀ v : Int, v = ((16 * l + (if 0 < m then m - 2 else 0) : Nat) : Int) → ∃ M', fR_token_33 FU ((16 * c : Nat) : Int) (n : Int) (a : Int) (l : Int) (m : Int) 0 (st M 11 (16 * c + o.length) v) = some (0, M') ∧ RC M' c (tokl f a l m ds o) ∧ M' 0 14 = ((tokl f a l m ds o).length : Int) ∧ FtR c M M' := fun v hv => by
    have hx1 : RC (st M 11 (16 * c + o.length) v) c (o ++ [v]) := fun j hj => by
      rw [gd_ap]
      by_cases e : j = o.length
      · rw [if_pos e, e, st_same]
      · rw [if_neg e, st_off (by omega)]; exact hx j hj
    have fr1 : FtR c M (st M 11 (16 * c + o.length) v) := ⟨fun p h0 h11 => st_ne h11, fun k h4 h5 => by rw [st_ne (by decide)], fun j hj => st_off (by omega)⟩
    obtain ⟨M', g1, g2, g3, g5⟩ := tok33 (f := f) (m := m) hc hs (ds := ds) (us := o.length) hn hl (by omega) l FU 0 (o ++ [v]) _ (by omega) (by unfold FU; omega) (by rw [st_ne (by decide)]; exact h14) (by simp) (fun z => by rw [st_ne (by decide)]; exact h15 z) (fun k hk => by rw [st_ne (by decide)]; exact h3 k hk) hx1 (by simp; omega)
    refine ⟨M', g1, ?_, ?_, fr1.tr g5⟩
    · unfold tokl
      by_cases cm : 0 < m
      · rw [if_pos cm] at g2 hv ⊢; rw [← hv]; exact g2
      · rw [if_neg cm] at g2 hv ⊢; rw [Nat.add_zero] at hv; rw [← hv]; exact g2
    · rw [g3, tokl_len]; simp
  unfold fR_token
  rw [h14]
  by_cases cm : 0 < m
  · rw [mlt_t rI_0 ⟨by omega, by omega⟩ (by omega), mwr_t ⟨by omega, by omega⟩, show (((16 * c : Nat) : Int) + (o.length : Int)).toNat = 16 * c + o.length by omega]
    exact key _ (by rw [if_pos cm]; omega)
  · rw [mlt_f rI_0 ⟨by omega, by omega⟩ (by omega), mwr_t ⟨by omega, by omega⟩, show (((16 * c : Nat) : Int) + (o.length : Int)).toNat = 16 * c + o.length by omega]
    exact key _ (by rw [if_neg cm]; omega)
end B2
