/-! append: both sides alike -/
section T11
variable {X R : Mm} {x1 x2 : Int}
abbrev FlR (R : Mm) (x1 x2 : Int) : Prop := (0 ≤ x1 ∧ x1 < R 0 1 ∧ R 1 x1.toNat = 1) ∧ 0 ≤ x2 ∧ x2 ≤ 255
abbrev LkR (R : Mm) (x1 x2 : Int) : Prop := (0 ≤ x1 ∧ x1 < R 0 1 ∧ R 1 x1.toNat = 2) ∧ 97 ≤ x2 ∧ x2 ≤ 122
theorem append_s (h : RT X R) (hx1 : rI x1) (hx2 : rI x2) : fX_append x1 x2 X = (if FlR R x1 x2 then fX_append_72 x1 x2 1 X else if LkR R x1 x2 then fX_append_72 x1 x2 0 X else some (1, 0, X)) ∧ fR_append x1 x2 R = (if FlR R x1 x2 then fR_append_63 x1 x2 1 R else if LkR R x1 x2 then fR_append_63 x1 x2 0 R else fR_append_87 x1 x2 1 R) := by
  have r1 : rI 1 := ⟨by decide, by decide⟩
  have hXs : ∀ z0 : Int, z0 = 0 ∨ z0 = 1 → fX_append_28 x1 x2 z0 X = if z0 = 1 then fX_append_72 x1 x2 1 X else if LkR R x1 x2 then fX_append_72 x1 x2 0 X else some (1, 0, X) := fun z0 hz => by
    unfold fX_append_28
    rw [mcn_e (h.nodeX hx1 ⟨by decide, by decide⟩)]
    have hf : ∀ z1 : Int, z1 = 0 ∨ z1 = 1 → fX_append_53 x1 x2 z0 z1 X = if z0 = 1 then fX_append_72 x1 x2 1 X else if z1 = 1 then fX_append_72 x1 x2 0 X else some (1, 0, X) := fun z1 hz1 => by
      unfold fX_append_53
      rcases hz with rfl | rfl
      · rw [meq_t rI_0 rI_0 rfl, if_neg (by decide)]
        rcases hz1 with rfl | rfl
        · rw [meq_t rI_0 rI_0 rfl, if_neg (by decide)]
        · rw [meq_f r1 rI_0 (by decide), if_pos rfl]
      · rw [meq_f r1 rI_0 (by decide), if_pos rfl]
    unfold fX_append_52
    by_cases hk : 0 ≤ x1 ∧ x1 < R 0 1 ∧ R 1 x1.toNat = 2
    · rw [if_pos hk, meq_f r1 rI_0 (by decide), mcn_e (isLetter_vX hx2)]
      by_cases hl : 97 ≤ x2 ∧ x2 ≤ 122
      · rw [if_pos hl, meq_f r1 rI_0 (by decide), hf 1 (Or.inr rfl), if_pos rfl, if_pos (show LkR R x1 x2 from ⟨hk, hl⟩)]
      · rw [if_neg hl, meq_t rI_0 rI_0 rfl, hf 0 (Or.inl rfl), if_neg (show ¬ (0 : Int) = 1 by decide), if_neg (show ¬ LkR R x1 x2 from fun z => hl z.2)]
    · rw [if_neg hk, meq_t rI_0 rI_0 rfl, hf 0 (Or.inl rfl), if_neg (show ¬ (0 : Int) = 1 by decide), if_neg (show ¬ LkR R x1 x2 from fun z => hk z.1)]
  have hRs : ∀ z0 : Int, z0 = 0 ∨ z0 = 1 → fR_append_25 x1 x2 z0 R = if z0 = 1 then fR_append_63 x1 x2 1 R else if LkR R x1 x2 then fR_append_63 x1 x2 0 R else fR_append_87 x1 x2 1 R := fun z0 hz => by
    unfold fR_append_25
    rw [mcn_e (h.nodeR hx1 ⟨by decide, by decide⟩)]
    have hf : ∀ z1 : Int, z1 = 0 ∨ z1 = 1 → fR_append_47 x1 x2 z0 z1 R = if z0 = 1 then fR_append_63 x1 x2 1 R else if z1 = 1 then fR_append_63 x1 x2 0 R else fR_append_87 x1 x2 1 R := fun z1 hz1 => by
      unfold fR_append_47
      rcases hz with rfl | rfl
      · rw [meq_t rI_0 rI_0 rfl, if_neg (by decide)]
        rcases hz1 with rfl | rfl
        · rw [meq_t rI_0 rI_0 rfl, if_neg (by decide)]
        · rw [meq_f r1 rI_0 (by decide), if_pos rfl]
      · rw [meq_f r1 rI_0 (by decide), if_pos rfl]
    unfold fR_append_46
    by_cases hk : 0 ≤ x1 ∧ x1 < R 0 1 ∧ R 1 x1.toNat = 2
    · rw [if_pos hk, meq_f r1 rI_0 (by decide), mcn_e (isLetter_vR hx2)]
      by_cases hl : 97 ≤ x2 ∧ x2 ≤ 122
      · rw [if_pos hl, meq_f r1 rI_0 (by decide), hf 1 (Or.inr rfl), if_pos rfl, if_pos (show LkR R x1 x2 from ⟨hk, hl⟩)]
      · rw [if_neg hl, meq_t rI_0 rI_0 rfl, hf 0 (Or.inl rfl), if_neg (show ¬ (0 : Int) = 1 by decide), if_neg (show ¬ LkR R x1 x2 from fun z => hl z.2)]
    · rw [if_neg hk, meq_t rI_0 rI_0 rfl, hf 0 (Or.inl rfl), if_neg (show ¬ (0 : Int) = 1 by decide), if_neg (show ¬ LkR R x1 x2 from fun z => hk z.1)]
  unfold fX_append fR_append
  rw [mcn_e (h.nodeX hx1 r1), mcn_e (h.nodeR hx1 r1)]
  unfold fX_append_27 fR_append_24
  rw [hXs 0 (Or.inl rfl), hXs 1 (Or.inr rfl), hRs 0 (Or.inl rfl), hRs 1 (Or.inr rfl), if_neg (show ¬ (0 : Int) = 1 by decide), if_neg (show ¬ (0 : Int) = 1 by decide), if_pos rfl, if_pos rfl]
  by_cases hk : 0 ≤ x1 ∧ x1 < R 0 1 ∧ R 1 x1.toNat = 1
  · rw [if_pos hk, meq_f r1 rI_0 (by decide), meq_f r1 rI_0 (by decide)]
    by_cases h1 : x2 < 0
    · rw [mlt_t hx2 rI_0 h1, mlt_t hx2 rI_0 h1, if_neg (show ¬ FlR R x1 x2 from fun z => by omega), if_neg (show ¬ FlR R x1 x2 from fun z => by omega)]
      exact ⟨rfl, rfl⟩
    · rw [mlt_f hx2 rI_0 h1, mlt_f hx2 rI_0 h1]
      by_cases h2 : 255 < x2
      · rw [mlt_t ⟨by decide, by decide⟩ hx2 h2, mlt_f hx2 ⟨by decide, by decide⟩ (by omega), if_neg (show ¬ FlR R x1 x2 from fun z => by omega), if_neg (show ¬ FlR R x1 x2 from fun z => by omega)]
        exact ⟨rfl, rfl⟩
      · rw [mlt_f ⟨by decide, by decide⟩ hx2 h2, mlt_t hx2 ⟨by decide, by decide⟩ (by omega), if_pos (show FlR R x1 x2 from ⟨hk, by omega, by omega⟩), if_pos (show FlR R x1 x2 from ⟨hk, by omega, by omega⟩)]
        exact ⟨rfl, rfl⟩
  · rw [if_neg hk, meq_t rI_0 rI_0 rfl, meq_t rI_0 rI_0 rfl, if_neg (show ¬ FlR R x1 x2 from fun z => hk z.1), if_neg (show ¬ FlR R x1 x2 from fun z => hk z.1)]
    exact ⟨rfl, rfl⟩
theorem RT.extend (h : RT X R) {n : Nat} {b : Int} (hn : (n : Int) < R 0 1) (hb : 0 ≤ b ∧ b ≤ 255) (h0 : R 4 n < 60) (h4 : R 1 n = 2 → R 4 n < 4) : RT (st (st X 5 (60 * n + (R 4 n).toNat) b) 4 n (R 4 n + 1)) (st (st R 3 (60 * n + (R 4 n).toNat) b) 4 n (R 4 n + 1)) := by
  obtain ⟨g1, g2, g3, g4, g5, g6⟩ := h
  refine ⟨by simpa [st] using g1, fun i hi => by simpa [st] using g2 i hi, fun i hi => ?_, fun i hi => ?_, fun i hi => ?_, fun i hi => by simpa [st] using g6 i hi⟩
  · have e2 : (st (st R 3 (60 * n + (R 4 n).toNat) b) 4 n (R 4 n + 1)) 2 = R 2 := by rw [st_ne (by decide), st_ne (by decide)]
    rw [e2]
    simpa [st] using g3 i hi
  · have hq := g4 i hi
    by_cases hie : i = n
    · subst hie; simp [st]; omega
    · simpa [st, hie] using hq
  · have hq := g5 i hi
    by_cases hie : i = 60 * n + (R 4 n).toNat
    · subst hie; simp [st]; omega
    · simpa [st, hie] using hq
theorem append_n (h : RT X R) {z lim : Int} (hz : (z = 1 ∧ lim = 60) ∨ (z = 0 ∧ lim = 4)) (hx : 0 ≤ x1 ∧ x1 < R 0 1) (hb : 0 ≤ x2 ∧ x2 ≤ 255) (hl : R 4 x1.toNat ≤ lim) (hk : R 1 x1.toNat = 2 → lim = 4) :
    (R 4 x1.toNat = lim → fX_append_72 x1 x2 z X = some (2, 0, X) ∧ fR_append_63 x1 x2 z R = some (0, st R 0 0 2)) ∧
    (R 4 x1.toNat < lim → ∃ X' R', fX_append_72 x1 x2 z X = some (0, R 4 x1.toNat + 1, X') ∧ fR_append_63 x1 x2 z R = some (R 4 x1.toNat + 1, R') ∧ R' 0 0 = 0 ∧ RT X' R' ∧ TS X X' R R') := by
  have r1 : rI 1 := ⟨by decide, by decide⟩
  have h0 := h.1
  have hs := h.2.2.2.1 x1.toNat (by omega)
  have eX : fX_append_72 x1 x2 z X = fX_append_90 x1 x2 (R 4 x1.toNat) lim X := by
    unfold fX_append_72 fTr_contentSize
    rw [mrd_t ⟨by omega, by omega⟩, mcn_t, hs.1]
    rcases hz with ⟨rfl, rfl⟩ | ⟨rfl, rfl⟩
    · rw [meq_f r1 rI_0 (by decide)]
    · rw [meq_t rI_0 rI_0 rfl]
  have eR : fR_append_63 x1 x2 z R = fR_append_79 x1 x2 (R 4 x1.toNat) lim R := by
    unfold fR_append_63
    rw [mrd_t ⟨by omega, by omega⟩]
    rcases hz with ⟨rfl, rfl⟩ | ⟨rfl, rfl⟩
    · rw [meq_f r1 rI_0 (by decide)]
    · rw [meq_t rI_0 rI_0 rfl]
  rw [eX, eR]
  unfold fX_append_90 fR_append_79
  refine ⟨fun he => ?_, fun he => ?_⟩
  · rw [mlt_f ⟨by omega, by omega⟩ ⟨by omega, by omega⟩ (by omega), meq_t ⟨by omega, by omega⟩ ⟨by omega, by omega⟩ he]
    unfold fR_append_87
    rw [mput_t, st_same, mlt_t rI_0 ⟨by decide, by decide⟩ (by decide)]
    exact ⟨rfl, rfl⟩
  · have hE := (h.code 0).extend (n := x1.toNat) (b := x2) (by rw [st_off (by decide)]; omega) hb (by rw [st_ne (by decide)]; omega) (by rw [st_ne (by decide), st_ne (by decide)]; omega)
    refine ⟨_, _, ?_, ?_, ?_, hE, ?_⟩
    · unfold fTr_extend
      rw [mlt_t ⟨by omega, by omega⟩ ⟨by omega, by omega⟩ (by omega), mrd_t ⟨by omega, by omega⟩, mwr_t ⟨by omega, by omega⟩, mrd_t ⟨by omega, by omega⟩, mwr_t ⟨by omega, by omega⟩, mrd_t ⟨by omega, by omega⟩, mcn_t, st_same, st_ne (k := 5) (k' := 4) (by decide), hs.1, st_ne (k := 0) (k' := 4) (by decide), show (x1 * 60 + R 4 x1.toNat).toNat = 60 * x1.toNat + (R 4 x1.toNat).toNat by omega]
    · unfold fR_append_87
      rw [meq_f ⟨by omega, by omega⟩ ⟨by omega, by omega⟩ (by omega), mput_t, st_same, mlt_f rI_0 rI_0 (by decide), mrd_t ⟨by omega, by omega⟩, st_ne (k := 0) (k' := 4) (by decide), mwr_t ⟨by omega, by omega⟩, mrd_t ⟨by omega, by omega⟩, mwr_t ⟨by omega, by omega⟩, mrd_t ⟨by omega, by omega⟩, st_same, st_ne (k := 3) (k' := 4) (by decide), st_ne (k := 0) (k' := 4) (by decide), show (60 * x1 + R 4 x1.toNat).toNat = 60 * x1.toNat + (R 4 x1.toNat).toNat by omega]
    · rw [st_ne (by decide), st_ne (by decide), st_same]
    · refine ⟨fun p hp => ?_, fun p hp => ?_, fun k h0 h1 => ?_⟩
      · rw [st_ne (by omega), st_ne (by omega)]
      · rw [st_ne (by omega), st_ne (by omega), st_ne (by omega)]
      · rw [st_ne (by decide), st_ne (by decide), st_off h0]
end T11
