/-! Building: packing a file, on both sides -/
def pcn (f : Nat → Int) (s : Nat) : Nat → Nat → Nat
  | 0, q => q
  | k + 1, q => if aq f s q < s then pcn f s k (q + 1) else q
theorem pcn_r {f : Nat → Int} {s : Nat} : ∀ k q, q ≤ pcn f s k q ∧ pcn f s k q ≤ q + k
  | 0, q => ⟨Nat.le_refl _, Nat.le_refl _⟩
  | k + 1, q => by
    have := pcn_r (f := f) (s := s) k (q + 1)
    unfold pcn
    split <;> omega
theorem pcn_s {f : Nat → Int} {s : Nat} : ∀ k q, (s ≤ aq f s (pcn f s k q) ∧ pcn f s (k + 1) q = pcn f s k q) ∨ (aq f s (pcn f s k q) < s ∧ pcn f s k q = q + k ∧ pcn f s (k + 1) q = q + k + 1)
  | 0, q => by
    by_cases c : aq f s q < s
    · right
      refine ⟨c, rfl, ?_⟩
      show (if aq f s q < s then q + 1 else q) = q + 0 + 1
      rw [if_pos c]
    · left
      refine ⟨by show s ≤ aq f s q; omega, ?_⟩
      show (if aq f s q < s then q + 1 else q) = q
      rw [if_neg c]
  | k + 1, q => by
    by_cases c : aq f s q < s
    · have ih := pcn_s (f := f) (s := s) k (q + 1)
      have e1 : pcn f s (k + 1) q = pcn f s k (q + 1) := by show (if aq f s q < s then _ else _) = _; rw [if_pos c]
      have e2 : pcn f s (k + 1 + 1) q = pcn f s (k + 1) (q + 1) := by show (if aq f s q < s then _ else _) = _; rw [if_pos c]
      rw [e1, e2]
      rcases ih with ⟨h1, h2⟩ | ⟨h1, h2, h3⟩
      · exact Or.inl ⟨h1, h2⟩
      · exact Or.inr ⟨h1, by omega, by omega⟩
    · have e1 : pcn f s (k + 1) q = q := by show (if aq f s q < s then _ else _) = _; rw [if_neg c]
      have e2 : pcn f s (k + 1 + 1) q = q := by show (if aq f s q < s then _ else _) = _; rw [if_neg c]
      rw [e1, e2]
      exact Or.inl ⟨by omega, rfl⟩
/-- what packing leaves as it was -/
def FpX (M M' : Mm) : Prop := ∀ p, p ≠ 12 → p ≠ 13 → p ≠ 14 → p ≠ 15 → M' p = M p
def FpR (M M' : Mm) : Prop := (∀ p, p ≠ 0 → p ≠ 11 → p ≠ 12 → M' p = M p) ∧ ∀ k, k ≠ 14 → k ≠ 15 → M' 0 k = M 0 k
def PkX (f : Nat → Int) (s : Nat) (M : Mm) (c : Nat) : Prop := ∀ q, q < c → M 15 q = (aq f s (q + 1) : Int) ∧ ∀ j, j < 16 → M 14 (16 * q + j) = (bq f s q).getD j 0
def PkR (f : Nat → Int) (s : Nat) (M : Mm) (c : Nat) : Prop := ∀ q, q < c → M 12 q = (aq f s (q + 1) : Int) ∧ ∀ j, j < 16 → M 11 (16 * q + j) = (bq f s q).getD j 0
section B5
variable {M : Mm} {f : Nat → Int} {s : Nat}
theorem pack36 (hs : s ≤ 60) (hr : ∀ k, k < s → 0 ≤ f k ∧ f k ≤ 255) : ∀ (k fu q : Nat) (M : Mm), q + k = 11 → k < fu → (∀ k, k < s → M 13 k = f k) → M 12 3 = (s : Int) → M 12 4 = (q : Int) → M 12 6 = (aq f s q : Int) → (∀ j, 16 * q ≤ j → j < 176 → M 14 j = 0) → PkX f s M q → ∃ M', fPa_packContent_36 fu M = some (if s ≤ aq f s (pcn f s k q) then 1 else 0, M') ∧ M' 12 4 = (pcn f s k q : Int) ∧ PkX f s M' (pcn f s k q) ∧ FpX M M'
  | _, 0, _, _, _, hf, _, _, _, _, _, _ => absurd hf (Nat.not_lt_zero _)
  | k, fu + 1, q, M, hq, hf, h13, h3, h4, h6, hz, hp => by
    have hle := aq_le (f := f) (s := s) q
    have e86 : fPa_packContent_86 M = some (if s ≤ aq f s q then 1 else 0, M) := by
      unfold fPa_packContent_86
      rw [h6, h3]
      by_cases c : aq f s q < s
      · rw [mlt_t ⟨by omega, by omega⟩ ⟨by omega, by omega⟩ (by omega), if_neg (by omega)]
      · rw [mlt_f ⟨by omega, by omega⟩ ⟨by omega, by omega⟩ (by omega), if_pos (by omega)]
    rw [fPa_packContent_36]
    rw [h4]
    cases k with
    | zero =>
      unfold pcn
      rw [mlt_f ⟨by omega, by omega⟩ ⟨by decide, by decide⟩ (by omega), e86]
      exact ⟨M, rfl, h4, hp, fun _ _ _ _ _ => rfl⟩
    | succ k =>
      rw [mlt_t ⟨by omega, by omega⟩ ⟨by decide, by decide⟩ (by omega)]
      unfold pcn
      by_cases c : aq f s q < s
      · have x5 : st (st M 12 5 (M 12 6)) 12 7 0 12 5 = (aq f s q : Int) := by rw [st_off (by decide), st_same]; exact h6
        obtain ⟨M1, e1, e2, e3, e4, e5⟩ := clu_X (c := q) (fr := aq f s q) (by omega) hs hr 17 FU 0 (aq f s q) [] (st (st M 12 5 (M 12 6)) 12 7 0) (Nat.le_refl _) c (by simp) (by simp) (by simp) (by unfold FU; omega) (fun k hk => by rw [st_ne (by decide), st_ne (by decide)]; exact h13 k hk) (by rw [st_off (by decide), st_off (by decide)]; exact h3) (by rw [st_off (by decide), st_off (by decide)]; exact h4) x5 (by rw [st_off (by decide), st_off (by decide)]; exact h6) (by rw [st_same]; rfl) (fun j hj => by rw [st_ne (by decide), st_ne (by decide), hz _ (by omega) (by omega)]; rfl)
        rw [show ((0 : Nat) : Int) = 0 from rfl] at e1
        have m4 : M1 12 4 = (q : Int) := by rw [e5.2.1 4 (by decide) (by decide) (by decide), st_off (by decide), st_off (by decide)]; exact h4
        have m15 : M1 15 = M 15 := by rw [e5.1 15 (by decide) (by decide), st_ne (by decide), st_ne (by decide)]
        have m14 : ∀ j, j < 16 * q ∨ 16 * q + 16 ≤ j → M1 14 j = M 14 j := fun j hj => by rw [e5.2.2 j hj, st_ne (by decide), st_ne (by decide)]
        have haq : aq f s (q + 1) = (cl f s (aq f s q) 17 (aq f s q) []).1 := rfl
        have x6 : M1 12 6 = (aq f s (q + 1) : Int) := e3
        have ih := pack36 hs hr k fu (q + 1) (st (st M1 15 q (aq f s (q + 1) : Int)) 12 4 ((q + 1 : Nat) : Int)) (by omega) (by omega) (fun k hk => by rw [st_ne (by decide), st_ne (by decide), e5.1 13 (by decide) (by decide), st_ne (by decide), st_ne (by decide)]; exact h13 k hk) (by rw [st_off (by decide), st_ne (by decide), e5.2.1 3 (by decide) (by decide) (by decide), st_off (by decide), st_off (by decide)]; exact h3) st_same (by rw [st_off (by decide), st_ne (by decide)]; exact x6) (fun j h1 h2 => by rw [st_ne (by decide), st_ne (by decide), m14 j (by omega)]; exact hz j (by omega) h2) (fun q' hq' => by
          by_cases e : q' = q
          · subst e
            refine ⟨by rw [st_ne (by decide), st_same], fun j hj => ?_⟩
            rw [st_ne (by decide), st_ne (by decide)]
            exact e2 j hj
          · obtain ⟨p1, p2⟩ := hp q' (by omega)
            refine ⟨by rw [st_ne (by decide), st_off e, m15]; exact p1, fun j hj => ?_⟩
            rw [st_ne (by decide), st_ne (by decide), m14 _ (by omega)]
            exact p2 j hj)
        obtain ⟨M', g1, g2, g3, g4⟩ := ih
        unfold fPa_packCluster
        rw [h6, h3, mlt_t ⟨by omega, by omega⟩ ⟨by omega, by omega⟩ (by omega), mput_t, mput_t]
        rw [h6] at e1 e5
        rw [mcn_e e1, m4, x6, mwr_t ⟨by omega, by omega⟩, mput_t, show (((q : Nat) : Int)).toNat = q by omega, st_ne (k := 15) (k' := 12) (by decide), m4, show (q : Int) + 1 = ((q + 1 : Nat) : Int) by omega, if_pos c]
        refine ⟨M', g1, g2, g3, fun p a b d e => ?_⟩
        rw [g4 p a b d e, st_ne a, st_ne e, e5.1 p a d, st_ne a, st_ne a]
      · rw [h6, h3, mlt_f ⟨by omega, by omega⟩ ⟨by omega, by omega⟩ (by omega), e86, if_neg c]
        exact ⟨M, rfl, h4, hp, fun _ _ _ _ _ => rfl⟩
theorem pack4 {nd : Nat} (hnd : nd < 16) (hs : s ≤ 60) (hr : ∀ k, k < s → 0 ≤ f k ∧ f k ≤ 255) : ∀ (k fu q : Nat) (M : Mm), q + k = 12 → k < fu → (∀ k, k < s → M 3 (60 * nd + k) = f k) → M 4 nd = (s : Int) → PkR f s M q → ∃ M', fR_pack_4 fu (nd : Int) (q : Int) (aq f s q : Int) M = some ((pcn f s k q : Int), M') ∧ PkR f s M' (pcn f s k q) ∧ FpR M M'
  | _, 0, _, _, _, hf, _, _, _ => absurd hf (Nat.not_lt_zero _)
  | k, fu + 1, q, M, hq, hf, h3, h4, hp => by
    have hle := aq_le (f := f) (s := s) q
    rw [fR_pack_4]
    rw [mrd_t ⟨by omega, by omega⟩, show (((nd : Nat) : Int)).toNat = nd by omega, h4]
    by_cases c : aq f s q < s
    · rw [mlt_t ⟨by omega, by omega⟩ ⟨by omega, by omega⟩ (by omega)]
      cases k with
      | zero =>
        unfold pcn
        rw [mlt_t ⟨by decide, by decide⟩ ⟨by omega, by omega⟩ (by omega)]
        exact ⟨M, rfl, hp, fun _ _ _ _ => rfl, fun _ _ _ => rfl⟩
      | succ k =>
        obtain ⟨M1, e1, e2, e3⟩ := one_R (M := M) (c := q) (fr := aq f s q) (by omega) hnd hs hr hle h3 h4
        have ih := pack4 hnd hs hr k fu (q + 1) (st M1 12 q (aq f s (q + 1) : Int)) (by omega) (by omega) (fun k hk => by rw [st_ne (by decide), e3.1 3 (by decide) (by decide)]; exact h3 k hk) (by rw [st_ne (by decide), e3.1 4 (by decide) (by decide)]; exact h4) (fun q' hq' => by
          by_cases e : q' = q
          · subst e
            refine ⟨st_same, fun j hj => ?_⟩
            rw [st_ne (by decide)]
            exact e2 j hj
          · obtain ⟨p1, p2⟩ := hp q' (by omega)
            refine ⟨by rw [st_off e, e3.1 12 (by decide) (by decide)]; exact p1, fun j hj => ?_⟩
            rw [st_ne (by decide), e3.2.2 _ (by omega)]
            exact p2 j hj)
        obtain ⟨M', g1, g2, g3⟩ := ih
        unfold pcn
        rw [mlt_f ⟨by decide, by decide⟩ ⟨by omega, by omega⟩ (by omega), mcn_e e1, mwr_t ⟨by omega, by omega⟩, show (((q : Nat) : Int)).toNat = q by omega, show (q : Int) + 1 = ((q + 1 : Nat) : Int) by omega, if_pos c]
        refine ⟨M', g1, g2, fun p a b d => ?_, fun k a b => ?_⟩
        · rw [g3.1 p a b d, st_ne d, e3.1 p a b]
        · rw [g3.2 k a b, st_ne (by decide), e3.2.1 k a b]
    · have ep : pcn f s k q = q := by
        cases k with
        | zero => rfl
        | succ k => show (if aq f s q < s then _ else _) = _; rw [if_neg c]
      rw [mlt_f ⟨by omega, by omega⟩ ⟨by omega, by omega⟩ (by omega), ep]
      exact ⟨M, rfl, hp, fun _ _ _ _ => rfl, fun _ _ _ => rfl⟩
end B5
