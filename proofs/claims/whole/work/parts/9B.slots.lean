/-! Building: slots, on both sides -/
def SgX (T : Mm) (fl : Nat) (M : Mm) (i : Nat) : Prop := TgX T M ∧ M 7 5 = (SLo T fl i : Int) ∧ ∀ j, j < i → (¬ T 5 j = 0 → M 10 j = (SLo T fl j : Int) ∧ M 11 j = (LYo T fl j : Int)) ∧ (T 5 j = 0 → M 10 j = -1)
def SgR (T : Mm) (fl : Nat) (M : Mm) (i : Nat) : Prop := TgR T M ∧ ∀ j, j < i → ¬ T 5 j = 0 → M 6 j = (SLo T fl j : Int) ∧ M 7 j = (LYo T fl j : Int) ∧ M 8 j = (LGo T fl j : Int)
section B8
variable {T M : Mm} {fl : Nat}
theorem SL_nd (hT : Tb T) : SLo T fl (T 0 1).toNat = SLo T fl 16 := by
  have h1 := hT.1
  have : ∀ k, (T 0 1).toNat + k ≤ 16 → SLo T fl ((T 0 1).toNat + k) = SLo T fl (T 0 1).toNat := by
    intro k
    induction k with
    | zero => intro _; rfl
    | succ k ih =>
      intro hk
      have := (hT.2.2.1 ((T 0 1).toNat + k) (by omega)).2.2 (by omega)
      show SLo T fl ((T 0 1).toNat + k) + (if T 5 ((T 0 1).toNat + k) = 0 then 0 else 1 + LGo T fl ((T 0 1).toNat + k)) = _
      rw [if_pos this, ih (by omega)]
      omega
  have := this (16 - (T 0 1).toNat) (by omega)
  rw [show (T 0 1).toNat + (16 - (T 0 1).toNat) = 16 by omega] at this
  exact this.symm
theorem give_X (hT : Tb T) (hfl : fl < 8) : ∀ (k fu i : Nat) (M : Mm), i + k = 16 → k < fu → SgX T fl M i → ∃ M', fBu_giveSlots_7 fu (fl : Int) (i : Int) M = some (0, M') ∧ SgX T fl M' 16 ∧ FgX M M'
  | _, 0, _, _, _, hf, _ => absurd hf (Nat.not_lt_zero _)
  | 0, fu + 1, i, M, hi, _, hg => by
    have : i = 16 := by omega
    subst this
    unfold fBu_giveSlots_7
    rw [mlt_f ⟨by omega, by omega⟩ ⟨by decide, by decide⟩ (by omega)]
    exact ⟨M, rfl, hg, fun _ _ => rfl, fun _ _ => rfl⟩
  | k + 1, fu + 1, i, M, hi, hf, hg => by
    obtain ⟨g1, g2, g3⟩ := hg
    have hc := hT.2.2.1 i (by omega)
    have hl := LG_r (T := T) (fl := fl) (n := i)
    have eu : SLo T fl (i + 1) = SLo T fl i + (if T 5 i = 0 then 0 else 1 + LGo T fl i) := rfl
    have t2 : TgX T (st M 10 i (-1)) := g1.cg (fun p a b => st_ne (by omega))
    rw [fBu_giveSlots_7]
    unfold fTr_countOf
    rw [mlt_t ⟨by omega, by omega⟩ ⟨by decide, by decide⟩ (by omega), mwr_t ⟨by omega, by omega⟩, show (((i : Nat) : Int)).toNat = i by omega, mrd_t ⟨by omega, by omega⟩, mcn_t, show (((i : Nat) : Int)).toNat = i by omega, t2.2.1 i (by omega)]
    by_cases z : T 5 i = 0
    · rw [if_pos z] at eu
      rw [mlt_f rI_0 ⟨by omega, by omega⟩ (by omega), show (i : Int) + 1 = ((i + 1 : Nat) : Int) by omega]
      obtain ⟨M', f1, f2, f3⟩ := give_X hT hfl k fu (i + 1) (st M 10 i (-1)) (by omega) (by omega) ⟨t2, by rw [st_ne (by decide), eu]; exact g2, fun j hj => by
        by_cases e : j = i
        · subst e; exact ⟨fun w => absurd z w, fun _ => st_same⟩
        · rw [st_off e, st_ne (by decide)]; exact g3 j (by omega)⟩
      refine ⟨M', f1, f2, fun p hp => ?_, fun k hk => ?_⟩
      · rw [f3.1 p hp, st_ne (by omega)]
      · rw [f3.2 k hk, st_ne (by decide)]
    · rw [if_neg z] at eu
      obtain ⟨M1, e1, e2⟩ := choose_X (n := i) hT t2 (by omega) hfl
      have m7 : M1 7 = M 7 := by rw [e2 7 (by decide) (by decide) (by decide) (by decide), st_ne (by decide)]
      have m10 : M1 10 = st M 10 i (-1) 10 := e2 10 (by decide) (by decide) (by decide) (by decide)
      have m11 : M1 11 = M 11 := by rw [e2 11 (by decide) (by decide) (by decide) (by decide), st_ne (by decide)]
      have t8 : TgX T (st (st M1 11 i (LYo T fl i : Int)) 10 i (M1 7 5)) := t2.cg (fun p a b => by rw [st_ne (by omega), st_ne (by omega), e2 p (by omega) (by omega) (by omega) (by omega)])
      have hlX := long_X (fl := fl) hT t8 (n := i) (by omega) (by rw [st_ne (by decide), st_same])
      rw [mlt_t rI_0 ⟨by omega, by omega⟩ (by omega), mcn_e e1, mwr_t ⟨by omega, by omega⟩, mwr_t ⟨by omega, by omega⟩, show (((i : Nat) : Int)).toNat = i by omega, st_ne (k := 11) (k' := 7) (by decide), mcn_e hlX, st_ne (k := 10) (k' := 7) (by decide), st_ne (k := 11) (k' := 7) (by decide)]
      have go : ∀ v : Int, v = (SLo T fl (i + 1) : Int) → ∃ M', fBu_giveSlots_7 fu (fl : Int) ((i : Int) + 1) (st (st (st M1 11 i (LYo T fl i : Int)) 10 i (M1 7 5)) 7 5 v) = some (0, M') ∧ SgX T fl M' 16 ∧ FgX M M' := fun v hv => by
        rw [show (i : Int) + 1 = ((i + 1 : Nat) : Int) by omega]
        obtain ⟨M', f1, f2, f3⟩ := give_X hT hfl k fu (i + 1) (st (st (st M1 11 i (LYo T fl i : Int)) 10 i (M1 7 5)) 7 5 v) (by omega) (by omega) ⟨t8.cg (fun p a b => st_ne (by omega)), by rw [st_same]; exact hv, fun j hj => by
          rw [st_ne (k := 7) (k' := 10) (by decide), st_ne (k := 7) (k' := 11) (by decide)]
          by_cases e : j = i
          · subst e
            exact ⟨fun _ => ⟨by rw [st_same, m7]; exact g2, by rw [st_ne (by decide), st_same]⟩, fun w => absurd w z⟩
          · rw [st_off e, st_ne (k := 11) (k' := 10) (by decide), st_ne (k := 10) (k' := 11) (by decide), st_off e, m10, m11, st_off e]
            exact g3 j (by omega)⟩
        refine ⟨M', f1, f2, fun p hp => ?_, fun k hk => ?_⟩
        · rw [f3.1 p hp, st_ne (by omega), st_ne (by omega), st_ne (by omega), e2 p (by omega) (by omega) (by omega) (by omega), st_ne (by omega)]
        · rw [f3.2 k hk, st_off hk, st_ne (by decide), st_ne (by decide), m7]
      by_cases l0 : LGo T fl i = 0
      · rw [meq_t ⟨by omega, by omega⟩ rI_0 (by omega), mput_t]
        exact go _ (by rw [m7, g2]; omega)
      · rw [meq_f ⟨by omega, by omega⟩ rI_0 (by omega), mput_t]
        exact go _ (by rw [m7, g2]; omega)
theorem give_R (hT : Tb T) (hfl : fl < 8) : ∀ (k fu i : Nat) (M : Mm), ((i + k : Nat) : Int) = T 0 1 → k < fu → SgR T fl M i → ∃ M', fR_build_54 fu (fl : Int) (SLo T fl i : Int) (i : Int) M = fR_build_124 FU (fl : Int) (SLo T fl 16 : Int) ((1 + (SLo T fl 16 + 1) / 2 : Nat) : Int) ((1 + (SLo T fl 16 + 1) / 2 : Nat) : Int) 0 M' ∧ SgR T fl M' (T 0 1).toNat ∧ FgR M M'
  | _, 0, _, _, _, hf, _ => absurd hf (Nat.not_lt_zero _)
  | 0, fu + 1, i, M, hi, _, hg => by
    have h1 := hT.1
    have ei : i = (T 0 1).toNat := by omega
    have hs := SL_r (T := T) (fl := fl) i
    rw [fR_build_54]
    have e1 : SLo T fl i = SLo T fl 16 := by rw [ei]; exact SL_nd hT
    rw [hg.1.2.2.2.2.2, mlt_f ⟨by omega, by omega⟩ ⟨by omega, by omega⟩ (by omega), mdiv_t ⟨by omega, by omega, by omega, by omega⟩, e1, show 1 + ((SLo T fl 16 : Int) + 1) / 2 = ((1 + (SLo T fl 16 + 1) / 2 : Nat) : Int) by omega]
    rw [ei] at hg
    exact ⟨M, rfl, hg, fun _ _ => rfl, fun _ _ _ => rfl⟩
  | k + 1, fu + 1, i, M, hi, hf, hg => by
    obtain ⟨g1, g3⟩ := hg
    have h1 := hT.1
    have hc := hT.2.2.1 i (by omega)
    have hl := LG_r (T := T) (fl := fl) (n := i)
    have hs := SL_r (T := T) (fl := fl) i
    have eu : SLo T fl (i + 1) = SLo T fl i + (if T 5 i = 0 then 0 else 1 + LGo T fl i) := rfl
    rw [fR_build_54]
    rw [g1.2.2.2.2.2, mlt_t ⟨by omega, by omega⟩ ⟨by omega, by omega⟩ (by omega), mrd_t ⟨by omega, by omega⟩, show (((i : Nat) : Int)).toNat = i by omega, g1.2.2.2.2.1]
    by_cases z : T 5 i = 0
    · rw [if_pos z] at eu
      have eu' : SLo T fl (i + 1) = SLo T fl i := by omega
      rw [meq_t ⟨by omega, by omega⟩ rI_0 z, show (i : Int) + 1 = ((i + 1 : Nat) : Int) by omega, ← eu']
      exact give_R hT hfl k fu (i + 1) M (by omega) (by omega) ⟨g1, fun j hj w => by
        by_cases e : j = i
        · subst e; exact absurd z w
        · exact g3 j (by omega) w⟩
    · rw [if_neg z] at eu
      obtain ⟨M1, e1, e2, e3, e4, e5, e6⟩ := choose_R hT g1 (n := i) (by omega) hfl
      rw [meq_f ⟨by omega, by omega⟩ rI_0 z, mcn_e e1, mwr_t ⟨by omega, by omega⟩, mrd_t ⟨by omega, by omega⟩, show (((i : Nat) : Int)).toNat = i by omega, st_ne (k := 6) (k' := 8) (by decide), e3]
      have go : ∀ v : Int, v = (SLo T fl (i + 1) : Int) → ∃ M', fR_build_54 fu (fl : Int) v ((i : Int) + 1) (st M1 6 i (SLo T fl i : Int)) = fR_build_124 FU (fl : Int) (SLo T fl 16 : Int) ((1 + (SLo T fl 16 + 1) / 2 : Nat) : Int) ((1 + (SLo T fl 16 + 1) / 2 : Nat) : Int) 0 M' ∧ SgR T fl M' (T 0 1).toNat ∧ FgR M M' := fun v hv => by
        subst hv
        rw [show (i : Int) + 1 = ((i + 1 : Nat) : Int) by omega]
        have tr : TgR T (st M1 6 i (SLo T fl i : Int)) := g1.cg (fun p a b => by rw [st_ne (by omega), e5 p (by omega) (by omega) (by omega) (by omega) (by omega)]) (by rw [st_ne (by decide), e6 1 (by decide) (by decide)])
        obtain ⟨M', f1, f2, f3⟩ := give_R hT hfl k fu (i + 1) (st M1 6 i (SLo T fl i : Int)) (by omega) (by omega) ⟨tr, fun j hj w => by
          rw [st_ne (k := 6) (k' := 7) (by decide), st_ne (k := 6) (k' := 8) (by decide)]
          by_cases e : j = i
          · subst e; exact ⟨st_same, e2, e3⟩
          · rw [st_off e, e5 6 (by decide) (by decide) (by decide) (by decide) (by decide), (e4 j e).1, (e4 j e).2]
            exact g3 j (by omega) w⟩
        refine ⟨M', f1, f2, fun p hp => ?_, fun k h1 h2 => ?_⟩
        · rw [f3.1 p hp, st_ne (by omega), e5 p (by omega) (by omega) (by omega) (by omega) (by omega)]
        · rw [f3.2 k h1 h2, st_ne (by decide), e6 k h1 h2]
      by_cases l0 : LGo T fl i = 0
      · rw [meq_t ⟨by omega, by omega⟩ rI_0 (by omega)]
        exact go _ (by omega)
      · rw [meq_f ⟨by omega, by omega⟩ rI_0 (by omega)]
        exact go _ (by omega)
end B8
