/-! Building: all inodes, on both sides -/
section BD
variable {T X R : Mm} {fl fd us : Nat}
theorem skip_X (hT : Tb T) : ∀ (k fu n : Nat) (X : Mm), n + k = 16 → k < fu → T 0 1 ≤ (n : Int) → SgX T fl X 16 → fBu_layOut_29 fu (fl : Int) (n : Int) X = (mcn (fBu_putHeader (fl : Int) X) fun _ M6 => some (1, M6))
  | _, 0, _, _, _, hf, _, _ => absurd hf (Nat.not_lt_zero _)
  | 0, fu + 1, n, X, hn, _, _, _ => by
    rw [fBu_layOut_29]
    rw [mlt_f ⟨by omega, by omega⟩ ⟨by decide, by decide⟩ (by omega)]
  | k + 1, fu + 1, n, X, hn, hf, hnd, hX => by
    have z := (hT.2.2.1 n (by omega)).2.2 hnd
    have s := (hX.2.2 n (by omega)).2 z
    rw [fBu_layOut_29]
    rw [mlt_t ⟨by omega, by omega⟩ ⟨by decide, by decide⟩ (by omega), mrd_t ⟨by omega, by omega⟩, show (((n : Nat) : Int)).toNat = n by omega, s, meq_t ⟨by decide, by decide⟩ ⟨by decide, by decide⟩ rfl, show (n : Int) + 1 = ((n + 1 : Nat) : Int) by omega]
    exact skip_X hT k fu (n + 1) X (by omega) (by omega) (by omega) hX
theorem FnX.sg {X' : Mm} (h : FnX X X') (hX : SgX T fl X 16) : SgX T fl X' 16 := by
  refine ⟨hX.1.cg (fun p a b => h.1 p (by omega)), by rw [h.2 5 (by decide)]; exact hX.2.1, fun j hj => ?_⟩
  rw [h.1 10 (by decide), h.1 11 (by decide)]
  exact hX.2.2 j hj
theorem FnR.sg {R' : Mm} (h : FnR R R') (hR : SgR T fl R (T 0 1).toNat) : SgR T fl R' (T 0 1).toNat := hR.cg (fun p a b => h.1 p (by omega)) (h.2 1 (by decide) (by decide))
theorem FnX.tr {X' X'' : Mm} (h : FnX X X') (h' : FnX X' X'') : FnX X X'' := ⟨fun p a => (h'.1 p a).trans (h.1 p a), fun k a => (h'.2 k a).trans (h.2 k a)⟩
theorem FnR.tr {R' R'' : Mm} (h : FnR R R') (h' : FnR R' R'') : FnR R R'' := ⟨fun p a => (h'.1 p a).trans (h.1 p a), fun k a b => (h'.2 k a b).trans (h.2 k a b)⟩
/-- how the laying out ends -/
def Lz (T : Mm) (fl : Nat) (X R : Mm) (q r : Option (Int × Mm)) : Prop := (∃ X' R', q = some (0, X') ∧ r = some (0, st R' 0 0 2) ∧ FnX X X' ∧ FnR R R') ∨ ∃ (X1 R1 : Mm) (us : Nat), q = (mcn (fBu_putHeader (fl : Int) X1) fun _ M6 => some (1, M6)) ∧ r = fR_build_194 FU (fl : Int) (SLo T fl 16 : Int) (us : Int) 0 R1 ∧ Im X1 R1 ∧ X1 7 7 = (us : Int) ∧ us ≤ 64 ∧ X1 7 5 = (SLo T fl 16 : Int) ∧ FnX X X1 ∧ FnR R R1
theorem Lz.tr {X1 R1 : Mm} {q r : Option (Int × Mm)} (h : Lz T fl X1 R1 q r) (hX : FnX X X1) (hR : FnR R R1) : Lz T fl X R q r := by
  rcases h with ⟨X', R', h1, h2, h3, h4⟩ | ⟨X2, R2, us, h1, h2, h3, h4, h5, h6, h7, h8⟩
  · exact Or.inl ⟨X', R', h1, h2, hX.tr h3, hR.tr h4⟩
  · exact Or.inr ⟨X2, R2, us, h1, h2, h3, h4, h5, h6, hX.tr h7, hR.tr h8⟩
theorem loop_v (hT : Tb T) (hfl : fl < 8) (hfd : fd = 1 + (SLo T fl 16 + 1) / 2) : ∀ (k fu fu' n us : Nat) (X R : Mm), ((n + k : Nat) : Int) = T 0 1 → k + 17 < fu → k + 1 < fu' → SgX T fl X 16 → SgR T fl R (T 0 1).toNat → Im X R → fd ≤ us → us ≤ 64 → X 7 6 = (fd : Int) → X 7 7 = (us : Int) → (∀ j, 16 + 8 * SLo T fl n ≤ j → j < 16 * fd → R 9 j = 0) → Lz T fl X R (fBu_layOut_29 fu (fl : Int) (n : Int) X) (fR_build_124 fu' (fl : Int) (SLo T fl 16 : Int) (fd : Int) (us : Int) (n : Int) R)
  | _, 0, _, _, _, _, _, _, hf, _, _, _, _, _, _, _, _, _ => absurd hf (Nat.not_lt_zero _)
  | _, _, 0, _, _, _, _, _, _, hf, _, _, _, _, _, _, _, _ => absurd hf (Nat.not_lt_zero _)
  | 0, fu + 1, fu' + 1, n, us, X, R, hn, hf, hf', hX, hR, hI, hu1, hu2, h6, h7, hz => by
    have h1 := hT.1
    rw [skip_X hT (16 - n) (fu + 1) n X (by omega) (by omega) (by omega) hX, fR_build_124]
    unfold fR_build_178
    rw [hR.1.2.2.2.2.2, mlt_f ⟨by omega, by omega⟩ ⟨by omega, by omega⟩ (by omega), mlt_f ⟨by decide, by decide⟩ ⟨by omega, by omega⟩ (by omega)]
    exact Or.inr ⟨X, R, us, rfl, rfl, hI, h7, hu2, hX.2.1, ⟨fun _ _ => rfl, fun _ _ => rfl⟩, fun _ _ => rfl, fun _ _ _ => rfl⟩
  | k + 1, fu + 1, fu' + 1, n, us, X, R, hn, hf, hf', hX, hR, hI, hu1, hu2, h6, h7, hz => by
    have h1 := hT.1
    have hc := hT.2.2.1 n (by omega)
    have hs := SL_r (T := T) (fl := fl) n
    have hl2 : fl &&& 2 ≤ 2 := Nat.and_le_right
    rw [fBu_layOut_29, fR_build_124]
    rw [mlt_t (b := 16) ⟨by omega, by omega⟩ ⟨by decide, by decide⟩ (by omega), mrd_t (k := 10) ⟨by omega, by omega⟩, show (((n : Nat) : Int)).toNat = n by omega, hR.1.2.2.2.2.2, mlt_t (a := (n : Int)) ⟨by omega, by omega⟩ ⟨by omega, by omega⟩ (by omega), mlt_f (a := 64) ⟨by decide, by decide⟩ ⟨by omega, by omega⟩ (by omega), mrd_t (k := 5) ⟨by omega, by omega⟩, show (((n : Nat) : Int)).toNat = n by omega, hR.1.2.2.2.2.1, show (n : Int) + 1 = ((n + 1 : Nat) : Int) by omega]
    by_cases z : T 5 n = 0
    · have eu : SLo T fl (n + 1) = SLo T fl n := by show SLo T fl n + (if T 5 n = 0 then 0 else 1 + LGo T fl n) = _; rw [if_pos z]; rfl
      rw [(hX.2.2 n (by omega)).2 z, meq_t ⟨by decide, by decide⟩ ⟨by decide, by decide⟩ rfl, mlt_f rI_0 ⟨by omega, by omega⟩ (by omega)]
      exact loop_v hT hfl hfd k fu fu' (n + 1) us X R (by omega) (by omega) (by omega) hX hR hI hu1 hu2 h6 h7 (by rw [eu]; exact hz)
    · have sx := (hX.2.2 n (by omega)).1 z
      obtain ⟨g, X', e, R', f1, f2, f3, f4, f5⟩ := node_v (X := X) (R := R) hT hfl (show (n : Int) < T 0 1 by omega) z hX hR hI hfd ⟨hu1, hu2⟩ h6 h7 hz
      have ew : (mland (fl : Int) 2 fun v14 => meq v14 0 (mcn (fR_write (n : Int) (fd : Int) (us : Int) 0 R) fun v16 M15 => (fR_build_124 fu') (fl : Int) (SLo T fl 16 : Int) (fd : Int) v16 ((n + 1 : Nat) : Int) M15) (mcn (fR_write (n : Int) (fd : Int) (us : Int) 1 R) fun v18 M17 => (fR_build_124 fu') (fl : Int) (SLo T fl 16 : Int) (fd : Int) v18 ((n + 1 : Nat) : Int) M17)) = fR_build_124 fu' (fl : Int) (SLo T fl 16 : Int) (fd : Int) (e : Int) ((n + 1 : Nat) : Int) R' := by
        rw [mland_t ⟨by omega, by omega, by omega, by omega⟩, show (((fl : Nat) : Int)).toNat = fl by omega, show (2 : Int).toNat = 2 from rfl]
        by_cases c : (fl &&& 2) = 0
        · rw [decide_eq_true c, if_pos rfl] at f2
          rw [meq_t ⟨by omega, by omega⟩ rI_0 (by omega), mcn_e f2]
        · rw [decide_eq_false c, if_neg (by decide)] at f2
          rw [meq_f ⟨by omega, by omega⟩ rI_0 (by omega), mcn_e f2]
      rw [sx.1, meq_f ⟨by omega, by omega⟩ ⟨by decide, by decide⟩ (by omega), mcn_e f1, mlt_t rI_0 ⟨by omega, by omega⟩ (by omega), ew]
      rcases f5 with ⟨rfl, g2, g3⟩ | ⟨rfl, g2, g3, g4, g5⟩
      · rw [meq_t rI_0 rI_0 rfl]
        obtain ⟨fv, rfl⟩ : ∃ fv, fu' = fv + 1 := ⟨fu' - 1, by omega⟩
        have e178 : fR_build_178 (fl : Int) (SLo T fl 16 : Int) (e : Int) R' = some (0, st R' 0 0 2) := by
          unfold fR_build_178 fR_fail
          rw [mlt_t ⟨by decide, by decide⟩ ⟨by omega, by omega⟩ (by omega), mput_t, mcn_t]
        refine Or.inl ⟨X', R', rfl, ?_, f3, f4⟩
        rw [fR_build_124]
        rw [(f4.sg hR).1.2.2.2.2.2, e178]
        by_cases q : ((n + 1 : Nat) : Int) < T 0 1
        · rw [mlt_t (a := ((n + 1 : Nat) : Int)) ⟨by omega, by omega⟩ ⟨by omega, by omega⟩ q, mlt_t (a := 64) ⟨by decide, by decide⟩ ⟨by omega, by omega⟩ (by omega)]
        · rw [mlt_f (a := ((n + 1 : Nat) : Int)) ⟨by omega, by omega⟩ ⟨by omega, by omega⟩ q]
      · rw [meq_f (a := 1) ⟨by decide, by decide⟩ rI_0 (by decide)]
        exact (loop_v hT hfl hfd k fu fu' (n + 1) e X' R' (by omega) (by omega) (by omega) (f3.sg hX) (f4.sg hR) g3 (by omega) g2.2 (by rw [f3.2 6 (by decide)]; exact h6) g4 g5).tr f3 f4
/-- the reference's two loops over 1024 cells -/
theorem zero_R : ∀ (k fu j : Nat) (R : Mm), j + k = 1024 → k < fu → (∀ i, i < j → R 9 i = 0) → ∃ R', fR_build_30 fu (fl : Int) (j : Int) R = fR_build_54 FU (fl : Int) 0 0 R' ∧ (∀ i, i < 1024 → R' 9 i = 0) ∧ ∀ p, p ≠ 9 → R' p = R p
  | _, 0, _, _, _, hf, _ => absurd hf (Nat.not_lt_zero _)
  | 0, fu + 1, j, R, hj, _, hz => by
    rw [fR_build_30]
    rw [mlt_f ⟨by omega, by omega⟩ ⟨by decide, by decide⟩ (by omega)]
    exact ⟨R, rfl, fun i hi => hz i (by omega), fun _ _ => rfl⟩
  | k + 1, fu + 1, j, R, hj, hf, hz => by
    rw [fR_build_30]
    rw [mlt_t ⟨by omega, by omega⟩ ⟨by decide, by decide⟩ (by omega), mwr_t ⟨by omega, by omega⟩, show (((j : Nat) : Int)).toNat = j by omega, show (j : Int) + 1 = ((j + 1 : Nat) : Int) by omega]
    obtain ⟨R', f1, f2, f3⟩ := zero_R k fu (j + 1) (st R 9 j 0) (by omega) (by omega) (fun i hi => by
      by_cases e : i = j
      · rw [e, st_same]
      · rw [st_off e]; exact hz i (by omega))
    exact ⟨R', f1, f2, fun p hp => (f3 p hp).trans (st_ne hp)⟩
theorem over_R {y1 y2 y4 : Int} : ∀ (k fu j : Nat) (R : Mm), j + k = 1024 → k < fu → ∃ R', fR_build_194 fu y1 y2 y4 (j : Int) R = (mwr R' 13 1024 0 225 fun M3 => mwr M3 13 1024 1 245 fun M4 => mwr M4 13 1024 2 y1 fun M5 => mwr M5 13 1024 3 y2 fun M6 => mwr M6 13 1024 4 y4 fun M7 => mcn (fR_seal M7) fun _ M8 => some (y4, M8)) ∧ (∀ i, j ≤ i → i < 1024 → R' 13 i = R 9 i) ∧ (∀ i, i < j ∨ 1024 ≤ i → R' 13 i = R 13 i) ∧ ∀ p, p ≠ 13 → R' p = R p
  | _, 0, _, _, _, hf => absurd hf (Nat.not_lt_zero _)
  | 0, fu + 1, j, R, hj, _ => by
    rw [fR_build_194]
    rw [mlt_f ⟨by omega, by omega⟩ ⟨by decide, by decide⟩ (by omega)]
    exact ⟨R, rfl, fun i h1 h2 => by omega, fun _ _ => rfl, fun _ _ => rfl⟩
  | k + 1, fu + 1, j, R, hj, hf => by
    rw [fR_build_194]
    rw [mlt_t ⟨by omega, by omega⟩ ⟨by decide, by decide⟩ (by omega), mrd_t ⟨by omega, by omega⟩, mwr_t ⟨by omega, by omega⟩, show (((j : Nat) : Int)).toNat = j by omega, show (j : Int) + 1 = ((j + 1 : Nat) : Int) by omega]
    obtain ⟨R', f1, f2, f3, f4⟩ := over_R (y1 := y1) (y2 := y2) (y4 := y4) k fu (j + 1) (st R 13 j (R 9 j)) (by omega) (by omega)
    refine ⟨R', f1, fun i h1 h2 => ?_, fun i hi => ?_, fun p hp => (f4 p hp).trans (st_ne hp)⟩
    · by_cases e : i = j
      · rw [e, f3 j (by omega), st_same]
      · rw [f2 i (by omega) h2, st_ne (by decide)]
    · rw [f3 i (by omega), st_off (by omega)]
end BD
