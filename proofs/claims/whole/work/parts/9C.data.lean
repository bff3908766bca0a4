/-! Building: a node's data, on both sides -/
def Dq (X R : Mm) : Prop := ∀ j, j < 80 → X 9 j = R 10 j ∧ 0 ≤ R 10 j ∧ R 10 j ≤ 255
theorem Dq.wr {X R : Mm} (h : Dq X R) (i : Nat) {v : Int} (hv : 0 ≤ v ∧ v ≤ 255) : Dq (st X 9 i v) (st R 10 i v) := fun j hj => by
  by_cases e : j = i
  · rw [e, st_same, st_same]; exact ⟨rfl, hv⟩
  · rw [st_off e, st_off e]; exact h j hj
theorem SgX.cg {T M M' : Mm} {fl i : Nat} (h : SgX T fl M i) (hp : ∀ p, (2 ≤ p ∧ p ≤ 7) ∨ p = 10 ∨ p = 11 → M' p = M p) : SgX T fl M' i := by
  refine ⟨h.1.cg (fun p a b => hp p (by omega)), by rw [hp 7 (by decide)]; exact h.2.1, fun j hj => ?_⟩
  rw [hp 10 (by decide), hp 11 (by decide)]
  exact h.2.2 j hj
theorem SgR.cg {T M M' : Mm} {fl i : Nat} (h : SgR T fl M i) (hp : ∀ p, 1 ≤ p → p ≤ 8 → M' p = M p) (hk : M' 0 1 = M 0 1) : SgR T fl M' i := by
  refine ⟨h.1.cg (fun p a b => hp p a (by omega)) hk, fun j hj w => ?_⟩
  rw [hp 6 (by decide) (by decide), hp 7 (by decide) (by decide), hp 8 (by decide) (by decide)]
  exact h.2 j hj w
section B9
variable {T X R M : Mm} {fl n : Nat}
theorem ents_v (hT : Tb T) (hn : n < 16) (hk0 : T 1 n = 0) : ∀ (k fu fu' c : Nat) (X R : Mm), c + k = 26 → k < fu → k < fu' → SgX T fl X 16 → SgR T fl R (T 0 1).toNat → Dq X R → ∃ X' R', fBu_fillEntries_5 fu (n : Int) ((3 * ec T n c : Nat) : Int) (c : Int) X = some (0, X') ∧ fR_layData_59 fu' (n : Int) ((3 * ec T n c : Nat) : Int) (c : Int) R = some (0, R') ∧ Dq X' R' ∧ (∀ p, p ≠ 9 → X' p = X p) ∧ ∀ p, p ≠ 10 → R' p = R p
  | _, 0, _, _, _, _, _, hf, _, _, _, _ => absurd hf (Nat.not_lt_zero _)
  | _, _, 0, _, _, _, _, _, hf, _, _, _ => absurd hf (Nat.not_lt_zero _)
  | 0, fu + 1, fu' + 1, c, X, R, hc, _, _, _, _, hd => by
    unfold fBu_fillEntries_5 fR_layData_59
    rw [mlt_f ⟨by omega, by omega⟩ ⟨by decide, by decide⟩ (by omega), mlt_f ⟨by omega, by omega⟩ ⟨by decide, by decide⟩ (by omega)]
    exact ⟨X, R, rfl, rfl, hd, fun _ _ => rfl, fun _ _ => rfl⟩
  | k + 1, fu + 1, fu' + 1, c, X, R, hc, hf, hf', hX, hR, hd => by
    have h1 := hT.1
    have he := hT.2.2.2.2.2 (26 * n + c) (by omega)
    have hec := ec_r (T := T) (n := n) c
    have eu : ec T n (c + 1) = ec T n c + (if T 2 (26 * n + c) = -1 then 0 else 1) := rfl
    rw [fBu_fillEntries_5, fR_layData_59]
    unfold fTr_nodeAt fTr_kindOf
    rw [mlt_t ⟨by omega, by omega⟩ ⟨by decide, by decide⟩ (by omega), mlt_t ⟨by omega, by omega⟩ ⟨by decide, by decide⟩ (by omega), mrd_t ⟨by omega, by omega⟩, mcn_t, show ((n : Int) * 26 + (c : Int)).toNat = 26 * n + c by omega, hX.1.2.2.2.2 _ (by omega), mrd_t (k := 1) ⟨by omega, by omega⟩, show (((n : Nat) : Int)).toNat = n by omega, hR.1.1, meq_t (b := 0) ⟨by omega, by omega⟩ rI_0 hk0, mrd_t (k := 2) ⟨by omega, by omega⟩, show (26 * (n : Int) + (c : Int)).toNat = 26 * n + c by omega, hR.1.2.1, show (c : Int) + 1 = ((c + 1 : Nat) : Int) by omega]
    by_cases z : T 2 (26 * n + c) = -1
    · rw [if_pos z] at eu
      have eu' : ec T n (c + 1) = ec T n c := by omega
      rw [meq_t ⟨by omega, by omega⟩ ⟨by decide, by decide⟩ z, meq_t ⟨by omega, by omega⟩ ⟨by decide, by decide⟩ z, ← eu']
      exact ents_v hT hn hk0 k fu fu' (c + 1) X R (by omega) (by omega) (by omega) hX hR hd
    · rw [if_neg z] at eu
      rw [meq_f ⟨by omega, by omega⟩ ⟨by decide, by decide⟩ z, meq_f ⟨by omega, by omega⟩ ⟨by decide, by decide⟩ z]
      obtain ⟨v, hv⟩ : ∃ v : Nat, T 2 (26 * n + c) = (v : Int) := ⟨(T 2 (26 * n + c)).toNat, by omega⟩
      have hlk : 0 < T 5 v := by have := he.2.2 (by omega); rw [hv, Int.toNat_natCast] at this; exact this
      have sx := (hX.2.2 v (by omega)).1 (by omega)
      have sr := hR.2 v (by omega) (by omega)
      have hs := SL_r (T := T) (fl := fl) v
      have hkv := hT.2.1 v (by omega)
      rw [hv, mwr_t ⟨by omega, by omega⟩, mrd_t ⟨by omega, by omega⟩, mwr_t ⟨by omega, by omega⟩, mrd_t ⟨by omega, by omega⟩, mcn_t, mwr_t ⟨by omega, by omega⟩, mwr_t ⟨by omega, by omega⟩, mrd_t (k := 6) ⟨by omega, by omega⟩, mwr_t ⟨by omega, by omega⟩, mrd_t (k := 1) ⟨by omega, by omega⟩, mwr_t ⟨by omega, by omega⟩, show (((v : Nat) : Int)).toNat = v by omega, st_ne (k := 9) (k' := 10) (by decide), st_ne (k := 9) (k' := 2) (by decide), st_ne (k := 9) (k' := 2) (by decide), st_ne (k := 10) (k' := 6) (by decide), st_ne (k := 10) (k' := 1) (by decide), st_ne (k := 10) (k' := 1) (by decide), sx.1, sr.1, hX.1.1 v (by omega), hR.1.1, show ((3 * ec T n c : Nat) : Int) + 3 = ((3 * ec T n (c + 1) : Nat) : Int) by omega]
      have dq := ((hd.wr (((3 * ec T n c : Nat) : Int)).toNat (v := 97 + (c : Int)) ⟨by omega, by omega⟩).wr (((3 * ec T n c : Nat) : Int) + 1).toNat (v := (SLo T fl v : Int)) ⟨by omega, by omega⟩).wr (((3 * ec T n c : Nat) : Int) + 2).toNat (v := T 1 v) ⟨by omega, by omega⟩
      have px : ∀ p, p ≠ 9 → st (st (st X 9 (((3 * ec T n c : Nat) : Int)).toNat (97 + (c : Int))) 9 (((3 * ec T n c : Nat) : Int) + 1).toNat (SLo T fl v : Int)) 9 (((3 * ec T n c : Nat) : Int) + 2).toNat (T 1 v) p = X p := fun p hp => by rw [st_ne hp, st_ne hp, st_ne hp]
      have pr : ∀ p, p ≠ 10 → st (st (st R 10 (((3 * ec T n c : Nat) : Int)).toNat (97 + (c : Int))) 10 (((3 * ec T n c : Nat) : Int) + 1).toNat (SLo T fl v : Int)) 10 (((3 * ec T n c : Nat) : Int) + 2).toNat (T 1 v) p = R p := fun p hp => by rw [st_ne hp, st_ne hp, st_ne hp]
      generalize st (st (st X 9 (((3 * ec T n c : Nat) : Int)).toNat (97 + (c : Int))) 9 (((3 * ec T n c : Nat) : Int) + 1).toNat (SLo T fl v : Int)) 9 (((3 * ec T n c : Nat) : Int) + 2).toNat (T 1 v) = X1 at dq px ⊢
      generalize st (st (st R 10 (((3 * ec T n c : Nat) : Int)).toNat (97 + (c : Int))) 10 (((3 * ec T n c : Nat) : Int) + 1).toNat (SLo T fl v : Int)) 10 (((3 * ec T n c : Nat) : Int) + 2).toNat (T 1 v) = R1 at dq pr ⊢
      obtain ⟨X', R', f1, f2, f3, f4, f5⟩ := ents_v hT hn hk0 k fu fu' (c + 1) X1 R1 (by omega) (by omega) (by omega) (hX.cg (fun p hp => px p (by omega))) (hR.cg (fun p a b => pr p (by omega)) (by rw [pr 0 (by decide)])) dq
      exact ⟨X', R', f1, f2, f3, fun p hp => (f4 p hp).trans (px p hp), fun p hp => (f5 p hp).trans (pr p hp)⟩
/-- the reference's first pass over the row -/
def rw0 (T : Mm) (n j : Nat) : Int := if ¬ T 1 n = 0 ∧ j < sn T n then fn T n j else 0
theorem row2 (hT : Tb T) (hn : n < 16) : ∀ (k fu j : Nat) (R : Mm), j + k = 192 → k < fu → TgR T R → (∀ i, i < j → R 10 i = rw0 T n i) → ∃ R', fR_layData_2 fu (n : Int) (j : Int) R = fR_layData_59 FU (n : Int) 0 0 R' ∧ (∀ i, i < 192 → R' 10 i = rw0 T n i) ∧ ∀ p, p ≠ 10 → R' p = R p
  | _, 0, _, _, _, hf, _, _ => absurd hf (Nat.not_lt_zero _)
  | 0, fu + 1, j, R, hj, _, hR, h10 => by
    rw [fR_layData_2]
    rw [mlt_f ⟨by omega, by omega⟩ ⟨by decide, by decide⟩ (by omega)]
    exact ⟨R, rfl, fun i hi => h10 i (by omega), fun _ _ => rfl⟩
  | k + 1, fu + 1, j, R, hj, hf, hR, h10 => by
    have hk := hT.2.1 n hn
    obtain ⟨hs, he⟩ := sn_r hT hn
    have go : ∀ v : Int, v = rw0 T n j → ∃ R', fR_layData_2 fu (n : Int) ((j : Int) + 1) (st R 10 j v) = fR_layData_59 FU (n : Int) 0 0 R' ∧ (∀ i, i < 192 → R' 10 i = rw0 T n i) ∧ ∀ p, p ≠ 10 → R' p = R p := fun v hv => by
      rw [show (j : Int) + 1 = ((j + 1 : Nat) : Int) by omega]
      obtain ⟨R', f1, f2, f3⟩ := row2 hT hn k fu (j + 1) (st R 10 j v) (by omega) (by omega) (hR.cg (fun p a b => st_ne (by omega)) (by rw [st_ne (by decide)])) (fun i hi => by
        by_cases e : i = j
        · rw [e, st_same]; exact hv
        · rw [st_off e]; exact h10 i (by omega))
      exact ⟨R', f1, f2, fun p hp => (f3 p hp).trans (st_ne hp)⟩
    rw [fR_layData_2]
    rw [mlt_t ⟨by omega, by omega⟩ ⟨by decide, by decide⟩ (by omega), mrd_t ⟨by omega, by omega⟩, show (((n : Nat) : Int)).toNat = n by omega, hR.1]
    by_cases z : T 1 n = 0
    · rw [meq_t ⟨by omega, by omega⟩ rI_0 z, mwr_t ⟨by omega, by omega⟩, show (((j : Nat) : Int)).toNat = j by omega]
      exact go 0 (by unfold rw0; rw [if_neg (fun w => w.1 z)])
    · rw [meq_f ⟨by omega, by omega⟩ rI_0 z, mrd_t ⟨by omega, by omega⟩, show (((n : Nat) : Int)).toNat = n by omega, hR.2.2.2.1, he]
      by_cases c : j < sn T n
      · rw [mlt_t ⟨by omega, by omega⟩ ⟨by omega, by omega⟩ (by omega), mrd_t ⟨by omega, by omega⟩, mwr_t ⟨by omega, by omega⟩, show (((j : Nat) : Int)).toNat = j by omega, show (60 * (n : Int) + (j : Int)).toNat = 60 * n + j by omega, hR.2.2.1]
        exact go _ (by unfold rw0 fn; rw [if_pos ⟨z, c⟩])
      · rw [mlt_f ⟨by omega, by omega⟩ ⟨by omega, by omega⟩ (by omega), mwr_t ⟨by omega, by omega⟩, show (((j : Nat) : Int)).toNat = j by omega]
        exact go 0 (by unfold rw0; rw [if_neg (fun w => c w.2)])
theorem rw0_r (hT : Tb T) (hn : n < 16) (j : Nat) : 0 ≤ rw0 T n j ∧ rw0 T n j ≤ 255 := by
  unfold rw0
  by_cases c : ¬ T 1 n = 0 ∧ j < sn T n
  · rw [if_pos c]; exact fn_r hT hn j c.2
  · rw [if_neg c]; omega
/-- all of a node's data -/
theorem data_v (hT : Tb T) (hn : n < 16) (hX : SgX T fl X 16) (hR : SgR T fl R (T 0 1).toNat) : ∃ X' R', fBu_fillData (n : Int) X = some (0, X') ∧ fR_layData (n : Int) R = some (0, R') ∧ Dq X' R' ∧ (∀ p, p ≠ 9 → X' p = X p) ∧ ∀ p, p ≠ 10 → R' p = R p := by
  have hk := hT.2.1 n hn
  obtain ⟨hs, he⟩ := sn_r hT hn
  obtain ⟨R1, e1, e2, e3⟩ := row2 hT hn 192 FU 0 R rfl (by unfold FU; omega) hR.1 (fun i hi => absurd hi (Nat.not_lt_zero _))
  rw [show ((0 : Nat) : Int) = 0 from rfl] at e1
  have fi : ∀ p, p ≠ 9 → fiM X 9 80 0 p = X p := fun p hp => by
    funext j
    show (if p = 9 ∧ _ then _ else _) = _
    rw [if_neg (fun z => hp z.1)]
  have f9 : ∀ j, j < 80 → fiM X 9 80 0 9 j = 0 := fun j hj => by
    show (if 9 = 9 ∧ j < 80 then 0 else _) = (0 : Int)
    rw [if_pos ⟨rfl, hj⟩]
  unfold fBu_fillData fR_layData fTr_kindOf
  rw [mcn_t, e1]
  generalize fiM X 9 80 0 = X1 at fi f9 ⊢
  have hX1 : SgX T fl X1 16 := hX.cg (fun p hp => fi p (by omega))
  have hR1 : SgR T fl R1 (T 0 1).toNat := hR.cg (fun p a b => e3 p (by omega)) (by rw [e3 0 (by decide)])
  rw [mrd_t ⟨by omega, by omega⟩, mcn_t, show (((n : Nat) : Int)).toNat = n by omega, hX1.1.1 n hn]
  by_cases z : T 1 n = 0
  · have dq : Dq X1 R1 := fun j hj => by
      rw [f9 j hj, e2 j (by omega)]
      unfold rw0
      rw [if_neg (fun w => w.1 z)]
      exact ⟨rfl, by omega, by omega⟩
    obtain ⟨X', R', g1, g2, g3, g4, g5⟩ := ents_v hT hn z 26 FU FU 0 X1 R1 rfl (by unfold FU; omega) (by unfold FU; omega) hX1 hR1 dq
    unfold fBu_fillEntries
    rw [show ((3 * ec T n 0 : Nat) : Int) = 0 from rfl, show ((0 : Nat) : Int) = 0 from rfl] at g1 g2
    rw [meq_t ⟨by omega, by omega⟩ rI_0 z, mcn_e g1]
    exact ⟨X', R', rfl, g2, g3, fun p hp => (g4 p hp).trans (fi p hp), fun p hp => (g5 p hp).trans (e3 p hp)⟩
  · unfold fTr_copyContent
    rw [meq_f ⟨by omega, by omega⟩ rI_0 z, mrd_t ⟨by omega, by omega⟩, show (((n : Nat) : Int)).toNat = n by omega, hX1.1.2.2.1 n hn, he, mcp_t ⟨by omega, by omega, by omega, by omega, by omega⟩, mcn_t, show ((n : Int) * 60).toNat = 60 * n by omega, show (0 : Int).toNat = 0 from rfl, show (((sn T n : Nat) : Int)).toNat = sn T n by omega]
    have e59 : fR_layData_59 FU (n : Int) 0 0 R1 = some (0, R1) := by
      rw [show FU = 1999 + 1 from rfl, fR_layData_59]
      rw [mlt_t rI_0 ⟨by decide, by decide⟩ (by decide), mrd_t ⟨by omega, by omega⟩, show (((n : Nat) : Int)).toNat = n by omega, hR1.1.1, meq_f ⟨by omega, by omega⟩ rI_0 z]
    refine ⟨_, R1, rfl, e59, fun j hj => ?_, fun p hp => ?_, e3⟩
    · rw [e2 j (by omega)]
      refine ⟨?_, rw0_r hT hn j⟩
      show (if 9 = 9 ∧ 0 ≤ j ∧ j < 0 + sn T n then X1 5 (60 * n + (j - 0)) else X1 9 j) = _
      unfold rw0
      by_cases c : j < sn T n
      · rw [if_pos ⟨rfl, Nat.zero_le _, by omega⟩, if_pos ⟨z, c⟩, Nat.sub_zero, hX1.1.2.2.2.1 _ (by omega)]
        rfl
      · rw [if_neg (by omega), if_neg (fun w => c w.2), f9 j hj]
    · rw [← fi p hp]
      funext j
      show (if p = 9 ∧ _ then _ else _) = _
      rw [if_neg (fun w => hp w.1)]
end B9
