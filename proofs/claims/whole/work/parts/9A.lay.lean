/-! Building: layouts and slots, on both sides -/
def SLo (T : Mm) (fl : Nat) : Nat → Nat
  | 0 => 0
  | i + 1 => SLo T fl i + (if T 5 i = 0 then 0 else 1 + LGo T fl i)
/-- what choosing leaves as it was in the class -/
def FgX (M M' : Mm) : Prop := (∀ p, (p < 10 ∧ p ≠ 7) ∨ 16 ≤ p → M' p = M p) ∧ ∀ k, k ≠ 5 → M' 7 k = M 7 k
def FgR (M M' : Mm) : Prop := (∀ p, (1 ≤ p ∧ p ≤ 5) ∨ p = 9 ∨ p = 10 ∨ 13 ≤ p → M' p = M p) ∧ ∀ k, k ≠ 14 → k ≠ 15 → M' 0 k = M 0 k
section B7
variable {T M : Mm} {n fl : Nat}
theorem SL_r : ∀ i, SLo T fl i ≤ 2 * i
  | 0 => Nat.le_refl _
  | i + 1 => by
    have := SL_r i
    have := LG_r (T := T) (fl := fl) (n := i)
    unfold SLo
    split <;> omega
theorem SL_mono : ∀ (k i : Nat), SLo T fl i ≤ SLo T fl (i + k)
  | 0, _ => Nat.le_refl _
  | k + 1, i => by
    have := SL_mono k i
    show _ ≤ SLo T fl (i + k) + _
    omega
theorem land4 : ∀ x, x < 8 → ((x &&& 4) = 0 ↔ x < 4) := by decide
theorem land2 : ∀ x, x < 8 → ((x &&& 2) = 0 ↔ x / 2 % 2 = 0) := by decide
/-- is it packed, for the class and for the reference? -/
theorem c11 (h : 0 < 1) : (sn T n ≤ aq (fn T n) (sn T n) (pcn (fn T n) (sn T n) 11 0) ↔ cN T n ≤ 11) ∧ (cN T n ≤ 11 → pcn (fn T n) (sn T n) 11 0 = cN T n) := by
  have := pcn_s (f := fn T n) (s := sn T n) 11 0
  unfold cN
  rcases this with ⟨h1, h2⟩ | ⟨h1, h2, h3⟩
  · have := pcn_r (f := fn T n) (s := sn T n) 11 0
    rw [show 11 + 1 = 12 from rfl] at h2
    rw [h2]
    exact ⟨⟨fun _ => by omega, fun _ => h1⟩, fun _ => rfl⟩
  · rw [show 11 + 1 = 12 from rfl] at h3
    rw [h3]
    exact ⟨⟨fun z => by omega, fun z => by omega⟩, fun z => by omega⟩
theorem choose_X (hT : Tb T) (hM : TgX T M) (hn : n < 16) (hfl : fl < 8) : ∃ M', fBu_chooseLayout (n : Int) (fl : Int) M = some ((LYo T fl n : Int), M') ∧ FpX M M' := by
  have hk := hT.2.1 n hn
  have hd := dsz_r hT hn
  have e63 : ∀ Q : Mm, ¬ ((T 1 n = 1 ∧ 4 ≤ fl) ∧ cN T n ≤ 11 ∧ cN T n < (dsz T n + 15) / 16) → fBu_chooseLayout_63 (fl : Int) (dsz T n : Int) Q = some ((LYo T fl n : Int), Q) := fun Q hno => by
    unfold fBu_chooseLayout_63 LYo
    rw [if_neg hno, mrem_t ⟨by omega, by omega, by omega, by omega⟩]
    by_cases a : fl % 2 = 0
    · rw [meq_t ⟨by omega, by omega⟩ rI_0 (by omega), if_neg (by omega)]; rfl
    · rw [meq_f ⟨by omega, by omega⟩ rI_0 (by omega)]
      by_cases b : 0 < dsz T n % 16
      · rw [mlt_t rI_0 ⟨by omega, by omega⟩ (by omega)]
        by_cases c : 12 < dsz T n % 16
        · rw [mlt_t ⟨by decide, by decide⟩ ⟨by omega, by omega⟩ (by omega), if_neg (by omega)]; rfl
        · rw [mlt_f ⟨by decide, by decide⟩ ⟨by omega, by omega⟩ (by omega), if_pos (by omega)]; rfl
      · rw [mlt_f rI_0 ⟨by omega, by omega⟩ (by omega), if_neg (by omega)]; rfl
  have e19 : ¬ (T 1 n = 1 ∧ 4 ≤ fl) → fBu_chooseLayout_19 (n : Int) (fl : Int) M = some ((LYo T fl n : Int), M) := fun hno => by
    unfold fBu_chooseLayout_19 fBu_chooseLayout_20
    rw [mcn_e (size_X hT hM hn), meq_t rI_0 rI_0 rfl, e63 M (fun z => hno z.1)]
  have hl4 := land4 fl hfl
  unfold fBu_chooseLayout
  rw [mland_t ⟨by omega, by omega, by omega, by omega⟩, show (((fl : Nat) : Int)).toNat = fl by omega, show (4 : Int).toNat = 4 from rfl]
  have hle : fl &&& 4 ≤ 4 := Nat.and_le_right
  by_cases a : fl < 4
  · rw [meq_t ⟨by omega, by omega⟩ rI_0 (by have := hl4.mpr a; omega), e19 (by omega)]
    exact ⟨M, rfl, fun _ _ _ _ _ => rfl⟩
  · unfold fTr_kindOf
    rw [meq_f ⟨by omega, by omega⟩ rI_0 (fun z => a (hl4.mp (by omega))), mrd_t ⟨by omega, by omega⟩, mcn_t, show (((n : Nat) : Int)).toNat = n by omega, hM.1 n hn]
    by_cases b : T 1 n = 1
    · obtain ⟨M1, e1, e2, e3, e4⟩ := pack_X hT hM hn
      obtain ⟨g1, g2⟩ := c11 (T := T) (n := n) (by omega)
      unfold fBu_chooseLayout_20
      rw [meq_t ⟨by omega, by omega⟩ ⟨by decide, by decide⟩ b, mcn_e (size_X hT hM hn), meq_f (a := 1) ⟨by decide, by decide⟩ rI_0 (by decide), mcn_e e1]
      by_cases c : cN T n ≤ 11
      · rw [if_pos (g1.mpr c), meq_f (a := 1) ⟨by decide, by decide⟩ rI_0 (by decide), mcn_e (blocksFor_vX ⟨by omega, by omega⟩), e2, g2 c]
        by_cases d : cN T n < (dsz T n + 15) / 16
        · rw [mlt_t ⟨by omega, by omega⟩ ⟨by omega, by omega⟩ (by omega)]
          refine ⟨M1, ?_, e4⟩
          unfold LYo
          rw [if_pos ⟨⟨b, by omega⟩, c, d⟩]
          rfl
        · rw [mlt_f ⟨by omega, by omega⟩ ⟨by omega, by omega⟩ (by omega), e63 M1 (fun z => d z.2.2)]
          exact ⟨M1, rfl, e4⟩
      · rw [if_neg (fun z => c (g1.mp z)), meq_t rI_0 rI_0 rfl, e63 M1 (fun z => c z.2.1)]
        exact ⟨M1, rfl, e4⟩
    · rw [meq_f ⟨by omega, by omega⟩ ⟨by decide, by decide⟩ b, e19 (fun z => b z.1)]
      exact ⟨M, rfl, fun _ _ _ _ _ => rfl⟩
theorem long_X (hT : Tb T) (hM : TgX T M) (hn : n < 16) (h11 : M 11 n = (LYo T fl n : Int)) : fBu_isLong (n : Int) M = some ((LGo T fl n : Int), M) := by
  have hd := dsz_r hT hn
  have hl := LY_r (T := T) (fl := fl) (n := n)
  unfold fBu_isLong LGo
  rw [mrd_t ⟨by omega, by omega⟩, show (((n : Nat) : Int)).toNat = n by omega, h11]
  by_cases a : LYo T fl n = 2
  · rw [meq_t ⟨by omega, by omega⟩ ⟨by decide, by decide⟩ (by omega), if_pos a]; rfl
  · rw [meq_f ⟨by omega, by omega⟩ ⟨by decide, by decide⟩ (by omega), if_neg a, mrd_t ⟨by omega, by omega⟩, show (((n : Nat) : Int)).toNat = n by omega, h11]
    by_cases b : LYo T fl n = 1
    · rw [meq_t ⟨by omega, by omega⟩ ⟨by decide, by decide⟩ (by omega), mcn_e (size_X hT hM hn), mrem_t ⟨by omega, by omega, by omega, by omega⟩]
      by_cases c : 4 < dsz T n % 16
      · rw [mlt_t ⟨by decide, by decide⟩ ⟨by omega, by omega⟩ (by omega), if_pos ⟨b, c⟩]; rfl
      · rw [mlt_f ⟨by decide, by decide⟩ ⟨by omega, by omega⟩ (by omega), if_neg (fun z => c z.2)]; rfl
    · rw [meq_f ⟨by omega, by omega⟩ ⟨by decide, by decide⟩ (by omega), if_neg (fun z => b z.1)]; rfl
theorem choose_R (hT : Tb T) (hM : TgR T M) (hn : n < 16) (hfl : fl < 8) : ∃ M', fR_choose (n : Int) (fl : Int) M = some (0, M') ∧ M' 7 n = (LYo T fl n : Int) ∧ M' 8 n = (LGo T fl n : Int) ∧ (∀ j, j ≠ n → M' 7 j = M 7 j ∧ M' 8 j = M 8 j) ∧ (∀ p, p ≠ 0 → p ≠ 7 → p ≠ 8 → p ≠ 11 → p ≠ 12 → M' p = M p) ∧ ∀ k, k ≠ 14 → k ≠ 15 → M' 0 k = M 0 k := by
  have hk := hT.2.1 n hn
  have hd := dsz_r hT hn
  have hM4 : TgR T (st (st M 7 n 0) 8 n 0) := hM.cg (fun p a b => by rw [st_ne (by omega), st_ne (by omega)]) (by rw [st_ne (by decide), st_ne (by decide)])
  have fin : ∀ Q : Mm, FpR (st (st M 7 n 0) 8 n 0) Q → ∀ v w : Int, (v = 0 ∨ v = 1 ∨ v = 2) → v = (LYo T fl n : Int) → w = (LGo T fl n : Int) → ∀ Q' : Mm, Q' = st (st Q 7 n v) 8 n w → Q' 7 n = (LYo T fl n : Int) ∧ Q' 8 n = (LGo T fl n : Int) ∧ (∀ j, j ≠ n → Q' 7 j = M 7 j ∧ Q' 8 j = M 8 j) ∧ (∀ p, p ≠ 0 → p ≠ 7 → p ≠ 8 → p ≠ 11 → p ≠ 12 → Q' p = M p) ∧ ∀ k, k ≠ 14 → k ≠ 15 → Q' 0 k = M 0 k := fun Q hQ v w _ hv hw Q' hQ' => by
    subst hQ'
    refine ⟨by rw [st_ne (by decide), st_same]; exact hv, by rw [st_same]; exact hw, fun j hj => ⟨?_, ?_⟩, fun p h0 h7 h8 h11 h12 => ?_, fun k h1 h2 => ?_⟩
    · rw [st_ne (by decide), st_off hj, hQ.1 7 (by decide) (by decide) (by decide), st_ne (by decide), st_off hj]
    · rw [st_off hj, st_ne (by decide), hQ.1 8 (by decide) (by decide) (by decide), st_off hj, st_ne (by decide)]
    · rw [st_ne h8, st_ne h7, hQ.1 p h0 h11 h12, st_ne h8, st_ne h7]
    · rw [st_ne (by decide), st_ne (by decide), hQ.2 k h1 h2, st_ne (by decide), st_ne (by decide)]
  have same : ∀ Q : Mm, FpR (st (st M 7 n 0) 8 n 0) Q → Q = st (st Q 7 n 0) 8 n 0 := fun Q hQ => by
    have q7 : Q 7 n = 0 := by rw [hQ.1 7 (by decide) (by decide) (by decide), st_ne (by decide), st_same]
    have q8 : Q 8 n = 0 := by rw [hQ.1 8 (by decide) (by decide) (by decide), st_same]
    funext p j
    unfold st
    by_cases e : p = 8 ∧ j = n
    · rw [if_pos e, e.1, e.2, q8]
    · rw [if_neg e]
      by_cases e' : p = 7 ∧ j = n
      · rw [if_pos e', e'.1, e'.2, q7]
      · rw [if_neg e']
  have e86 : ∀ Q : Mm, FpR (st (st M 7 n 0) 8 n 0) Q → ¬ ((T 1 n = 1 ∧ 4 ≤ fl) ∧ cN T n ≤ 11 ∧ cN T n < (dsz T n + 15) / 16) → ∃ M', fR_choose_86 (n : Int) (fl : Int) ((dsz T n : Int) % 16) Q = some (0, M') ∧ M' 7 n = (LYo T fl n : Int) ∧ M' 8 n = (LGo T fl n : Int) ∧ (∀ j, j ≠ n → M' 7 j = M 7 j ∧ M' 8 j = M 8 j) ∧ (∀ p, p ≠ 0 → p ≠ 7 → p ≠ 8 → p ≠ 11 → p ≠ 12 → M' p = M p) ∧ ∀ k, k ≠ 14 → k ≠ 15 → M' 0 k = M 0 k := fun Q hQ hno => by
    have eL : LYo T fl n = if fl % 2 = 1 ∧ 0 < dsz T n % 16 ∧ dsz T n % 16 ≤ 12 then 1 else 0 := by unfold LYo; rw [if_neg hno]
    have none' : LYo T fl n = 0 → ∃ M', some ((0 : Int), Q) = some (0, M') ∧ M' 7 n = (LYo T fl n : Int) ∧ M' 8 n = (LGo T fl n : Int) ∧ (∀ j, j ≠ n → M' 7 j = M 7 j ∧ M' 8 j = M 8 j) ∧ (∀ p, p ≠ 0 → p ≠ 7 → p ≠ 8 → p ≠ 11 → p ≠ 12 → M' p = M p) ∧ ∀ k, k ≠ 14 → k ≠ 15 → M' 0 k = M 0 k := fun z => by
      have hg : LGo T fl n = 0 := by unfold LGo; rw [z, if_neg (by decide), if_neg (by omega)]
      exact ⟨Q, rfl, fin Q hQ 0 0 (Or.inl rfl) (by rw [z]; rfl) (by rw [hg]; rfl) Q (same Q hQ)⟩
    unfold fR_choose_86
    rw [mrem_t ⟨by omega, by omega, by omega, by omega⟩]
    by_cases a : fl % 2 = 1
    · rw [meq_t ⟨by omega, by omega⟩ ⟨by decide, by decide⟩ (by omega)]
      by_cases b : 0 < dsz T n % 16
      · rw [mlt_t rI_0 ⟨by omega, by omega⟩ (by omega)]
        by_cases c : 12 < dsz T n % 16
        · rw [mlt_t ⟨by decide, by decide⟩ ⟨by omega, by omega⟩ (by omega)]
          exact none' (by rw [eL, if_neg (by omega)])
        · have e1 : LYo T fl n = 1 := by rw [eL, if_pos (by omega)]
          rw [mlt_f ⟨by decide, by decide⟩ ⟨by omega, by omega⟩ (by omega), mwr_t ⟨by omega, by omega⟩, show (((n : Nat) : Int)).toNat = n by omega]
          by_cases d : 4 < dsz T n % 16
          · have eg : LGo T fl n = 1 := by unfold LGo; rw [e1, if_neg (by decide), if_pos ⟨rfl, d⟩]
            rw [mlt_t ⟨by decide, by decide⟩ ⟨by omega, by omega⟩ (by omega), mwz_t ⟨⟨by omega, by omega⟩, by omega, by omega⟩, show (((n : Nat) : Int)).toNat = n by omega]
            exact ⟨_, rfl, fin Q hQ 1 1 (by omega) (by rw [e1]; rfl) (by rw [eg]; rfl) _ rfl⟩
          · have eg : LGo T fl n = 0 := by unfold LGo; rw [e1, if_neg (by decide), if_neg (fun z => d z.2)]
            rw [mlt_f ⟨by decide, by decide⟩ ⟨by omega, by omega⟩ (by omega), mwz_t ⟨⟨by omega, by omega⟩, by omega, by omega⟩, show (((n : Nat) : Int)).toNat = n by omega]
            exact ⟨_, rfl, fin Q hQ 1 0 (by omega) (by rw [e1]; rfl) (by rw [eg]; rfl) _ rfl⟩
      · rw [mlt_f rI_0 ⟨by omega, by omega⟩ (by omega)]
        exact none' (by rw [eL, if_neg (by omega)])
    · rw [meq_f ⟨by omega, by omega⟩ ⟨by decide, by decide⟩ (by omega)]
      exact none' (by rw [eL, if_neg (by omega)])
  have rf : FpR (st (st M 7 n 0) 8 n 0) (st (st M 7 n 0) 8 n 0) := ⟨fun _ _ _ _ => rfl, fun _ _ _ => rfl⟩
  unfold fR_choose fR_choose_43
  rw [mcn_e (size_R hT hM hn), mwr_t ⟨by omega, by omega⟩, show (((n : Nat) : Int)).toNat = n by omega, mwz_t ⟨⟨by omega, by omega⟩, by omega, by omega⟩, mrd_t ⟨by omega, by omega⟩, show (((n : Nat) : Int)).toNat = n by omega, hM4.1]
  have e45 : ¬ (T 1 n = 1 ∧ 4 ≤ fl) → ∃ M', fR_choose_45 (n : Int) (fl : Int) (dsz T n : Int) 99 (st (st M 7 n 0) 8 n 0) = some (0, M') ∧ M' 7 n = (LYo T fl n : Int) ∧ M' 8 n = (LGo T fl n : Int) ∧ (∀ j, j ≠ n → M' 7 j = M 7 j ∧ M' 8 j = M 8 j) ∧ (∀ p, p ≠ 0 → p ≠ 7 → p ≠ 8 → p ≠ 11 → p ≠ 12 → M' p = M p) ∧ ∀ k, k ≠ 14 → k ≠ 15 → M' 0 k = M 0 k := fun hno => by
    unfold fR_choose_45
    rw [mrem_t ⟨by omega, by omega, by omega, by omega⟩, mlt_t ⟨by decide, by decide⟩ ⟨by decide, by decide⟩ (by decide)]
    exact e86 _ rf (fun z => hno z.1)
  by_cases b : T 1 n = 1
  · rw [meq_t ⟨by omega, by omega⟩ ⟨by decide, by decide⟩ b]
    by_cases a : fl < 4
    · rw [mlt_t ⟨by omega, by omega⟩ ⟨by decide, by decide⟩ (by omega)]
      exact e45 (by omega)
    · obtain ⟨M1, e1, e2, e3⟩ := pack_R hT hM4 hn
      have hcr := pcn_r (f := fn T n) (s := sn T n) 12 0
      have hc12 : cN T n ≤ 12 := by unfold cN; omega
      unfold fR_choose_45
      rw [mlt_f ⟨by omega, by omega⟩ ⟨by decide, by decide⟩ (by omega), mcn_e e1, mrem_t ⟨by omega, by omega, by omega, by omega⟩]
      by_cases c : cN T n ≤ 11
      · rw [mlt_f ⟨by decide, by decide⟩ ⟨by omega, by omega⟩ (by omega), mcn_e (blocksFor_vR ⟨by omega, by omega⟩)]
        by_cases d : cN T n < (dsz T n + 15) / 16
        · have e1 : LYo T fl n = 2 := by unfold LYo; rw [if_pos ⟨⟨b, by omega⟩, c, d⟩]
          have eg : LGo T fl n = 1 := by unfold LGo; rw [if_pos e1]
          rw [mlt_t ⟨by omega, by omega⟩ ⟨by omega, by omega⟩ (by omega), mwr_t ⟨by omega, by omega⟩, mwz_t ⟨⟨by omega, by omega⟩, by omega, by omega⟩, show (((n : Nat) : Int)).toNat = n by omega]
          exact ⟨_, rfl, fin M1 e3 2 1 (by omega) (by rw [e1]; rfl) (by rw [eg]; rfl) _ rfl⟩
        · rw [mlt_f ⟨by omega, by omega⟩ ⟨by omega, by omega⟩ (by omega)]
          exact e86 _ e3 (fun z => d z.2.2)
      · rw [mlt_t ⟨by decide, by decide⟩ ⟨by omega, by omega⟩ (by omega)]
        exact e86 _ e3 (fun z => c z.2.1)
  · rw [meq_f ⟨by omega, by omega⟩ ⟨by decide, by decide⟩ b]
    exact e45 (fun z => b z.1)
end B7
