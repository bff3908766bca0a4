/-! Building: sizes, packing a node, its layout -/
def TgX (T M : Mm) : Prop := (∀ i, i < 16 → M 2 i = T 1 i) ∧ (∀ i, i < 16 → M 3 i = T 5 i) ∧ (∀ i, i < 16 → M 4 i = T 4 i) ∧ (∀ i, i < 960 → M 5 i = T 3 i) ∧ ∀ i, i < 416 → M 6 i = T 2 i
def TgR (T M : Mm) : Prop := M 1 = T 1 ∧ M 2 = T 2 ∧ M 3 = T 3 ∧ M 4 = T 4 ∧ M 5 = T 5 ∧ M 0 1 = T 0 1
def Tb (T : Mm) : Prop := (1 ≤ T 0 1 ∧ T 0 1 ≤ 16) ∧ (∀ i, i < 16 → 0 ≤ T 1 i ∧ T 1 i ≤ 2) ∧ (∀ i : Nat, i < 16 → 0 ≤ T 5 i ∧ T 5 i ≤ 417 ∧ (T 0 1 ≤ (i : Int) → T 5 i = 0)) ∧ (∀ i, i < 16 → 0 ≤ T 4 i ∧ T 4 i ≤ 60) ∧ (∀ i, i < 960 → 0 ≤ T 3 i ∧ T 3 i ≤ 255) ∧ ∀ e, e < 416 → -1 ≤ T 2 e ∧ T 2 e < T 0 1 ∧ (0 ≤ T 2 e → 0 < T 5 (T 2 e).toNat)
theorem cntE_pos {g : Nat → Int} {v : Int} {j : Nat} (hv : g j = v) : ∀ n, j < n → 1 ≤ cntE g v n
  | 0, h => absurd h (Nat.not_lt_zero _)
  | n + 1, h => by
    unfold cntE
    by_cases e : j = n
    · subst e; rw [if_pos hv]; omega
    · have := cntE_pos hv n (by omega)
      omega
theorem RT.tb {X R : Mm} (h : RT X R) : Tb R ∧ TgX R X ∧ TgR R R := by
  obtain ⟨h1, h2, h3, h4, h5, h6⟩ := h
  refine ⟨⟨h1.2, fun i hi => (h2 i hi).2, fun i hi => ?_, fun i hi => ⟨(h4 i hi).2.1, (h4 i hi).2.2.1⟩, fun i hi => (h5 i hi).2, fun e he => ?_⟩, ⟨fun i hi => (h2 i hi).1, fun i hi => (h3 i hi).1, fun i hi => (h4 i hi).1, fun i hi => (h5 i hi).1, fun i hi => (h6 i hi).1⟩, rfl, rfl, rfl, rfl, rfl, rfl⟩
  · have q := (h3 i hi).2
    have hc := cntE_le (R 2) (i : Int) 416
    refine ⟨by rw [q]; split <;> omega, by rw [q]; split <;> omega, fun z => ?_⟩
    rw [q, cntE_none 416 (fun j hj => by have := (h6 j hj).2; omega), if_neg (by omega)]
    rfl
  · have q := (h6 e he).2
    refine ⟨q.1, q.2, fun z => ?_⟩
    have q5 := (h3 (R 2 e).toNat (by omega)).2
    have := cntE_pos (g := R 2) (v := (((R 2 e).toNat : Nat) : Int)) (j := e) (by omega) 416 he
    rw [q5]
    split <;> omega
theorem TgX.cg {T M M' : Mm} (h : TgX T M) (hp : ∀ p, 2 ≤ p → p ≤ 6 → M' p = M p) : TgX T M' := by
  unfold TgX at h ⊢
  rw [hp 2 (by decide) (by decide), hp 3 (by decide) (by decide), hp 4 (by decide) (by decide), hp 5 (by decide) (by decide), hp 6 (by decide) (by decide)]
  exact h
theorem TgR.cg {T M M' : Mm} (h : TgR T M) (hp : ∀ p, 1 ≤ p → p ≤ 5 → M' p = M p) (hk : M' 0 1 = M 0 1) : TgR T M' := by
  unfold TgR at h ⊢
  rw [hp 1 (by decide) (by decide), hp 2 (by decide) (by decide), hp 3 (by decide) (by decide), hp 4 (by decide) (by decide), hp 5 (by decide) (by decide), hk]
  exact h
def ec (T : Mm) (n : Nat) : Nat → Nat
  | 0 => 0
  | c + 1 => ec T n c + (if T 2 (26 * n + c) = -1 then 0 else 1)
theorem ec_r {T : Mm} {n : Nat} : ∀ c, ec T n c ≤ c
  | 0 => Nat.le_refl _
  | c + 1 => by
    have := ec_r (T := T) (n := n) c
    unfold ec
    split <;> omega
def dsz (T : Mm) (n : Nat) : Nat := if T 1 n = 0 then 3 * ec T n 26 else (T 4 n).toNat
def fn (T : Mm) (n : Nat) : Nat → Int := fun k => T 3 (60 * n + k)
def sn (T : Mm) (n : Nat) : Nat := (T 4 n).toNat
def cN (T : Mm) (n : Nat) : Nat := pcn (fn T n) (sn T n) 12 0
def LYo (T : Mm) (fl n : Nat) : Nat := if (T 1 n = 1 ∧ 4 ≤ fl) ∧ cN T n ≤ 11 ∧ cN T n < (dsz T n + 15) / 16 then 2 else if fl % 2 = 1 ∧ 0 < dsz T n % 16 ∧ dsz T n % 16 ≤ 12 then 1 else 0
def LGo (T : Mm) (fl n : Nat) : Nat := if LYo T fl n = 2 then 1 else if LYo T fl n = 1 ∧ 4 < dsz T n % 16 then 1 else 0
section B6
variable {T M : Mm} {n fl : Nat}
theorem dsz_r (hT : Tb T) (hn : n < 16) : dsz T n ≤ 78 := by
  have := ec_r (T := T) (n := n) 26
  have := hT.2.2.2.1 n hn
  unfold dsz
  split <;> omega
theorem LY_r : LYo T fl n ≤ 2 := by
  unfold LYo
  by_cases c : (T 1 n = 1 ∧ 4 ≤ fl) ∧ cN T n ≤ 11 ∧ cN T n < (dsz T n + 15) / 16
  · rw [if_pos c]; omega
  · rw [if_neg c]; split <;> omega
theorem LG_r : LGo T fl n ≤ 1 := by
  unfold LGo
  by_cases c : LYo T fl n = 2
  · rw [if_pos c]; omega
  · rw [if_neg c]; split <;> omega
theorem size_X (hT : Tb T) (hM : TgX T M) (hn : n < 16) : fTr_dataSize (n : Int) M = some ((dsz T n : Int), M) := by
  have hk := hT.2.1 n hn
  have lp : ∀ (k fu c : Nat), c + k = 26 → k < fu → fTr_dataSize_20 fu (n : Int) ((3 * ec T n c : Nat) : Int) (c : Int) M = some (((3 * ec T n 26 : Nat) : Int), M) := by
    intro k
    induction k with
    | zero =>
      intro fu c hc hf
      obtain ⟨fv, rfl⟩ : ∃ fv, fu = fv + 1 := ⟨fu - 1, by omega⟩
      have : c = 26 := by omega
      subst this
      unfold fTr_dataSize_20
      rw [mlt_f ⟨by omega, by omega⟩ ⟨by decide, by decide⟩ (by omega)]
    | succ k ih =>
      intro fu c hc hf
      obtain ⟨fv, rfl⟩ : ∃ fv, fu = fv + 1 := ⟨fu - 1, by omega⟩
      have he := hT.2.2.2.2.2 (26 * n + c) (by omega)
      have := hT.1
      have ih' := ih fv (c + 1) (by omega) (by omega)
      have eu : ec T n (c + 1) = ec T n c + (if T 2 (26 * n + c) = -1 then 0 else 1) := rfl
      rw [fTr_dataSize_20]
      unfold fTr_nodeAt
      rw [mlt_t ⟨by omega, by omega⟩ ⟨by decide, by decide⟩ (by omega), mrd_t ⟨by omega, by omega⟩, mcn_t, show ((n : Int) * 26 + (c : Int)).toNat = 26 * n + c by omega, hM.2.2.2.2 _ (by omega), show (c : Int) + 1 = ((c + 1 : Nat) : Int) by omega]
      by_cases z : T 2 (26 * n + c) = -1
      · rw [if_pos z] at eu
        rw [eu, Nat.add_zero] at ih'
        rw [meq_t ⟨by omega, by omega⟩ ⟨by decide, by decide⟩ z]
        exact ih'
      · rw [if_neg z] at eu
        rw [eu] at ih'
        rw [meq_f ⟨by omega, by omega⟩ ⟨by decide, by decide⟩ z, show ((3 * ec T n c : Nat) : Int) + 3 = ((3 * (ec T n c + 1) : Nat) : Int) by omega]
        exact ih'
  unfold fTr_dataSize dsz
  rw [mrd_t ⟨by omega, by omega⟩, show (((n : Nat) : Int)).toNat = n by omega, hM.1 n hn]
  by_cases z : T 1 n = 0
  · rw [meq_t ⟨by omega, by omega⟩ rI_0 z, if_pos z]
    exact lp 26 FU 0 rfl (by unfold FU; omega)
  · have := hT.2.2.2.1 n hn
    rw [meq_f ⟨by omega, by omega⟩ rI_0 z, if_neg z, mrd_t ⟨by omega, by omega⟩, show (((n : Nat) : Int)).toNat = n by omega, hM.2.2.1 n hn, show (((T 4 n).toNat : Nat) : Int) = T 4 n by omega]
theorem size_R (hT : Tb T) (hM : TgR T M) (hn : n < 16) : fR_sizeOf (n : Int) M = some ((dsz T n : Int), M) := by
  have hk := hT.2.1 n hn
  have lp : ∀ (k fu c : Nat), c + k = 26 → k < fu → fR_sizeOf_20 fu (n : Int) (ec T n c : Int) (c : Int) M = some (((3 * ec T n 26 : Nat) : Int), M) := by
    intro k
    induction k with
    | zero =>
      intro fu c hc hf
      obtain ⟨fv, rfl⟩ : ∃ fv, fu = fv + 1 := ⟨fu - 1, by omega⟩
      have : c = 26 := by omega
      subst this
      unfold fR_sizeOf_20
      rw [mlt_f ⟨by omega, by omega⟩ ⟨by decide, by decide⟩ (by omega), show 3 * (ec T n 26 : Int) = ((3 * ec T n 26 : Nat) : Int) by omega]
    | succ k ih =>
      intro fu c hc hf
      obtain ⟨fv, rfl⟩ : ∃ fv, fu = fv + 1 := ⟨fu - 1, by omega⟩
      have he := hT.2.2.2.2.2 (26 * n + c) (by omega)
      have := hT.1
      have ih' := ih fv (c + 1) (by omega) (by omega)
      have eu : ec T n (c + 1) = ec T n c + (if T 2 (26 * n + c) = -1 then 0 else 1) := rfl
      rw [fR_sizeOf_20]
      rw [mlt_t ⟨by omega, by omega⟩ ⟨by decide, by decide⟩ (by omega), mrd_t ⟨by omega, by omega⟩, show (26 * (n : Int) + (c : Int)).toNat = 26 * n + c by omega, hM.2.1, show (c : Int) + 1 = ((c + 1 : Nat) : Int) by omega]
      by_cases z : T 2 (26 * n + c) = -1
      · rw [if_pos z] at eu
        rw [eu, Nat.add_zero] at ih'
        rw [meq_t ⟨by omega, by omega⟩ ⟨by decide, by decide⟩ z, Int.add_zero]
        exact ih'
      · rw [if_neg z] at eu
        rw [eu] at ih'
        rw [meq_f ⟨by omega, by omega⟩ ⟨by decide, by decide⟩ z, show (ec T n c : Int) + 1 = ((ec T n c + 1 : Nat) : Int) by omega]
        exact ih'
  unfold fR_sizeOf dsz
  rw [mrd_t ⟨by omega, by omega⟩, show (((n : Nat) : Int)).toNat = n by omega, hM.1]
  by_cases z : T 1 n = 0
  · rw [meq_t ⟨by omega, by omega⟩ rI_0 z, if_pos z]
    exact lp 26 FU 0 rfl (by unfold FU; omega)
  · have := hT.2.2.2.1 n hn
    rw [meq_f ⟨by omega, by omega⟩ rI_0 z, if_neg z, mrd_t ⟨by omega, by omega⟩, show (((n : Nat) : Int)).toNat = n by omega, hM.2.2.2.1, show (((T 4 n).toNat : Nat) : Int) = T 4 n by omega]
theorem fn_r (hT : Tb T) (hn : n < 16) : ∀ k, k < sn T n → 0 ≤ fn T n k ∧ fn T n k ≤ 255 := fun k hk => by
  have := hT.2.2.2.1 n hn
  unfold sn at hk
  exact hT.2.2.2.2.1 _ (by omega)
theorem sn_r (hT : Tb T) (hn : n < 16) : sn T n ≤ 60 ∧ T 4 n = (sn T n : Int) := by
  have := hT.2.2.2.1 n hn
  unfold sn
  omega
theorem pack_X (hT : Tb T) (hM : TgX T M) (hn : n < 16) : ∃ M', fPa_packContent (n : Int) M = some (if sn T n ≤ aq (fn T n) (sn T n) (pcn (fn T n) (sn T n) 11 0) then 1 else 0, M') ∧ M' 12 4 = (pcn (fn T n) (sn T n) 11 0 : Int) ∧ PkX (fn T n) (sn T n) M' (pcn (fn T n) (sn T n) 11 0) ∧ FpX M M' := by
  obtain ⟨hs, he⟩ := sn_r hT hn
  have hr := fn_r hT hn
  unfold fPa_packContent fTr_copyContent fTr_contentSize
  rw [mrd_t ⟨by omega, by omega⟩, show (((n : Nat) : Int)).toNat = n by omega, hM.2.2.1 n hn, he, mcp_t ⟨by omega, by omega, by omega, by omega, by omega⟩, mcn_t, mrd_t ⟨by omega, by omega⟩, mcn_t, show (((n : Nat) : Int)).toNat = n by omega, show ((n : Int) * 60).toNat = 60 * n by omega, show (0 : Int).toNat = 0 from rfl, show (((sn T n : Nat) : Int)).toNat = sn T n by omega]
  have c4 : cpM M 5 13 (60 * n) 0 (sn T n) 4 n = (sn T n : Int) := by
    show (if 4 = 13 ∧ _ then _ else _) = _
    rw [if_neg (by omega), hM.2.2.1 n hn, he]
  have cp : ∀ p, p ≠ 13 → cpM M 5 13 (60 * n) 0 (sn T n) p = M p := fun p hp => by
    funext j
    show (if p = 13 ∧ _ then _ else _) = _
    rw [if_neg (fun z => hp z.1)]
  have c13 : ∀ k, k < sn T n → cpM M 5 13 (60 * n) 0 (sn T n) 13 k = fn T n k := fun k hk => by
    show (if 13 = 13 ∧ 0 ≤ k ∧ k < 0 + sn T n then M 5 (60 * n + (k - 0)) else _) = _
    rw [if_pos ⟨rfl, Nat.zero_le _, by omega⟩, Nat.sub_zero, hM.2.2.2.1 _ (by omega)]
    rfl
  rw [c4, mput_t, mcn_t, mput_t, mput_t]
  generalize cpM M 5 13 (60 * n) 0 (sn T n) = M1 at cp c13 ⊢
  have fi : ∀ p, p ≠ 14 → fiM (st M1 12 3 (sn T n : Int)) 14 176 0 p = st M1 12 3 (sn T n : Int) p := fun p hp => by
    funext j
    show (if p = 14 ∧ _ then _ else _) = _
    rw [if_neg (fun z => hp z.1)]
  have f14 : ∀ j, j < 176 → fiM (st M1 12 3 (sn T n : Int)) 14 176 0 14 j = 0 := fun j hj => by
    show (if 14 = 14 ∧ j < 176 then 0 else _) = (0 : Int)
    rw [if_pos ⟨rfl, hj⟩]
  generalize fiM (st M1 12 3 (sn T n : Int)) 14 176 0 = M2 at fi f14 ⊢
  obtain ⟨M', g1, g2, g3, g4⟩ := pack36 (f := fn T n) hs hr 11 FU 0 (st (st M2 12 6 0) 12 4 0) rfl (by unfold FU; omega) (fun k hk => by rw [st_ne (by decide), st_ne (by decide), fi 13 (by decide), st_ne (by decide)]; exact c13 k hk) (by rw [st_off (by decide), st_off (by decide), fi 12 (by decide), st_same]) st_same (by rw [st_off (by decide), st_same]; rfl) (fun j _ hj => by rw [st_ne (by decide), st_ne (by decide)]; exact f14 j hj) (fun q hq => absurd hq (Nat.not_lt_zero _))
  refine ⟨M', g1, g2, g3, fun p a b c d => ?_⟩
  rw [g4 p a b c d, st_ne a, st_ne a, fi p c, st_ne a, cp p b]
theorem pack_R (hT : Tb T) (hM : TgR T M) (hn : n < 16) : ∃ M', fR_pack (n : Int) M = some ((cN T n : Int), M') ∧ PkR (fn T n) (sn T n) M' (cN T n) ∧ FpR M M' := by
  obtain ⟨hs, he⟩ := sn_r hT hn
  have hr := fn_r hT hn
  have := pack4 (f := fn T n) hn hs hr 12 FU 0 M rfl (by unfold FU; omega) (fun k hk => by rw [hM.2.2.1]; rfl) (by rw [hM.2.2.2.1]; exact he) (fun q hq => absurd hq (Nat.not_lt_zero _))
  exact this
end B6
