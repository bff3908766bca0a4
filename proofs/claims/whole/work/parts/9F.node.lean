/-! Building: an inode, on both sides -/
/-- what an inode's writing leaves as it was -/
def FnX (X X' : Mm) : Prop := (∀ p, p < 7 ∨ p = 10 ∨ p = 11 ∨ 16 ≤ p → X' p = X p) ∧ ∀ k, k ≠ 7 → X' 7 k = X 7 k
def FnR (R R' : Mm) : Prop := (∀ p, (1 ≤ p ∧ p ≤ 8) ∨ 13 ≤ p → R' p = R p) ∧ ∀ k, k ≠ 14 → k ≠ 15 → R' 0 k = R 0 k
theorem tagv : ∀ a, a < 2 → ∀ b, b < 3 → ∀ c, c < 3 → ((a ||| (b * 2)) ||| (c * 8)) = a + 2 * b + 8 * c ∧ (a ||| (b * 2)) < 100 := by decide
section BC
variable {T X R : Mm} {fl n fd us : Nat}
/-- how both sides end -/
def Zn (T : Mm) (fl n fd us : Nat) (X R : Mm) (q r : Option (Int × Mm)) : Prop := ∃ (g : Int) (X' : Mm) (e : Nat) (R' : Mm), q = some (g, X') ∧ r = some ((e : Int), R') ∧ FnX X X' ∧ FnR R R' ∧ ((g = 0 ∧ 64 < e ∧ e ≤ 80) ∨ (g = 1 ∧ (us ≤ e ∧ e ≤ 64) ∧ Im X' R' ∧ X' 7 7 = (e : Int) ∧ ∀ j, 16 + 8 * SLo T fl (n + 1) ≤ j → j < 16 * fd → R' 9 j = 0))
/-- the rest of an inode once header, rest and row lie there -/
theorem rest_v {X5 R5 : Mm} {k1 n1 b a : Nat} (hfl : fl < 8) (hI : Im X5 R5) (hr : Rq k1 X5 R5 b) (hn1 : 16 * b ≤ n1) (hb : b ≤ 11) (hu : 1 ≤ fd ∧ fd ≤ us ∧ us ≤ 64) (h6 : X5 7 6 = (fd : Int)) (h7 : X5 7 7 = (us : Int)) (ha : a + 8 ≤ 16 + 8 * SLo T fl (n + 1)) (ha' : a + 8 ≤ 16 * fd) (h0 : R5 9 (a + 2) = 0) (hz : ∀ j, 16 + 8 * SLo T fl (n + 1) ≤ j → j < 16 * fd → R5 9 j = 0) (fx : FnX X X5) (fr : FnR R R5) : Zn T fl n fd us X R (mcn (fBu_settle k1 n1 (b : Int) (fl : Int) X5) fun v M => fBu_putInode_207 (a : Int) v M) (fR_write_271 (fd : Int) (us : Int) (if decide ((fl &&& 2) = 0) = true then 0 else 1) (a : Int) (b : Int) R5) := by
  obtain ⟨g, X', e, R', f1, f2, f3, f4, f5, f6⟩ := fin_v (k1 := k1) (n1 := n1) (fl := fl) (a := a) hfl hI hr hn1 hb hu h6 h7 (by omega) h0
  refine ⟨g, X', e, R', f1, f2, ⟨fun p hp => ?_, fun k hk => ?_⟩, ⟨fun p hp => ?_, fun k h1 h2 => ?_⟩, ?_⟩
  · rw [f4 p (by omega) (by omega)]; exact fx.1 p hp
  · rw [f5 k hk]; exact fx.2 k hk
  · rw [f3 p (by omega)]; exact fr.1 p hp
  · rw [f3 0 (by decide)]; exact fr.2 k h1 h2
  · rcases f6 with f6 | ⟨g1, g2, g3, g4, g5⟩
    · exact Or.inl f6
    · exact Or.inr ⟨g1, g2, g3, g4, fun j h1 h2 => by rw [g5 j h2 (by omega)]; exact hz j h1 h2⟩
theorem node_v (hT : Tb T) (hfl : fl < 8) (hn : (n : Int) < T 0 1) (hlk : ¬ T 5 n = 0) (hX : SgX T fl X 16) (hR : SgR T fl R (T 0 1).toNat) (hI : Im X R) (hfd : fd = 1 + (SLo T fl 16 + 1) / 2) (hu : fd ≤ us ∧ us ≤ 64) (h6 : X 7 6 = (fd : Int)) (h7 : X 7 7 = (us : Int)) (hz : ∀ j, 16 + 8 * SLo T fl n ≤ j → j < 16 * fd → R 9 j = 0) : Zn T fl n fd us X R (fBu_putInode (n : Int) (fl : Int) X) (fR_write (n : Int) (fd : Int) (us : Int) (if decide ((fl &&& 2) = 0) = true then 0 else 1) R) := by
  have h1 := hT.1
  have hn16 : n < 16 := by omega
  have hd := dsz_r hT hn16
  have hk := hT.2.1 n hn16
  have hc := hT.2.2.1 n hn16
  have hly := LY_r (T := T) (fl := fl) (n := n)
  have hlg := LG_r (T := T) (fl := fl) (n := n)
  have sx := (hX.2.2 n hn16).1 hlk
  have sr := hR.2 n (by omega) hlk
  have hs1 := SL_mono (T := T) (fl := fl) (16 - (n + 1)) (n + 1)
  rw [show n + 1 + (16 - (n + 1)) = 16 by omega] at hs1
  have eu : SLo T fl (n + 1) = SLo T fl n + (1 + LGo T fl n) := by show SLo T fl n + (if T 5 n = 0 then 0 else 1 + LGo T fl n) = _; rw [if_neg hlk]
  have hs2 := SL_r (T := T) (fl := fl) 16
  obtain ⟨kd, hkd⟩ : ∃ kd : Nat, T 1 n = (kd : Int) := ⟨(T 1 n).toNat, by omega⟩
  obtain ⟨tg1, tg2⟩ := tagv (LGo T fl n) (by omega) kd (by omega) (LYo T fl n) (by omega)
  obtain ⟨a, hadef⟩ : ∃ a, a = 16 + 8 * SLo T fl n := ⟨_, rfl⟩
  have ea : (16 : Int) + (SLo T fl n : Int) * 8 = (a : Int) := by omega
  have ea' : (16 : Int) + 8 * (SLo T fl n : Int) = (a : Int) := by omega
  -- the class up to the choice
  have eX : fBu_putInode (n : Int) (fl : Int) X = fBu_putInode_41 (n : Int) (fl : Int) (dsz T n : Int) (a : Int) (a : Int) (LGo T fl n : Int) X := by
    unfold fBu_putInode
    rw [mcn_e (size_X hT hX.1 hn16), mrd_t ⟨by omega, by omega⟩, show (((n : Nat) : Int)).toNat = n by omega, sx.1, mcn_e (long_X hT hX.1 hn16 sx.2), ea]
    by_cases c : LGo T fl n = 0
    · rw [meq_t ⟨by omega, by omega⟩ rI_0 (by omega), c]; rfl
    · rw [meq_f ⟨by omega, by omega⟩ rI_0 (by omega), show LGo T fl n = 1 by omega]; rfl
  -- the head's three bytes
  have hv1 : (0 : Int) ≤ ((LGo T fl n + 2 * kd + 8 * LYo T fl n : Nat) : Int) ∧ ((LGo T fl n + 2 * kd + 8 * LYo T fl n : Nat) : Int) ≤ 255 := ⟨by omega, by omega⟩
  have hv3 : 0 ≤ T 5 n % 256 ∧ T 5 n % 256 ≤ 255 := by omega
  have e41 : fBu_putInode_41 (n : Int) (fl : Int) (dsz T n : Int) (a : Int) (a : Int) (LGo T fl n : Int) X = meq (LYo T fl n : Int) 2 (mcn (fPa_packContent (n : Int) (st (st (st X 8 a ((LGo T fl n + 2 * kd + 8 * LYo T fl n : Nat) : Int)) 8 (a + 1) (dsz T n : Int)) 8 (a + 3) (T 5 n % 256))) fun v27 M26 => mcn (fBu_putEnds ((a : Int) + 4) M26) fun _ M28 => mcn (fBu_settle 14 176 (M28 12 4) (fl : Int) M28) fun v30 M29 => fBu_putInode_207 (a : Int) v30 M29) (mcn (fBu_fillData (n : Int) (st (st (st X 8 a ((LGo T fl n + 2 * kd + 8 * LYo T fl n : Nat) : Int)) 8 (a + 1) (dsz T n : Int)) 8 (a + 3) (T 5 n % 256))) fun _ M17 => mrd M17 11 16 (n : Int) fun v18 => meq v18 1 (fBu_putInode_161 (fl : Int) (dsz T n : Int) (a : Int) 1 M17) (fBu_putInode_161 (fl : Int) (dsz T n : Int) (a : Int) 0 M17)) := by
    unfold fBu_putInode_41 fTr_kindOf fTr_countOf
    rw [mrd_t ⟨by omega, by omega⟩, mcn_t, show (((n : Nat) : Int)).toNat = n by omega, hX.1.1 n hn16, hkd, mlor_t ⟨by omega, by omega, by omega, by omega⟩, mrd_t ⟨by omega, by omega⟩, show (((n : Nat) : Int)).toNat = n by omega, sx.2, show (((LGo T fl n : Nat) : Int)).toNat = LGo T fl n by omega, show ((kd : Int) * 2).toNat = kd * 2 by omega, mlor_t ⟨by omega, by omega, by omega, by omega⟩, show ((((LGo T fl n ||| kd * 2 : Nat)) : Int)).toNat = (LGo T fl n ||| kd * 2) by omega, show ((LYo T fl n : Int) * 8).toNat = LYo T fl n * 8 by omega, tg1, mwr_t ⟨by omega, by omega⟩, mwr_t ⟨by omega, by omega⟩, mrd_t ⟨by omega, by omega⟩, mcn_t, mwr_t ⟨by omega, by omega⟩, mrd_t ⟨by omega, by omega⟩, show (((a : Nat) : Int)).toNat = a by omega, show ((a : Int) + 1).toNat = a + 1 by omega, show ((a : Int) + 3).toNat = a + 3 by omega, show (((n : Nat) : Int)).toNat = n by omega, st_ne (k := 8) (k' := 3) (by decide), st_ne (k := 8) (k' := 3) (by decide), hX.1.2.1 n hn16, st_ne (k := 8) (k' := 11) (by decide), st_ne (k := 8) (k' := 11) (by decide), st_ne (k := 8) (k' := 11) (by decide), sx.2]
  -- the reference up to its tail loop
  have e84 : ∀ (Q : Mm) (b : Nat), SgR T fl Q (T 0 1).toNat → fR_write_62 (n : Int) (fd : Int) (us : Int) (if decide ((fl &&& 2) = 0) = true then 0 else 1) (dsz T n : Int) (a : Int) (LYo T fl n : Int) (b : Int) Q = (mcn (fR_layData (n : Int) (st (st (st Q 9 a ((LGo T fl n + 2 * kd + 8 * LYo T fl n : Nat) : Int)) 9 (a + 1) (dsz T n : Int)) 9 (a + 3) (T 5 n % 256))) fun _ M13 => fR_write_145 FU (fd : Int) (us : Int) (if decide ((fl &&& 2) = 0) = true then 0 else 1) (dsz T n : Int) (a : Int) (LYo T fl n : Int) (b : Int) ((dsz T n / 16 * 16 : Nat) : Int) M13) := fun Q b hQ => by
    have sq := hQ.2 n (by omega) hlk
    have key : ∀ z2 : Int, z2 = (LGo T fl n : Int) → fR_write_84 (n : Int) (fd : Int) (us : Int) (if decide ((fl &&& 2) = 0) = true then 0 else 1) (dsz T n : Int) (a : Int) (LYo T fl n : Int) (b : Int) (a : Int) z2 Q = (mcn (fR_layData (n : Int) (st (st (st Q 9 a ((LGo T fl n + 2 * kd + 8 * LYo T fl n : Nat) : Int)) 9 (a + 1) (dsz T n : Int)) 9 (a + 3) (T 5 n % 256))) fun _ M13 => fR_write_145 FU (fd : Int) (us : Int) (if decide ((fl &&& 2) = 0) = true then 0 else 1) (dsz T n : Int) (a : Int) (LYo T fl n : Int) (b : Int) ((dsz T n / 16 * 16 : Nat) : Int) M13) := fun z2 hz2 => by
      unfold fR_write_84
      rw [mrd_t ⟨by omega, by omega⟩, show (((n : Nat) : Int)).toNat = n by omega, hQ.1.1, hkd, mwr_t ⟨by omega, by omega⟩, mwr_t ⟨by omega, by omega⟩, mrd_t ⟨by omega, by omega⟩, mwr_t ⟨by omega, by omega⟩, show (((a : Nat) : Int)).toNat = a by omega, show ((a : Int) + 1).toNat = a + 1 by omega, show ((a : Int) + 3).toNat = a + 3 by omega, show (((n : Nat) : Int)).toNat = n by omega, st_ne (k := 9) (k' := 5) (by decide), st_ne (k := 9) (k' := 5) (by decide), hQ.1.2.2.2.2.1, show z2 + 2 * (kd : Int) + 8 * (LYo T fl n : Int) = ((LGo T fl n + 2 * kd + 8 * LYo T fl n : Nat) : Int) by omega]
      refine congrArg _ (funext fun _ => funext fun M13 => ?_)
      rw [mdiv_t ⟨by omega, by omega, by omega, by omega⟩, show (dsz T n : Int) / 16 * 16 = ((dsz T n / 16 * 16 : Nat) : Int) by omega]
    unfold fR_write_62
    rw [mrd_t ⟨by omega, by omega⟩, show (((n : Nat) : Int)).toNat = n by omega, sq.2.2]
    by_cases c : LGo T fl n = 0
    · rw [meq_t ⟨by omega, by omega⟩ rI_0 (by omega)]; exact key 0 (by omega)
    · rw [meq_f ⟨by omega, by omega⟩ rI_0 (by omega)]; exact key 1 (by omega)
  -- memories behind the head
  have xh : ∀ p, p ≠ 8 → st (st (st X 8 a ((LGo T fl n + 2 * kd + 8 * LYo T fl n : Nat) : Int)) 8 (a + 1) (dsz T n : Int)) 8 (a + 3) (T 5 n % 256) p = X p := fun p hp => by rw [st_ne hp, st_ne hp, st_ne hp]
  have ih : ∀ Q : Mm, Q 9 = R 9 → Im (st (st (st X 8 a ((LGo T fl n + 2 * kd + 8 * LYo T fl n : Nat) : Int)) 8 (a + 1) (dsz T n : Int)) 8 (a + 3) (T 5 n % 256)) (st (st (st Q 9 a ((LGo T fl n + 2 * kd + 8 * LYo T fl n : Nat) : Int)) 9 (a + 1) (dsz T n : Int)) 9 (a + 3) (T 5 n % 256)) := fun Q hQ => by
    have hI' : Im X Q := fun j hj => by rw [hQ]; exact hI j hj
    exact ((hI'.wr a hv1).wr (a + 1) ⟨by omega, by omega⟩).wr (a + 3) hv3
  have rz : ∀ Q : Mm, Q 9 = R 9 → ∀ j, (j = a + 2 ∨ a + 4 ≤ j) → j < 16 * fd → st (st (st Q 9 a ((LGo T fl n + 2 * kd + 8 * LYo T fl n : Nat) : Int)) 9 (a + 1) (dsz T n : Int)) 9 (a + 3) (T 5 n % 256) 9 j = 0 := fun Q hQ j hj hj' => by
    rw [st_off (by omega), st_off (by omega), st_off (by omega), hQ]; exact hz j (by omega) hj'
  have rh : ∀ (Q : Mm) p, p ≠ 9 → st (st (st Q 9 a ((LGo T fl n + 2 * kd + 8 * LYo T fl n : Nat) : Int)) 9 (a + 1) (dsz T n : Int)) 9 (a + 3) (T 5 n % 256) p = Q p := fun Q p hp => by rw [st_ne hp, st_ne hp, st_ne hp]
  rw [eX, e41]
  unfold fR_write
  rw [mcn_e (size_R hT hR.1 hn16), mrd_t ⟨by omega, by omega⟩, mrd_t ⟨by omega, by omega⟩, show (((n : Nat) : Int)).toNat = n by omega, sr.1, sr.2.1, ea']
  generalize hX3 : st (st (st X 8 a ((LGo T fl n + 2 * kd + 8 * LYo T fl n : Nat) : Int)) 8 (a + 1) (dsz T n : Int)) 8 (a + 3) (T 5 n % 256) = X3 at xh ih ⊢
  have sX3 : SgX T fl X3 16 := hX.cg (fun p hp => xh p (by omega))
  by_cases l2 : LYo T fl n = 2
  · -- packed
    have hLY : (T 1 n = 1 ∧ 4 ≤ fl) ∧ cN T n ≤ 11 ∧ cN T n < (dsz T n + 15) / 16 := by
      apply Classical.byContradiction
      intro z
      unfold LYo at l2
      rw [if_neg z] at l2
      split at l2 <;> omega
    have hLG : LGo T fl n = 1 := by unfold LGo; rw [if_pos l2]
    obtain ⟨hs, he⟩ := sn_r hT hn16
    have hfr := fn_r hT hn16
    obtain ⟨R30, p1, p2, p3⟩ := pack_R hT hR.1 hn16
    obtain ⟨X4, q1, q2, q3, q4⟩ := pack_X hT sX3.1 hn16
    obtain ⟨c1, c2⟩ := c11 (T := T) (n := n) (by omega)
    have ec := c2 hLY.2.1
    rw [ec] at q1 q2 q3
    have sR30 : SgR T fl R30 (T 0 1).toNat := hR.cg (fun p a b => p3.1 p (by omega) (by omega) (by omega)) (p3.2 1 (by decide) (by decide))
    have r9 : R30 9 = R 9 := p3.1 9 (by decide) (by decide) (by decide)
    rw [meq_t (a := (LYo T fl n : Int)) ⟨by omega, by omega⟩ ⟨by decide, by decide⟩ (by omega), meq_t (a := (LYo T fl n : Int)) ⟨by omega, by omega⟩ ⟨by decide, by decide⟩ (by omega), mcn_e p1, e84 R30 (cN T n) sR30, mcn_e q1]
    have ih3 := ih R30 r9
    have rz3 := rz R30 r9
    have rh3 := rh R30
    generalize st (st (st R30 9 a ((LGo T fl n + 2 * kd + 8 * LYo T fl n : Nat) : Int)) 9 (a + 1) (dsz T n : Int)) 9 (a + 3) (T 5 n % 256) = R3 at ih3 rz3 rh3 ⊢
    have sR3 : SgR T fl R3 (T 0 1).toNat := sR30.cg (fun p a b => rh3 p (by omega)) (by rw [rh3 0 (by decide)])
    obtain ⟨_, R4, _, d2, _, _, d5⟩ := data_v (fl := fl) hT hn16 sX3 sR3
    rw [mcn_e d2, show FU = 1999 + 1 from rfl, fR_write_145]
    unfold fR_write_186 fBu_putEnds
    have x4c : X4 12 4 = (cN T n : Int) := q2
    rw [meq_f (a := (LYo T fl n : Int)) ⟨by omega, by omega⟩ ⟨by decide, by decide⟩ (by omega), meq_t (a := (LYo T fl n : Int)) ⟨by omega, by omega⟩ ⟨by decide, by decide⟩ (by omega), mwr_t (k := 9) ⟨by omega, by omega⟩, show ((a : Int) + 4).toNat = a + 4 by omega, x4c, mwr_t (k := 8) ⟨by omega, by omega⟩, show ((a : Int) + 4).toNat = a + 4 by omega, st_ne (k := 8) (k' := 12) (by decide), x4c, mcp_t ⟨by omega, by omega, by omega, by omega, by omega⟩, mcn_t, show (0 : Int).toNat = 0 from rfl, show ((a : Int) + 4 + 1).toNat = a + 5 by omega, show (((cN T n : Nat) : Int)).toNat = cN T n by omega]
    obtain ⟨R6, g1, g2, g3, g4⟩ := ends_R (a := a) (c := cN T n) (y2 := (fd : Int)) (y3 := (us : Int)) (y4 := if decide ((fl &&& 2) = 0) = true then 0 else 1) (by omega) hLY.2.1 (cN T n) FU 0 (st R4 9 (a + 4) (cN T n : Int)) (by omega) (by unfold FU; omega)
    rw [show ((0 : Nat) : Int) = 0 from rfl] at g1
    obtain ⟨R7, k1, k2, k3⟩ := rows_R (c := cN T n) (y2 := (fd : Int)) (y3 := (us : Int)) (y4 := if decide ((fl &&& 2) = 0) = true then 0 else 1) (y6 := (a : Int)) hLY.2.1 (16 * cN T n) FU 0 R6 (by omega) (by unfold FU; omega) (fun i hi => absurd hi (Nat.not_lt_zero _))
    rw [show ((0 : Nat) : Int) = 0 from rfl] at k1
    rw [g1, k1]
    -- the class's image with the ends
    have c8 : ∀ j, cpM (st X4 8 (a + 4) (cN T n : Int)) 15 8 0 (a + 5) (cN T n) 8 j = if a + 5 ≤ j ∧ j < a + 5 + cN T n then X4 15 (j - (a + 5)) else if j = a + 4 then (cN T n : Int) else X3 8 j := fun j => by
      show (if 8 = 8 ∧ a + 5 ≤ j ∧ j < a + 5 + cN T n then st X4 8 (a + 4) (cN T n : Int) 15 (0 + (j - (a + 5))) else st X4 8 (a + 4) (cN T n : Int) 8 j) = _
      by_cases e : a + 5 ≤ j ∧ j < a + 5 + cN T n
      · rw [if_pos ⟨rfl, e⟩, if_pos e, st_ne (by decide), Nat.zero_add]
      · rw [if_neg (fun z => e z.2), if_neg e]
        by_cases e' : j = a + 4
        · rw [if_pos e', e', st_same]
        · rw [if_neg e', st_off e', q4 8 (by decide) (by decide) (by decide) (by decide)]
    have cp : ∀ p, p ≠ 8 → cpM (st X4 8 (a + 4) (cN T n : Int)) 15 8 0 (a + 5) (cN T n) p = X4 p := fun p hp => by
      rw [← st_ne (M := X4) (i := a + 4) (v := (cN T n : Int)) hp]
      funext j
      show (if p = 8 ∧ _ then _ else _) = _
      rw [if_neg (fun z => hp z.1)]
    generalize cpM (st X4 8 (a + 4) (cN T n : Int)) 15 8 0 (a + 5) (cN T n) = X5 at c8 cp ⊢
    have x5c : X5 12 4 = (cN T n : Int) := by rw [cp 12 (by decide)]; exact x4c
    rw [x5c]
    have r7 : ∀ j, R7 9 j = if a + 5 ≤ j ∧ j < a + 5 + cN T n then R30 12 (j - (a + 5)) else if j = a + 4 then (cN T n : Int) else R3 9 j := fun j => by
      rw [k3 9 (by decide)]
      by_cases e : a + 5 ≤ j ∧ j < a + 5 + cN T n
      · rw [if_pos e]
        have := g2 (j - (a + 5)) (by omega) (by omega)
        rw [show a + 5 + (j - (a + 5)) = j by omega, st_ne (by decide), d5 12 (by decide), rh3 12 (by decide)] at this
        exact this
      · rw [if_neg e, g3 j (by omega)]
        by_cases e' : j = a + 4
        · rw [if_pos e', e', st_same]
        · rw [if_neg e', st_off e', d5 9 (by decide)]
    refine rest_v (k1 := 14) (n1 := 176) hfl (fun j hj => ?_) (fun j hj => ?_) (by omega) hLY.2.1 ⟨by omega, hu⟩ ?_ ?_ (by omega) (by omega) ?_ (fun j hj hj' => ?_) ⟨fun p hp => ?_, fun k hk => ?_⟩ ⟨fun p hp => ?_, fun k hk hk' => ?_⟩
    · rw [c8 j, r7 j]
      by_cases e : a + 5 ≤ j ∧ j < a + 5 + cN T n
      · have u1 := (q3 (j - (a + 5)) (by omega)).1
        have u2 := (p2 (j - (a + 5)) (by omega)).1
        have u3 := aq_le (f := fn T n) (s := sn T n) (j - (a + 5) + 1)
        rw [if_pos e, if_pos e, u1, u2]
        exact ⟨rfl, by omega, by omega⟩
      · rw [if_neg e, if_neg e]
        by_cases e' : j = a + 4
        · rw [if_pos e', if_pos e']; exact ⟨rfl, by omega, by omega⟩
        · rw [if_neg e', if_neg e']; exact ih3 j hj
    · have u1 := (q3 (j / 16) (by omega)).2 (j % 16) (by omega)
      have u2 := (p2 (j / 16) (by omega)).2 (j % 16) (by omega)
      rw [show 16 * (j / 16) + j % 16 = j by omega] at u1 u2
      rw [cp 14 (by decide), k2 j hj, g4 11 (by decide), st_ne (by decide), d5 11 (by decide), rh3 11 (by decide), u1, u2]
      exact ⟨rfl, bq_b hs hfr _ _⟩
    · rw [cp 7 (by decide), q4 7 (by decide) (by decide) (by decide) (by decide), xh 7 (by decide)]; exact h6
    · rw [cp 7 (by decide), q4 7 (by decide) (by decide) (by decide) (by decide), xh 7 (by decide)]; exact h7
    · rw [r7 (a + 2), if_neg (by omega), if_neg (by omega)]; exact rz3 _ (Or.inl rfl) (by omega)
    · rw [r7 j, if_neg (by omega), if_neg (by omega)]; exact rz3 _ (Or.inr (by omega)) hj'
    · rw [cp p (by omega), q4 p (by omega) (by omega) (by omega) (by omega), xh p (by omega)]
    · rw [cp 7 (by decide), q4 7 (by decide) (by decide) (by decide) (by decide), xh 7 (by decide)]
    · rw [k3 p (by omega), g4 p (by omega), st_ne (by omega), d5 p (by omega), rh3 p (by omega), p3.1 p (by omega) (by omega) (by omega)]
    · rw [k3 0 (by decide), g4 0 (by decide), st_ne (by decide), d5 0 (by decide), rh3 0 (by decide), p3.2 k hk hk']
  · -- not packed
    have ih3 := ih R rfl
    have rz3 := rz R rfl
    have rh3 := rh R
    rw [meq_f (a := (LYo T fl n : Int)) ⟨by omega, by omega⟩ ⟨by decide, by decide⟩ (by omega), meq_f (a := (LYo T fl n : Int)) ⟨by omega, by omega⟩ ⟨by decide, by decide⟩ (by omega)]
    have e84' := e84 R
    generalize st (st (st R 9 a ((LGo T fl n + 2 * kd + 8 * LYo T fl n : Nat) : Int)) 9 (a + 1) (dsz T n : Int)) 9 (a + 3) (T 5 n % 256) = R3 at ih3 rz3 rh3 e84' ⊢
    have sR3 : SgR T fl R3 (T 0 1).toNat := hR.cg (fun p a b => rh3 p (by omega)) (by rw [rh3 0 (by decide)])
    obtain ⟨X4, R4, d1, d2, d3, d4, d5⟩ := data_v (fl := fl) hT hn16 sX3 sR3
    rw [mcn_e d1, mrd_t ⟨by omega, by omega⟩, show (((n : Nat) : Int)).toNat = n by omega, d4 11 (by decide), (sX3.2.2 n hn16).1 hlk |>.2]
    unfold fBu_putInode_161 fBu_putInode_178 fBu_putInode_201
    by_cases l1 : LYo T fl n = 1
    · have hLY : fl % 2 = 1 ∧ 0 < dsz T n % 16 ∧ dsz T n % 16 ≤ 12 := by
        apply Classical.byContradiction
        intro z
        unfold LYo at l1
        rw [if_neg z] at l1
        split at l1 <;> omega
      have hLG : 4 < dsz T n % 16 → LGo T fl n = 1 := fun z => by unfold LGo; rw [if_neg l2, if_pos ⟨l1, z⟩]
      have ew := e84' (dsz T n / 16) hR
      unfold fBu_putTail
      rw [meq_t (a := (LYo T fl n : Int)) ⟨by omega, by omega⟩ ⟨by decide, by decide⟩ (by omega), meq_t (a := (LYo T fl n : Int)) ⟨by omega, by omega⟩ ⟨by decide, by decide⟩ (by omega), meq_f (a := 1) ⟨by decide, by decide⟩ rI_0 (by decide), mdiv_t ⟨by omega, by omega, by omega, by omega⟩, show (dsz T n : Int) / 16 = ((dsz T n / 16 : Nat) : Int) by omega, ew, mcn_e d2, mrem_t ⟨by omega, by omega, by omega, by omega⟩, mcp_t ⟨by omega, by omega, by omega, by omega, by omega⟩, mcn_t, meq_f (a := 1) ⟨by decide, by decide⟩ rI_0 (by decide), mdiv_t ⟨by omega, by omega, by omega, by omega⟩, show (dsz T n : Int) / 16 = ((dsz T n / 16 : Nat) : Int) by omega, show ((dsz T n : Int) - (dsz T n : Int) % 16).toNat = dsz T n / 16 * 16 by omega, show ((a : Int) + 4).toNat = a + 4 by omega, show ((dsz T n : Int) % 16).toNat = dsz T n % 16 by omega]
      obtain ⟨R5, g1, g2, g3, g4⟩ := tail_R (sz := dsz T n) (a := a) (y2 := (fd : Int)) (y3 := (us : Int)) (y4 := if decide ((fl &&& 2) = 0) = true then 0 else 1) (y8 := ((dsz T n / 16 : Nat) : Int)) (by omega) (by omega) hLY.2.2 (dsz T n % 16) FU 0 R4 (by omega) (by unfold FU; omega)
      rw [Nat.add_zero] at g1
      rw [show (LYo T fl n : Int) = 1 by omega, g1]
      have c8 : ∀ j, cpM X4 9 8 (dsz T n / 16 * 16) (a + 4) (dsz T n % 16) 8 j = if a + 4 ≤ j ∧ j < a + 4 + dsz T n % 16 then X4 9 (dsz T n / 16 * 16 + (j - (a + 4))) else X3 8 j := fun j => by
        show (if 8 = 8 ∧ a + 4 ≤ j ∧ j < a + 4 + dsz T n % 16 then X4 9 (dsz T n / 16 * 16 + (j - (a + 4))) else X4 8 j) = _
        by_cases e : a + 4 ≤ j ∧ j < a + 4 + dsz T n % 16
        · rw [if_pos ⟨rfl, e⟩, if_pos e]
        · rw [if_neg (fun z => e z.2), if_neg e, d4 8 (by decide)]
      have cp : ∀ p, p ≠ 8 → cpM X4 9 8 (dsz T n / 16 * 16) (a + 4) (dsz T n % 16) p = X4 p := fun p hp => by
        funext j
        show (if p = 8 ∧ _ then _ else _) = _
        rw [if_neg (fun z => hp z.1)]
      generalize cpM X4 9 8 (dsz T n / 16 * 16) (a + 4) (dsz T n % 16) = X5 at c8 cp ⊢
      have r5 : ∀ j, R5 9 j = if a + 4 ≤ j ∧ j < a + 4 + dsz T n % 16 then R4 10 (dsz T n / 16 * 16 + (j - (a + 4))) else R3 9 j := fun j => by
        by_cases e : a + 4 ≤ j ∧ j < a + 4 + dsz T n % 16
        · rw [if_pos e]
          have := g2 (j - (a + 4)) (by omega) (by omega)
          rw [show a + 4 + (j - (a + 4)) = j by omega] at this
          exact this
        · rw [if_neg e, g3 j (by omega), d5 9 (by decide)]
      have hlim : a + 4 + dsz T n % 16 ≤ 16 + 8 * SLo T fl (n + 1) := by
        by_cases z : 4 < dsz T n % 16
        · have := hLG z; omega
        · omega
      refine rest_v (k1 := 9) (n1 := 80) hfl (fun j hj => ?_) (fun j hj => ?_) (by omega) (by omega) ⟨by omega, hu⟩ ?_ ?_ (by omega) (by omega) ?_ (fun j hj hj' => ?_) ⟨fun p hp => ?_, fun k hk => ?_⟩ ⟨fun p hp => ?_, fun k hk hk' => ?_⟩
      · rw [c8 j, r5 j]
        by_cases e : a + 4 ≤ j ∧ j < a + 4 + dsz T n % 16
        · rw [if_pos e, if_pos e]; exact d3 _ (by omega)
        · rw [if_neg e, if_neg e]; exact ih3 j hj
      · rw [cp 9 (by decide), g4 10 (by decide)]; exact d3 j (by omega)
      · rw [cp 7 (by decide), d4 7 (by decide), xh 7 (by decide)]; exact h6
      · rw [cp 7 (by decide), d4 7 (by decide), xh 7 (by decide)]; exact h7
      · rw [r5 (a + 2), if_neg (by omega)]; exact rz3 _ (Or.inl rfl) (by omega)
      · rw [r5 j, if_neg (by omega)]; exact rz3 _ (Or.inr (by omega)) hj'
      · rw [cp p (by omega), d4 p (by omega), xh p (by omega)]
      · rw [cp 7 (by decide), d4 7 (by decide), xh 7 (by decide)]
      · rw [g4 p (by omega), d5 p (by omega), rh3 p (by omega)]
      · rw [g4 0 (by decide), d5 0 (by decide), rh3 0 (by decide)]
    · have ew := e84' ((dsz T n + 15) / 16) hR
      rw [meq_f (a := (LYo T fl n : Int)) ⟨by omega, by omega⟩ ⟨by decide, by decide⟩ (by omega), meq_f (a := (LYo T fl n : Int)) ⟨by omega, by omega⟩ ⟨by decide, by decide⟩ (by omega), mcn_e (blocksFor_vR ⟨by omega, by omega⟩), show ((dsz T n : Int) + 15) / 16 = (((dsz T n + 15) / 16 : Nat) : Int) by omega, ew, mcn_e d2, meq_t (a := 0) rI_0 rI_0 rfl, meq_t (a := 0) rI_0 rI_0 rfl, mcn_e (blocksFor_vX ⟨by omega, by omega⟩), show ((dsz T n : Int) + 15) / 16 = (((dsz T n + 15) / 16 : Nat) : Int) by omega, show FU = 1999 + 1 from rfl, fR_write_145]
      unfold fR_write_186
      rw [meq_f (a := (LYo T fl n : Int)) ⟨by omega, by omega⟩ ⟨by decide, by decide⟩ (by omega), meq_f (a := (LYo T fl n : Int)) ⟨by omega, by omega⟩ ⟨by decide, by decide⟩ (by omega)]
      refine rest_v (k1 := 9) (n1 := 80) hfl (fun j hj => ?_) (fun j hj => ?_) (by omega) (by omega) ⟨by omega, hu⟩ ?_ ?_ (by omega) (by omega) ?_ (fun j hj hj' => ?_) ⟨fun p hp => ?_, fun k hk => ?_⟩ ⟨fun p hp => ?_, fun k hk hk' => ?_⟩
      · rw [d4 8 (by decide), d5 9 (by decide)]; exact ih3 j hj
      · exact d3 j (by omega)
      · rw [d4 7 (by decide), xh 7 (by decide)]; exact h6
      · rw [d4 7 (by decide), xh 7 (by decide)]; exact h7
      · rw [d5 9 (by decide)]; exact rz3 _ (Or.inl rfl) (by omega)
      · rw [d5 9 (by decide)]; exact rz3 _ (Or.inr (by omega)) hj'
      · rw [d4 p (by omega), xh p (by omega)]
      · rw [d4 7 (by decide), xh 7 (by decide)]
      · rw [d5 p (by omega), rh3 p (by omega)]
      · rw [d5 0 (by decide), rh3 0 (by decide)]
end BC
