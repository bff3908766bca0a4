/-! build, whole -/
theorem crc_cg {d d' : Nat → Int} : ∀ (n i c : Nat), (∀ j, i ≤ j → j < i + n → d j = d' j) → crc d n i c = crc d' n i c
  | 0, _, _, _ => rfl
  | n + 1, i, c, h => by
    unfold crc
    rw [h i (Nat.le_refl _) (by omega)]
    exact crc_cg n (i + 1) _ (fun j h1 h2 => h j (by omega) (by omega))
def Jm (X R : Mm) : Prop := ∀ j, j < 1024 → X 8 j = R 13 j ∧ 0 ≤ R 13 j ∧ R 13 j ≤ 255
theorem Jm.wr {X R : Mm} (h : Jm X R) (i : Nat) {v : Int} (hv : 0 ≤ v ∧ v ≤ 255) : Jm (st X 8 i v) (st R 13 i v) := fun j hj => by
  by_cases e : j = i
  · rw [e, st_same, st_same]; exact ⟨rfl, hv⟩
  · rw [st_off e, st_off e]; exact h j hj
section BE
theorem o_build (x1 : Int) (h1 : rI x1) : Orr Rl [1, 4] (fX_build x1) (fR_build x1) := fun X R h => by
  have no : fR_build_11 x1 R = some (0, st R 0 0 1) := by
    unfold fR_build_11 fR_build_16
    rw [mput_t, st_same, mlt_t rI_0 ⟨by decide, by decide⟩ (by decide)]
  unfold fX_build fR_build
  rw [no]
  by_cases a : x1 < 0
  · rw [mlt_t h1 rI_0 a, mlt_t (t := some ((0 : Int), st R 0 0 1)) h1 rI_0 a]
    exact ⟨(1, 0, X), 0, _, rfl, Or.inr (List.mem_cons.mpr (Or.inl rfl)), (fun z => nomatch (show (1 : Nat) = 0 from z)), rfl, st_same, h.code _⟩
  · rw [mlt_f h1 rI_0 a, mlt_f (t := some ((0 : Int), st R 0 0 1)) h1 rI_0 a]
    by_cases b : 7 < x1
    · rw [mlt_t ⟨by decide, by decide⟩ h1 b, mlt_t (t := some ((0 : Int), st R 0 0 1)) ⟨by decide, by decide⟩ h1 b]
      exact ⟨(1, 0, X), 0, _, rfl, Or.inr (List.mem_cons.mpr (Or.inl rfl)), (fun z => nomatch (show (1 : Nat) = 0 from z)), rfl, st_same, h.code _⟩
    · rw [mlt_f ⟨by decide, by decide⟩ h1 b, mlt_f (t := some ((0 : Int), st R 0 0 1)) ⟨by decide, by decide⟩ h1 b]
      obtain ⟨fl, rfl⟩ : ∃ fl : Nat, x1 = (fl : Int) := ⟨x1.toNat, by omega⟩
      have hfl : fl < 8 := by omega
      obtain ⟨hT, tX, tR⟩ := h.1.tb
      have hn := hT.1
      have hs16 := SL_r (T := R) (fl := fl) 16
      -- slots
      obtain ⟨X1, f1, f2, f3⟩ := give_X hT hfl 16 FU 0 (st X 7 5 0) rfl (by unfold FU; omega) ⟨tX.cg (fun p a b => st_ne (by omega)), st_same, fun j hj => absurd hj (Nat.not_lt_zero _)⟩
      rw [show ((0 : Nat) : Int) = 0 from rfl] at f1
      obtain ⟨R1, z1, z2, z3⟩ := zero_R (fl := fl) 1024 FU 0 (st R 0 0 0) rfl (by unfold FU; omega) (fun i hi => absurd hi (Nat.not_lt_zero _))
      rw [show ((0 : Nat) : Int) = 0 from rfl] at z1
      obtain ⟨R2, g1, g2, g3⟩ := give_R hT hfl (R 0 1).toNat FU 0 R1 (by omega) (by unfold FU; omega) ⟨tR.cg (fun p a b => by rw [z3 p (by omega), st_ne (by omega)]) (by rw [z3 0 (by decide), st_off (by decide)]), fun j hj => absurd hj (Nat.not_lt_zero _)⟩
      rw [show ((SLo R fl 0 : Nat) : Int) = 0 from rfl, show ((0 : Nat) : Int) = 0 from rfl] at g1
      obtain ⟨fd, hfd⟩ : ∃ fd, fd = 1 + (SLo R fl 16 + 1) / 2 := ⟨_, rfl⟩
      rw [← hfd] at g1
      -- the empty image
      have fi : ∀ p, p ≠ 8 → fiM X1 8 1024 0 p = X1 p := fun p hp => by
        funext j
        show (if p = 8 ∧ _ then _ else _) = _
        rw [if_neg (fun z => hp z.1)]
      have f8 : ∀ j, j < 1024 → fiM X1 8 1024 0 8 j = 0 := fun j hj => by
        show (if 8 = 8 ∧ j < 1024 then 0 else _) = (0 : Int)
        rw [if_pos ⟨rfl, hj⟩]
      unfold fBu_giveSlots fBu_layOut fR_build_16
      rw [mput_t, mcn_e f1, mcn_t, mput_t, st_same, mlt_f rI_0 rI_0 (by decide), z1, g1]
      generalize fiM X1 8 1024 0 = X2 at fi f8 ⊢
      have x75 : X2 7 5 = (SLo R fl 16 : Int) := by rw [fi 7 (by decide)]; exact f2.2.1
      rw [x75, mcn_e (behind_vX ⟨by omega, by omega⟩), show 1 + ((SLo R fl 16 : Int) + 1) / 2 = (fd : Int) by omega, mput_t, mput_t, st_same]
      have x3 : ∀ p, p ≠ 7 → st (st X2 7 6 (fd : Int)) 7 7 (fd : Int) p = X2 p := fun p hp => by rw [st_ne hp, st_ne hp]
      have x37 : ∀ k, k ≠ 6 → k ≠ 7 → st (st X2 7 6 (fd : Int)) 7 7 (fd : Int) 7 k = X2 7 k := fun k h6 h7 => by rw [st_off h7, st_off h6]
      have x36 : st (st X2 7 6 (fd : Int)) 7 7 (fd : Int) 7 6 = (fd : Int) := by rw [st_off (by decide), st_same]
      have x377 : st (st X2 7 6 (fd : Int)) 7 7 (fd : Int) 7 7 = (fd : Int) := st_same
      generalize st (st X2 7 6 (fd : Int)) 7 7 (fd : Int) = X3 at x3 x37 x36 x377 ⊢
      have sX3 : SgX R fl X3 16 := by
        refine ⟨f2.1.cg (fun p a b => by rw [x3 p (by omega), fi p (by omega)]), by rw [x37 5 (by decide) (by decide)]; exact x75, fun j hj => ?_⟩
        rw [x3 10 (by decide), x3 11 (by decide), fi 10 (by decide), fi 11 (by decide)]
        exact f2.2.2 j hj
      have r9 : ∀ j, j < 1024 → R2 9 j = 0 := fun j hj => by rw [g3.1 9 (by decide)]; exact z2 j hj
      have hI : Im X3 R2 := fun j hj => by rw [x3 8 (by decide), f8 j hj, r9 j hj]; exact ⟨rfl, by omega, by omega⟩
      have hL := loop_v hT hfl hfd (R 0 1).toNat FU FU 0 fd X3 R2 (by omega) (by unfold FU; omega) (by unfold FU; omega) sX3 g2 hI (Nat.le_refl _) (by omega) x36 x377 (fun j h1 h2 => r9 j (by omega))
      rw [show ((0 : Nat) : Int) = 0 from rfl] at hL
      -- what stays
      have keepX : ∀ p, p < 7 ∨ 16 ≤ p → X3 p = X p := fun p hp => by rw [x3 p (by omega), fi p (by omega), f3.1 p (by omega), st_ne (by omega)]
      have keepR : ∀ p, (1 ≤ p ∧ p ≤ 5) ∨ 13 ≤ p → R2 p = R p := fun p hp => by rw [g3.1 p (by omega), z3 p (by omega), st_ne (by omega)]
      have keep0 : ∀ k, k ≠ 0 → k ≠ 14 → k ≠ 15 → R2 0 k = R 0 k := fun k h0 h4 h5 => by rw [g3.2 k h4 h5, z3 0 (by decide), st_off h0]
      rcases hL with ⟨X4, R4, l1, l2, l3, l4⟩ | ⟨X4, R4, us, l1, l2, l3, l4, l5, l6, l7, l8⟩
      · rw [l1, l2, mcn_t, meq_t rI_0 rI_0 rfl]
        refine ⟨(4, 0, X4), 0, _, rfl, Or.inr (List.mem_cons.mpr (Or.inr (List.mem_singleton.mpr rfl))), (fun z => nomatch (show (4 : Nat) = 0 from z)), rfl, st_same, ?_⟩
        refine Rl.code ⟨h.1.cg (fun p a b => ?_) (fun p a b => ?_) ?_, h.2.cg (fun p a b => ?_) (fun p a b c => ?_) (fun k hk => ?_)⟩ 2
        · show X4 p = X p
          rw [l3.1 p (by omega), keepX p (by omega)]
        · rw [l4.1 p (by omega), keepR p (by omega)]
        · rw [l4.2 1 (by decide) (by decide), keep0 1 (by decide) (by decide) (by decide)]
        · show X4 p = X p
          rw [l3.1 p (by omega), keepX p (by omega)]
        · rw [l4.1 p (by omega), keepR p (by omega)]
        · rw [l4.2 k (by omega) (by omega), keep0 k (by omega) (by omega) (by omega)]
      · obtain ⟨R5, o1, o2, o3, o4⟩ := over_R (y1 := (fl : Int)) (y2 := (SLo R fl 16 : Int)) (y4 := (us : Int)) 1024 FU 0 R4 rfl (by unfold FU; omega)
        rw [show ((0 : Nat) : Int) = 0 from rfl] at o1
        have t0 : (0 : Int).toNat = 0 := rfl
        have t1 : (1 : Int).toNat = 1 := rfl
        have t2 : (2 : Int).toNat = 2 := rfl
        have t3 : (3 : Int).toNat = 3 := rfl
        have t4 : (4 : Int).toNat = 4 := rfl
        have j0 : Jm X4 R5 := fun j hj => by rw [o2 j (by omega) hj]; exact l3 j hj
        have j5 := ((((j0.wr 0 (v := 225) ⟨by omega, by omega⟩).wr 1 (v := 245) ⟨by omega, by omega⟩).wr 2 (v := (fl : Int)) ⟨by omega, by omega⟩).wr 3 (v := (SLo R fl 16 : Int)) ⟨by omega, by omega⟩).wr 4 (v := (us : Int)) ⟨by omega, by omega⟩
        rw [l1, l2, o1]
        unfold fBu_putHeader
        have e75 : st (st (st X4 8 0 225) 8 1 245) 8 2 (fl : Int) 7 5 = (SLo R fl 16 : Int) := by rw [st_ne (by decide), st_ne (by decide), st_ne (by decide)]; exact l6
        have e77 : st (st (st (st X4 8 0 225) 8 1 245) 8 2 (fl : Int)) 8 3 (SLo R fl 16 : Int) 7 7 = (us : Int) := by rw [st_ne (by decide), st_ne (by decide), st_ne (by decide), st_ne (by decide)]; exact l4
        rw [mwr_t ⟨by omega, by omega⟩, mwr_t ⟨by omega, by omega⟩, mwr_t ⟨by omega, by omega⟩, mwr_t ⟨by omega, by omega⟩, mwr_t ⟨by omega, by omega⟩, t0, t1, t2, t3, t4, e75, e77, mwr_t ⟨by omega, by omega⟩, mwr_t ⟨by omega, by omega⟩, mwr_t ⟨by omega, by omega⟩, mwr_t ⟨by omega, by omega⟩, mwr_t ⟨by omega, by omega⟩, t0, t1, t2, t3, t4]
        have pX : ∀ p, p ≠ 8 → st (st (st (st (st X4 8 0 225) 8 1 245) 8 2 (fl : Int)) 8 3 (SLo R fl 16 : Int)) 8 4 (us : Int) p = X4 p := fun p hp => by rw [st_ne hp, st_ne hp, st_ne hp, st_ne hp, st_ne hp]
        have pR : ∀ p, p ≠ 13 → st (st (st (st (st R5 13 0 225) 13 1 245) 13 2 (fl : Int)) 13 3 (SLo R fl 16 : Int)) 13 4 (us : Int) p = R5 p := fun p hp => by rw [st_ne hp, st_ne hp, st_ne hp, st_ne hp, st_ne hp]
        have pR13 : ∀ j, 1024 ≤ j → st (st (st (st (st R5 13 0 225) 13 1 245) 13 2 (fl : Int)) 13 3 (SLo R fl 16 : Int)) 13 4 (us : Int) 13 j = R 13 j := fun j hj => by rw [st_off (by omega), st_off (by omega), st_off (by omega), st_off (by omega), st_off (by omega), o3 j (by omega), l8.1 13 (by decide), keepR 13 (by decide)]
        generalize st (st (st (st (st X4 8 0 225) 8 1 245) 8 2 (fl : Int)) 8 3 (SLo R fl 16 : Int)) 8 4 (us : Int) = X5 at j5 pX ⊢
        generalize st (st (st (st (st R5 13 0 225) 13 1 245) 13 2 (fl : Int)) 13 3 (SLo R fl 16 : Int)) 13 4 (us : Int) = R6 at j5 pR pR13 ⊢
        have ecrc : crc (X5 8) 14 0 65535 = crc (R6 13) 14 0 65535 := crc_cg 14 0 65535 (fun j _ hj => (j5 j (by omega)).1)
        have eX := put_X (M := X5) (k0 := 8) rfl (fun i hi => by rw [(j5 i (by omega)).1]; exact (j5 i (by omega)).2)
        rw [ecrc] at eX
        have e13 : st R6 0 0 0 13 = R6 13 := st_ne (by decide)
        have eR := check_R (M := st R6 0 0 0) e13 (fun i hi => (j5 i (by omega)).2)
        have hl := crc_lt (d := R6 13) 14 0 65535 (by decide)
        unfold fR_seal
        rw [mcn_e eX, mcn_t, mcn_t, meq_f (a := 1) ⟨by decide, by decide⟩ rI_0 (by decide), mput_t, mcn_e eR]
        generalize crc (R6 13) 14 0 65535 = c at hl ⊢
        have j7 := (j5.wr 14 (v := ((c / 256 : Nat) : Int)) ⟨by omega, by omega⟩).wr 15 (v := ((c % 256 : Nat) : Int)) ⟨by omega, by omega⟩
        unfold fDe_takeOver
        rw [mcp_t ⟨by omega, by omega, by omega, by omega, by omega⟩, mpuz_t ⟨by omega, by omega⟩, mcn_t, mdiv_t ⟨by omega, by omega, by omega, by omega⟩, mwr_t ⟨by omega, by omega⟩, mrem_t ⟨by omega, by omega, by omega, by omega⟩, mwr_t ⟨by omega, by omega⟩, mpuz_t ⟨by omega, by omega⟩, mcn_t, show (c : Int) / 256 = ((c / 256 : Nat) : Int) by omega, show (c : Int) % 256 = ((c % 256 : Nat) : Int) by omega, show (14 : Int).toNat = 14 from rfl, show (15 : Int).toNat = 15 from rfl, t0, show (1024 : Int).toNat = 1024 from rfl]
        have cp : ∀ p, p ≠ 17 → cpM (st (st X5 8 14 ((c / 256 : Nat) : Int)) 8 15 ((c % 256 : Nat) : Int)) 8 17 0 0 1024 p = st (st X5 8 14 ((c / 256 : Nat) : Int)) 8 15 ((c % 256 : Nat) : Int) p := fun p hp => by
          funext j
          show (if p = 17 ∧ _ then _ else _) = _
          rw [if_neg (fun z => hp z.1)]
        have c17 : ∀ j, cpM (st (st X5 8 14 ((c / 256 : Nat) : Int)) 8 15 ((c % 256 : Nat) : Int)) 8 17 0 0 1024 17 j = if j < 1024 then st (st X5 8 14 ((c / 256 : Nat) : Int)) 8 15 ((c % 256 : Nat) : Int) 8 j else X 17 j := fun j => by
          show (if 17 = 17 ∧ 0 ≤ j ∧ j < 0 + 1024 then st (st X5 8 14 ((c / 256 : Nat) : Int)) 8 15 ((c % 256 : Nat) : Int) 8 (0 + (j - 0)) else st (st X5 8 14 ((c / 256 : Nat) : Int)) 8 15 ((c % 256 : Nat) : Int) 17 j) = _
          by_cases e : j < 1024
          · rw [if_pos ⟨rfl, Nat.zero_le _, by omega⟩, if_pos e, Nat.zero_add, Nat.sub_zero]
          · rw [if_neg (fun z => e (by omega)), if_neg e, st_ne (by decide), st_ne (by decide), pX 17 (by decide), l7.1 17 (by decide), keepX 17 (by decide)]
        have u7 : cpM (st (st X5 8 14 ((c / 256 : Nat) : Int)) 8 15 ((c % 256 : Nat) : Int)) 8 17 0 0 1024 7 7 = (us : Int) := by rw [cp 7 (by decide), st_ne (by decide), st_ne (by decide), pX 7 (by decide)]; exact l4
        have xs : ∀ p, (1 ≤ p ∧ p ≤ 6) → cpM (st (st X5 8 14 ((c / 256 : Nat) : Int)) 8 15 ((c % 256 : Nat) : Int)) 8 17 0 0 1024 p = X p := fun p hp => by rw [cp p (by omega), st_ne (by omega), st_ne (by omega), pX p (by omega), l7.1 p (by omega), keepX p (by omega)]
        generalize cpM (st (st X5 8 14 ((c / 256 : Nat) : Int)) 8 15 ((c % 256 : Nat) : Int)) 8 17 0 0 1024 = X6 at c17 u7 xs ⊢
        rw [st_ne (k := 16) (k' := 7) (by decide), u7]
        refine ⟨(0, (us : Int), st X6 16 2 0), (us : Int), _, rfl, Or.inl rfl, fun _ => ⟨⟨by show -2147483648 ≤ (us : Int); omega, by show (us : Int) < 2147483648; omega⟩, rfl⟩, rfl, ?_, h.un (c := 0) (fun p a b => ?_) (fun p a b => ?_) ?_ ?_ ?_ rfl st_same⟩
        · rw [st_off (by decide), st_ne (by decide), st_ne (by decide), st_same]; rfl
        · show st X6 16 2 0 p = X p
          rw [st_ne (by omega), xs p ⟨a, b⟩]
        · rw [st_ne (by omega), st_ne (by omega), st_ne (by omega), st_ne (by omega), pR p (by omega), o4 p (by omega), l8.1 p (by omega), keepR p (by omega)]
        · rw [st_off (by decide), st_ne (by decide), st_ne (by decide), st_off (by decide), pR 0 (by decide), o4 0 (by decide), l8.2 1 (by decide) (by decide), keep0 1 (by decide) (by decide) (by decide)]
        · show st X6 16 2 0 17 = _
          rw [st_ne (k := 16) (by decide), st_ne (k := 0) (k' := 13) (by decide)]
          funext j
          have e0 : ∀ j, st (st (st R6 0 0 0) 13 14 ((c / 256 : Nat) : Int)) 13 15 ((c % 256 : Nat) : Int) 13 j = st (st R6 13 14 ((c / 256 : Nat) : Int)) 13 15 ((c % 256 : Nat) : Int) 13 j := fun j => by
            unfold st
            simp
          rw [c17 j, e0 j]
          by_cases e : j < 1024
          · rw [if_pos e]; exact (j7 j e).1
          · rw [if_neg e, st_off (by omega), st_off (by omega), pR13 j (by omega), h.2.1]
        · rw [st_ne (k := 0) (k' := 13) (by decide)]
          intro j hj
          have e0 : st (st (st R6 0 0 0) 13 14 ((c / 256 : Nat) : Int)) 13 15 ((c % 256 : Nat) : Int) 13 j = st (st R6 13 14 ((c / 256 : Nat) : Int)) 13 15 ((c % 256 : Nat) : Int) 13 j := by
            unfold st
            simp
          rw [e0]
          exact (j7 j hj).2
end BE
theorem rl_ops : Ops Rl := ⟨rl_cong, o_create, o_link, o_unlink, o_append, o_build, o_peek, o_poke, o_seal, o_mount, o_stat, o_read, o_find, o_resolve, o_cache, o_check⟩
