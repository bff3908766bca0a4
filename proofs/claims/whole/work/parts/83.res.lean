/-! resolve: the walk along the path -/
section S2
variable {d : Nat → Int} {X R M : Mm} {sl us : Int} {bg : Nat → Int} {p : Int}
/-- the letters of a link -/
theorem links_v (h : Ok d sl us bg) {i : Nat} (hg : Go d sl us bg (i : Int)) (hl : ¬ ly d i = 2) {K : Int → Int → Mm → Option (Int × Mm)} {fl z : Int} (hfl : 0 ≤ fl ∧ fl < 5) (hz : 0 ≤ z ∧ z < 5) : ∀ (y fu fu' m : Nat) (X R : Mm), MX X d sl us bg → MY R d sl us bg → Sk X R m → (y : Int) ≤ sz d i → y ≤ 4 → m + y ≤ 20 → y < fu → y < fu' → ∃ X' R', fX_layLinkAhead_11 fu (i : Int) ((y : Int) - 1) X = some (0, X') ∧ fR_resolve_215 K fu' (i : Int) fl z ((y : Int) - 1) R = K 0 fl R' ∧ Sk X' R' (m + y) ∧ GrX X X' ∧ GrR R R' ∧ R' 0 0 = R 0 0
  | _, 0, _, _, _, _, _, _, _, _, _, _, hf, _ => absurd hf (Nat.not_lt_zero _)
  | _, _, 0, _, _, _, _, _, _, _, _, _, _, hf => absurd hf (Nat.not_lt_zero _)
  | 0, fu + 1, fu' + 1, m, X, R, _, _, hs, _, _, _, _, _ => by
    unfold fX_layLinkAhead_11 fR_resolve_215 fR_resolve_249
    rw [mlt_t (b := 0) ⟨by omega, by omega⟩ rI_0 (by omega), mlt_t (a := fl) ⟨by omega, by omega⟩ ⟨by decide, by decide⟩ (by omega), mlt_t (a := z) ⟨by omega, by omega⟩ ⟨by decide, by decide⟩ (by omega), mlt_t (b := 0) ⟨by omega, by omega⟩ rI_0 (by omega), mlt_t (a := fl) ⟨by omega, by omega⟩ ⟨by decide, by decide⟩ (by omega), mlt_t (a := z) ⟨by omega, by omega⟩ ⟨by decide, by decide⟩ (by omega)]
    exact ⟨X, R, rfl, rfl, hs, GrX.rfl', GrR.rfl', rfl⟩
  | y + 1, fu + 1, fu' + 1, m, X, R, hX, hR, hs, hy, h4, hm, hf, hf' => by
    obtain ⟨X1, R1, f1, f2, f3, f4, f5, f6⟩ := push_v hs (by omega) (bt_r h hg hl (k := y) (by omega))
    obtain ⟨X2, R2, g1, g2, g3, g4, g5, g6⟩ := links_v h hg hl hfl hz y fu fu' (m + 1) X1 R1 (f4.mx hX) (f5.my hR) f3 (by omega) (by omega) (by omega) (by omega) (by omega)
    rw [fX_layLinkAhead_11, fR_resolve_215]
    rw [show ((y + 1 : Nat) : Int) - 1 = (y : Int) by omega, mlt_f (b := 0) ⟨by omega, by omega⟩ rI_0 (by omega), mcn_e (data_vX h hX hg hl (k := y) (by omega) rfl), mcn_e f1, mlt_t (a := fl) ⟨by omega, by omega⟩ ⟨by decide, by decide⟩ (by omega), mlt_t (a := z) ⟨by omega, by omega⟩ ⟨by decide, by decide⟩ (by omega), mlt_f (b := 0) ⟨by omega, by omega⟩ rI_0 (by omega), mcn_e (byte_vR h hR hg hl (k := y) (by omega) rfl), mcn_e f2, show (y : Int) + (-1) = (y : Int) - 1 by omega, show m + (y + 1) = m + 1 + y by omega]
    exact ⟨X2, R2, g1, g2, g3, f4.tr g4, f5.tr g5, g6.trans f6⟩
/-- how a resolve ends -/
def Rz (X R : Mm) (q : Option (Nat × Int × Mm)) (r : Option (Int × Mm)) : Prop := ∃ (c : Nat) (v v' : Int) (X' R' : Mm), q = some (c, v, X') ∧ (c = 0 ∨ c = 2) ∧ (c = 0 → rI v ∧ v' = v) ∧ r = some (v', R') ∧ R' 0 0 = wrc [2] c ∧ GrX X X' ∧ GrR R R'
theorem Rz.tr {X1 R1 : Mm} {q : Option (Nat × Int × Mm)} {r : Option (Int × Mm)} (h : Rz X1 R1 q r) (hX : GrX X X1) (hR : GrR R R1) : Rz X R q r := by
  obtain ⟨c, v, v', X', R', h1, h2, h3, h4, h5, h6, h7⟩ := h
  exact ⟨c, v, v', X', R', h1, h2, h3, h4, h5, hX.tr h6, hR.tr h7⟩
theorem rz_no {fu m : Nat} {y4 : Int} (h0 : R 0 0 = 0) (hm : R 0 27 = (m : Int)) (hm' : m ≤ 20) : fR_resolve_97 (fu + 1) (-1) y4 R = some (-1, R) := by
  unfold fR_resolve_97 fR_resolve_270
  rw [hm, h0]
  by_cases a : 0 < m
  · rw [mlt_t rI_0 ⟨by omega, by omega⟩ (by omega), meq_t ⟨by decide, by decide⟩ ⟨by decide, by decide⟩ rfl, mlt_f rI_0 rI_0 (by decide)]
  · rw [mlt_f rI_0 ⟨by omega, by omega⟩ (by omega), mlt_f rI_0 rI_0 (by decide)]
theorem rz_bad {fu m : Nat} {z y4 : Int} (h0 : R 0 0 = 1) (hm : R 0 27 = (m : Int)) (hm' : m ≤ 20) (hz : 0 ≤ z ∧ z ≤ 255) : fR_resolve_97 (fu + 1) z y4 R = some (0, R) := by
  unfold fR_resolve_97 fR_resolve_270
  rw [hm, h0]
  by_cases a : 0 < m
  · rw [mlt_t rI_0 ⟨by omega, by omega⟩ (by omega), meq_f (rB hz) ⟨by decide, by decide⟩ (by omega), meq_f ⟨by decide, by decide⟩ rI_0 (by decide), mlt_t rI_0 ⟨by decide, by decide⟩ (by decide)]
  · rw [mlt_f rI_0 ⟨by omega, by omega⟩ (by omega), mlt_t rI_0 ⟨by decide, by decide⟩ (by decide)]
theorem walk_v (h : Ok d sl us bg) (h0 : Go d sl us bg 0) : ∀ (n fu fu' i fl stp m : Nat) (X R : Mm), MX X d sl us bg → MY R d sl us bg → R 0 0 = 0 → Sk X R m → Go d sl us bg (i : Int) → fl ≤ 4 → stp + m ≤ 4 + 4 * fl → 21 ≤ stp + n → n < fu → n < fu' → Rz X R (fX_resolve_21 fu (i : Int) (fl : Int) (stp : Int) X) (fR_resolve_97 fu' (i : Int) (fl : Int) R)
  | _, 0, _, _, _, _, _, _, _, _, _, _, _, _, _, _, _, hf, _ => absurd hf (Nat.not_lt_zero _)
  | _, _, 0, _, _, _, _, _, _, _, _, _, _, _, _, _, _, _, hf => absurd hf (Nat.not_lt_zero _)
  | 0, _, _, _, fl, stp, m, _, _, _, _, _, _, _, h1, h2, h3, _, _ => by omega
  | n + 1, fu + 1, fu' + 1, i, fl, stp, m, X, R, hX, hR, hc, hs, hg, hfl, hsm, hn, hf, hf' => by
    obtain ⟨i', e1, e2, e3, e4⟩ := In.nat h hg.1
    have hi : i < 126 := by omega
    have qk := h.1.kn_ hi
    have hs' := hs
    obtain ⟨s1, s2, s3⟩ := hs
    rw [fX_resolve_21, fR_resolve_97]
    by_cases m0 : m = 0
    · subst m0
      have eX : (mlt (stp : Int) 20 (mlt 0 (X 0 5) (mcn (fDe_kindOf (i : Int) X) fun v5 M4 => meq v5 0 (mcn (fX_nextLetter M4) fun v7 M6 => mcn (fDe_lookUp (i : Int) v7 M6) fun v9 M8 => meq v9 (-1) (some (0, (-1), M8)) (mcx (fX_demandGood v9 M8) fun _ M10 => mcn (fDe_kindOf v9 M10) fun v12 M11 => meq v12 2 (meq (fl : Int) 4 (some (0, (-1), M11)) (mcn (fDe_sizeOf v9 M11) fun v14 M13 => mlt 4 v14 (some (0, (-1), M13)) (mcn (fX_layLinkAhead v9 M13) fun _ M15 => (fX_resolve_21 fu) 0 ((fl : Int) + 1) ((stp : Int) + 1) M15))) ((fX_resolve_21 fu) v9 (fl : Int) ((stp : Int) + 1) M11))) (some (0, (-1), M4))) (some (0, (i : Int), X))) (some (0, (i : Int), X))) = some (0, (i : Int), X) := by
        by_cases st20 : stp < 20
        · rw [mlt_t ⟨by omega, by omega⟩ ⟨by decide, by decide⟩ (by omega), s1, mlt_f rI_0 ⟨by omega, by omega⟩ (by omega)]
        · rw [mlt_f ⟨by omega, by omega⟩ ⟨by decide, by decide⟩ (by omega)]
      rw [eX, s2, mlt_f (a := 0) rI_0 ⟨by omega, by omega⟩ (by omega)]
      unfold fR_resolve_270
      rw [hc, mlt_f rI_0 rI_0 (by decide)]
      exact ⟨0, _, _, X, R, rfl, Or.inl rfl, fun _ => ⟨⟨by omega, by omega⟩, rfl⟩, rfl, hc, GrX.rfl', GrR.rfl'⟩
    · obtain ⟨m', rfl⟩ : ∃ m', m = m' + 1 := ⟨m - 1, by omega⟩
      have s3' := s3 m' (by omega)
      have hR1 : MY (st R 0 27 (m' : Int)) d sl us bg := by
        obtain ⟨h1, h2, h3, h4⟩ := hR
        exact ⟨by rw [st_ne (by decide)]; exact h1, by rw [st_off (by decide)]; exact h2, by rw [st_off (by decide)]; exact h3, fun i hi => by rw [st_ne (by decide)]; exact h4 i hi⟩
      have gR1 : GrR R (st R 0 27 (m' : Int)) := ⟨fun p a b => st_ne a, fun k a b => st_off b⟩
      have c1 : st R 0 27 (m' : Int) 0 0 = 0 := (st_off (by decide)).trans hc
      have l1 : st R 0 27 (m' : Int) 0 27 = (m' : Int) := st_same
      rw [s1, s2, mlt_t (a := (stp : Int)) ⟨by omega, by omega⟩ ⟨by decide, by decide⟩ (by omega), mlt_t (a := 0) rI_0 ⟨by omega, by omega⟩ (by omega), mlt_t (a := 0) rI_0 ⟨by omega, by omega⟩ (by omega), mcn_e (kind_vX h.1 hX.1 hi), meq_f (a := (i : Int)) ⟨by omega, by omega⟩ ⟨by decide, by decide⟩ (by omega), hc, meq_t rI_0 rI_0 rfl, show ((m' + 1 : Nat) : Int) - 1 = (m' : Int) by omega, mput_t, mcn_e (tag_vR h.1 hR1.1 hi (Or.inl rfl)), if_pos rfl]
      obtain ⟨fv, rfl⟩ : ∃ fv, fu' = fv + 1 := ⟨fu' - 1, by omega⟩
      have none' : ∀ X', GrX X X' → Rz X R (some (0, -1, X')) (fR_resolve_153 (fR_resolve_97 (fv + 1)) (fl : Int) (-1) (st R 0 27 (m' : Int))) := fun X' gx => by
        unfold fR_resolve_153
        rw [meq_t ⟨by decide, by decide⟩ ⟨by decide, by decide⟩ rfl, rz_no c1 l1 (by omega)]
        exact ⟨0, _, _, X', _, rfl, Or.inl rfl, fun _ => ⟨⟨by decide, by decide⟩, rfl⟩, rfl, c1, gx, gR1⟩
      by_cases k0 : kn d i = 0
      · have hl := hg.np (by omega)
        rw [meq_t ⟨by omega, by omega⟩ rI_0 k0, meq_t ⟨by omega, by omega⟩ rI_0 k0]
        unfold fX_nextLetter
        have x1 : st X 0 5 (m' : Int) 0 5 = (m' : Int) := st_same
        have gX1 : GrX X (st X 0 5 (m' : Int)) := fun p a b => st_ne a
        have x26 : st X 0 5 (m' : Int) 26 = X 26 := st_ne (by decide)
        have r18 : st R 0 27 (m' : Int) 18 = R 18 := st_ne (by decide)
        have hs1 : Sk (st X 0 5 (m' : Int)) (st R 0 27 (m' : Int)) m' := ⟨x1, l1, fun k hk => by rw [x26, r18]; exact s3 k (by omega)⟩
        rw [s1, mlt_t (a := 0) rI_0 ⟨by omega, by omega⟩ (by omega), show ((m' + 1 : Nat) : Int) - 1 = (m' : Int) by omega, mput_t, x1, mrd_t ⟨by omega, by omega⟩, mcn_t, l1, mrd_t ⟨by omega, by omega⟩, x26, r18, show (((m' : Nat) : Int)).toNat = m' by omega, s3'.1, mcn_e (lookUp_v h (gX1.mx hX) hg hl (rB s3'.2)), mcn_e (search_v h hR1 hg hl (rB s3'.2))]
        have qv := lks_r h hg hl (R 18 m')
        generalize lks d i (R 18 m') = v at qv ⊢
        by_cases vn : v = -1
        · subst vn
          rw [meq_t ⟨by decide, by decide⟩ ⟨by decide, by decide⟩ rfl]
          exact none' _ gX1
        · have rv : rI v := ⟨by omega, by omega⟩
          rw [meq_f rv ⟨by decide, by decide⟩ vn]
          unfold fR_resolve_153
          rw [meq_f rv ⟨by decide, by decide⟩ vn, mcn_e (sound_vR h hR1 rv)]
          by_cases gv : Go d sl us bg v
          · obtain ⟨j, f1, f2, f3, f4⟩ := In.nat h gv.1
            subst f1
            have qj := h.1.kn_ f3
            have qz := h.1.sz_ f3
            have hR2 : MY (st (st R 0 27 (m' : Int)) 0 0 0) d sl us bg := hR1.code
            have gR2 : GrR R (st (st R 0 27 (m' : Int)) 0 0 0) := gR1.tr ⟨fun p a b => st_ne a, fun k a b => st_off a⟩
            have c2 : st (st R 0 27 (m' : Int)) 0 0 0 0 0 = 0 := st_same
            have l2 : st (st R 0 27 (m' : Int)) 0 0 0 0 27 = (m' : Int) := (st_off (by decide)).trans l1
            have hs2 : Sk (st X 0 5 (m' : Int)) (st (st R 0 27 (m' : Int)) 0 0 0) m' := ⟨x1, l2, fun k hk => by rw [st_ne (k := 0) (k' := 18) (by decide)]; exact hs1.2.2 k hk⟩
            unfold fR_resolve_176
            rw [mcx_e (by rw [good_vX h (gX1.mx hX) rv, if_pos gv]), mcn_e (kind_vX h.1 (gX1.mx hX).1 f3), if_pos gv, meq_f ⟨by decide, by decide⟩ rI_0 (by decide), mput_t, c2, mlt_f rI_0 rI_0 (by decide), mcn_e (tag_vR h.1 hR2.1 f3 (Or.inl rfl)), if_pos rfl]
            by_cases k2 : kn d j = 2
            · have hlj := gv.np (by omega)
              have no2 : ∀ X' : Mm, GrX X X' → ∀ y4 : Int, Rz X R (some (0, -1, X')) (fR_resolve_97 (fv + 1) (-1) y4 (st (st R 0 27 (m' : Int)) 0 0 0)) := fun X' gx y4 => by
                rw [rz_no c2 l2 (by omega)]
                exact ⟨0, _, _, X', _, rfl, Or.inl rfl, fun _ => ⟨⟨by decide, by decide⟩, rfl⟩, rfl, c2, gx, gR2⟩
              rw [meq_t ⟨by omega, by omega⟩ ⟨by decide, by decide⟩ k2, meq_t ⟨by omega, by omega⟩ ⟨by decide, by decide⟩ k2, mcn_e (size_vR hR2.1 f3)]
              by_cases f4' : fl = 4
              · rw [meq_t (a := (fl : Int)) ⟨by omega, by omega⟩ ⟨by decide, by decide⟩ (by omega), show FU = 1999 + 1 from rfl, fR_resolve_215]
                unfold fR_resolve_249
                rw [mlt_f (a := (fl : Int) + 1) ⟨by omega, by omega⟩ ⟨by decide, by decide⟩ (by omega), mlt_f (a := (fl : Int) + 1) ⟨by omega, by omega⟩ ⟨by decide, by decide⟩ (by omega)]
                exact no2 _ gX1 _
              · rw [meq_f (a := (fl : Int)) ⟨by omega, by omega⟩ ⟨by decide, by decide⟩ (by omega), mcn_e (size_vX (gX1.mx hX).1 f3)]
                by_cases z4 : 4 < sz d j
                · rw [mlt_t ⟨by decide, by decide⟩ (rB qz) z4, show FU = 1999 + 1 from rfl, fR_resolve_215]
                  unfold fR_resolve_249
                  rw [mlt_t (a := (fl : Int) + 1) ⟨by omega, by omega⟩ ⟨by decide, by decide⟩ (by omega), mlt_f (a := sz d j) (rB qz) ⟨by decide, by decide⟩ (by omega), mlt_t (a := (fl : Int) + 1) ⟨by omega, by omega⟩ ⟨by decide, by decide⟩ (by omega), mlt_f (a := sz d j) (rB qz) ⟨by decide, by decide⟩ (by omega)]
                  exact no2 _ gX1 _
                · obtain ⟨X3, R3, g1, g2, g3, g4, g5, g6⟩ := links_v h gv hlj (K := fR_resolve_97 (fv + 1)) (fl := (fl : Int) + 1) (z := sz d j) ⟨by omega, by omega⟩ ⟨by omega, by omega⟩ (sz d j).toNat FU FU m' _ _ (gX1.mx hX) hR2 hs2 (by omega) (by omega) (by omega) (by unfold FU; omega) (by unfold FU; omega)
                  rw [show (((sz d j).toNat : Nat) : Int) = sz d j by omega] at g1 g2
                  unfold fX_layLinkAhead
                  rw [mlt_f ⟨by decide, by decide⟩ (rB qz) z4, mcn_e (size_vX (gX1.mx hX).1 f3), mcn_e g1, g2, show (fl : Int) + 1 = ((fl + 1 : Nat) : Int) by omega, show (stp : Int) + 1 = ((stp + 1 : Nat) : Int) by omega]
                  refine (walk_v h h0 n fu (fv + 1) 0 (fl + 1) (stp + 1) _ X3 R3 (g4.mx (gX1.mx hX)) (g5.my hR2) (g6.trans c2) g3 h0 (by omega) (by omega) (by omega) (by omega) (by omega)).tr (gX1.tr g4) (gR2.tr g5)
            · rw [meq_f ⟨by omega, by omega⟩ ⟨by decide, by decide⟩ k2, meq_f ⟨by omega, by omega⟩ ⟨by decide, by decide⟩ k2, show (stp : Int) + 1 = ((stp + 1 : Nat) : Int) by omega]
              exact (walk_v h h0 n fu (fv + 1) j fl (stp + 1) m' _ _ (gX1.mx hX) hR2 c2 hs2 gv hfl (by omega) (by omega) (by omega) (by omega)).tr gX1 gR2
          · have c3 : st (st R 0 27 (m' : Int)) 0 0 1 0 0 = 1 := st_same
            have l3 : st (st R 0 27 (m' : Int)) 0 0 1 0 27 = (m' : Int) := (st_off (by decide)).trans l1
            unfold fR_resolve_176
            rw [mcx_x (by rw [good_vX h (gX1.mx hX) rv, if_neg gv]) (fun z => nomatch (show (2 : Nat) = 0 from z)), if_neg gv, meq_t rI_0 rI_0 rfl, mput_t, c3, mlt_t rI_0 ⟨by decide, by decide⟩ (by decide), rz_bad c3 l3 (by omega) ⟨by omega, by omega⟩]
            exact ⟨2, 0, 0, _, _, rfl, Or.inr rfl, fun z => absurd z (by decide), rfl, c3, gX1, gR1.tr ⟨fun p a b => st_ne a, fun k a b => st_off a⟩⟩
      · rw [meq_f ⟨by omega, by omega⟩ rI_0 k0, meq_f ⟨by omega, by omega⟩ rI_0 k0]
        exact none' _ GrX.rfl'
theorem resolve_m (h : Ok d sl us bg) (hX : MX X d sl us bg) (hR : MY R d sl us bg) (hm : X 16 2 = 1) (hm' : R 0 17 = 1) (hp : rI p) : Rz X R (fX_resolve p X) (fR_resolve p R) := by
  unfold fX_resolve fR_resolve fX_demandMounted
  rw [hm, hm', meq_f ⟨by decide, by decide⟩ rI_0 (by decide), meq_f ⟨by decide, by decide⟩ rI_0 (by decide), mcx_t, mcn_e (sound_vR h hR rI_0)]
  by_cases g : Go d sl us bg 0
  · rw [mcx_e (by rw [good_vX h hX rI_0, if_pos g]), if_pos g, meq_f ⟨by decide, by decide⟩ rI_0 (by decide)]
    unfold fX_layAhead fR_resolve_21
    rw [mput_t, st_same, mlt_f rI_0 rI_0 (by decide)]
    have gR0 : GrR R (st R 0 0 0) := ⟨fun p a b => st_ne a, fun k a b => st_off a⟩
    obtain ⟨n, n1, n2, n3⟩ := count_v (X := X) (R := st R 0 0 0) hp 4 FU FU 0 rfl (by unfold FU; omega) (by unfold FU; omega)
    rw [show ((0 : Nat) : Int) = 0 from rfl] at n2 n3
    rw [n2, n3]
    unfold fX_layAhead_21 fR_resolve_59
    rw [mput_t, mput_t]
    have gX1 : GrX X (st X 0 5 0) := fun p a b => st_ne a
    have gR1 : GrR R (st (st R 0 0 0) 0 27 0) := gR0.tr ⟨fun p a b => st_ne a, fun k a b => st_off b⟩
    obtain ⟨X2, R2, g1, g2, g3, g4, g5, g6⟩ := lay_v hp n FU FU 0 (st X 0 5 0) (st (st R 0 0 0) 0 27 0) ⟨st_same, st_same, fun k hk => absurd hk (Nat.not_lt_zero _)⟩ n1 (by omega) (by unfold FU; omega) (by unfold FU; omega)
    rw [mcn_e g1, g2]
    have c0 : R2 0 0 = 0 := g6.trans ((st_off (by decide)).trans st_same)
    exact (walk_v h g 21 FU FU 0 0 0 _ X2 R2 (g4.mx (gX1.mx hX)) (g5.my (gR1.my hR)) c0 g3 g (by omega) (by omega) (by omega) (by unfold FU; omega) (by unfold FU; omega)).tr (gX1.tr g4) (gR1.tr g5)
  · rw [mcx_x (by rw [good_vX h hX rI_0, if_neg g]) (fun z => nomatch (show (2 : Nat) = 0 from z)), if_neg g, meq_t rI_0 rI_0 rfl]
    unfold fR_resolve_20 fR_resolve_21
    rw [mput_t, st_same, mlt_t rI_0 ⟨by decide, by decide⟩ (by decide)]
    exact ⟨2, 0, 0, X, _, rfl, Or.inr rfl, fun z => absurd z (by decide), rfl, st_same, GrX.rfl', fun p a b => st_ne a, fun k a b => st_off a⟩
theorem resolve_u (hm : X 16 2 = 0) (hm' : R 0 17 = 0) : Rz X R (fX_resolve p X) (fR_resolve p R) := by
  unfold fX_resolve fR_resolve fX_demandMounted fR_resolve_20 fR_resolve_21
  rw [hm', hm, meq_t rI_0 rI_0 rfl, meq_t rI_0 rI_0 rfl, mcx_x rfl (fun z => nomatch (show (2 : Nat) = 0 from z)), mput_t, st_same, mlt_t rI_0 ⟨by decide, by decide⟩ (by decide)]
  exact ⟨2, 0, 0, X, _, rfl, Or.inr rfl, fun z => absurd z (by decide), rfl, st_same, GrX.rfl', fun p a b => st_ne a, fun k a b => st_off a⟩
end S2
