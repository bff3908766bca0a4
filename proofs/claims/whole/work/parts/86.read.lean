/-! read: the class's cache, and the whole call -/
section V3
variable {d : Nat → Int} {X R M : Mm} {i c : Nat} {sl us : Int} {bg : Nat → Int} {a : Int}
/-- what both sides leave after a read -/
def Aft (d : Nat → Int) (sl us : Int) (bg : Nat → Int) (X R X' R' : Mm) : Prop := Kp d sl us bg X' R' 20 0 ∧ Kp d sl us bg X' R' 22 1 ∧ X' 19 3 = R' 0 24 ∧ X' 19 4 = R' 0 25 ∧ (∀ p, p < 19 → X' p = X p) ∧ (∀ p, 1 ≤ p → p < 15 → R' p = R p) ∧ ∀ k, k ≠ 0 → k ≠ 24 → k ≠ 25 → R' 0 k = R 0 k
theorem byte52 (h : Ok d sl us bg) (hX : MX M d sl us bg) (hg : Go d sl us bg (i : Int)) (hl : ly d i = 2) (hc : (c : Int) < rs d i 0) {l : List Int} (hlen : (l.length : Int) = rs d i (1 + c) - cs d i c) (h20 : M 20 3 = (l.length : Int)) (h21 : ∀ k, k < l.length → M 21 k = l.getD k 0) (ha : cs d i c ≤ a ∧ a < rs d i (1 + c)) : fX_packedByte_52 (i : Int) a (c : Int) M = some (l.getD (a - cs d i c).toNat 0, M) := by
  obtain ⟨p1, p2, p3, p4, p5⟩ := packed h hg hl
  have p22 := p2.2.1
  have q1 := h.1.rs_ (i := i) (k := 1 + c) (by omega)
  have q2 := cs_r (i := i) (c := c) h.1 (by omega)
  unfold fX_packedByte_52 fCl_dataAt
  rw [mcn_e (cst_vX hX.1 (by omega)), mlt_f ⟨by omega, by omega⟩ rI_0 (by omega), h20, mlt_t ⟨by omega, by omega⟩ ⟨by omega, by omega⟩ (by omega), mrd_t ⟨by omega, by omega⟩, mcn_t, h21 _ (by omega)]
theorem holds40 (r0 : rI (M 20 1)) (r0' : M 20 1 = (i : Int) → rI (M 20 2)) (ri : rI (i : Int)) (rc : rI (c : Int)) : fCa_holds_40 (i : Int) (c : Int) M = if M 20 1 = (i : Int) ∧ M 20 2 = (c : Int) then some (1, st M 19 3 (M 19 3 + 1)) else some (0, st M 19 4 (M 19 4 + 1)) := by
  have e1 : fCa_holds_67 1 M = some (1, st M 19 3 (M 19 3 + 1)) := by
    unfold fCa_holds_67 fCa_holds_95
    rw [meq_f ⟨by decide, by decide⟩ rI_0 (by decide), mput_t, mz_t (by omega)]
  have e0 : fCa_holds_67 0 M = some (0, st M 19 4 (M 19 4 + 1)) := by
    unfold fCa_holds_67 fCa_holds_95
    rw [meq_t rI_0 rI_0 rfl, mput_t, mz_t (by omega)]
  unfold fCa_holds_40
  rw [e1, e0]
  by_cases a1 : M 20 1 = (i : Int)
  · rw [meq_t r0 ri a1]
    by_cases a2 : M 20 2 = (c : Int)
    · rw [meq_t (r0' a1) rc a2, if_pos ⟨a1, a2⟩]
    · rw [meq_f (r0' a1) rc a2, if_neg (fun z => a2 z.2)]
  · rw [meq_f r0 ri a1, if_neg (fun z => a1 z.1)]
theorem pbyte_v (h : Ok d sl us bg) (hX : MX X d sl us bg) (hR : MY R d sl us bg) (k0 : Kp d sl us bg X R 20 0) (k1 : Kp d sl us bg X R 22 1) (hh : X 19 3 = R 0 24) (hm : X 19 4 = R 0 25) (hg : Go d sl us bg (i : Int)) (hl : ly d i = 2) (ha : 0 ≤ a ∧ a < sz d i) : ∃ (v : Int) (X' : Mm) (v' : Int) (R' : Mm), fX_packedByte (i : Int) a X = some (v, X') ∧ fR_readPacked (i : Int) a R = some (v', R') ∧ ((v = -1 ∧ R' 0 0 = 1) ∨ ((0 ≤ v ∧ v ≤ 255) ∧ v' = v ∧ R' 0 0 = R 0 0)) ∧ Aft d sl us bg X R X' R' := by
  obtain ⟨i', e1, e2, e3, e4⟩ := In.nat h hg.1
  obtain ⟨p1, p2, p3, p4, p5⟩ := packed h hg hl
  have p21 := p2.1
  have p22 := p2.2.1
  obtain ⟨w1, w2, w3⟩ := cwf_p h hg hl ha.2 ((rs d i 0).toNat - 1) 0 (by omega) ha.1
  have wX := with_vX h hX hg hl ha ((rs d i 0).toNat - 1) FU 0 (by omega) (by unfold FU; omega)
  have wR := with_vR h hR hg hl ha ((rs d i 0).toNat - 1) FU 0 (by omega) (by unfold FU; omega)
  rw [show ((0 : Nat) : Int) = 0 from rfl] at wX wR
  unfold fX_packedByte fDe_clusterWith fR_readPacked
  rw [mcn_e wX, wR]
  generalize cwf d i a ((rs d i 0).toNat - 1) 0 = c at w1 w2 w3 ⊢
  have ri : rI (i : Int) := ⟨by omega, by omega⟩
  have rc : rI (c : Int) := ⟨by omega, by omega⟩
  obtain ⟨r0, r0'⟩ := k0.rng h
  obtain ⟨r1, r1'⟩ := k1.rng h
  obtain ⟨M6, t1, t2⟩ := rpk_v (X := X) h hR hg hl w3 k0 k1 ⟨w2, w1⟩
  have ex0 : X 20 1 = R 16 0 := k0.1
  have ex1 : X 22 1 = R 16 1 := k1.1
  by_cases m1 : R 16 1 = (i : Int) ∧ R 17 1 = (c : Int)
  · -- the older one is it
    obtain ⟨-, z | ⟨i1, c1, l, g1, g2, g3, g4, g5, g6, g7, g8, g9⟩⟩ := id k1
    · have := m1.1; omega
    have ei : i1 = i := by have := m1.1; omega
    have ec : c1 = c := by have := m1.2; omega
    subst ei; subst ec
    obtain ⟨hlen, hby⟩ := un_len h hR hg hl w3 g7
    rw [if_pos (Or.inr m1), if_pos (Or.inr m1)] at t1
    have hold : fCa_holds (i1 : Int) (c1 : Int) X = some (1, st (fun k => X (piS k)) 19 3 (X 19 3 + 1)) := by
      unfold fCa_holds
      rw [meq_t (by rw [ex1]; exact r1) ri (ex1.trans m1.1), meq_t (by rw [g2]; exact rc) rc g2, holds40 (M := fun k => X (piS k)) (by show rI (X 22 1); rw [ex1]; exact r1) (fun _ => by show rI (X 22 2); rw [g2]; exact rc) ri rc, if_pos ⟨ex1.trans m1.1, g2⟩]
      rfl
    have hXM : MX (st (fun k => X (piS k)) 19 3 (X 19 3 + 1)) d sl us bg := ⟨hX.1, hX.2.1, hX.2.2.1, hX.2.2.2⟩
    rw [mcn_e hold, meq_f ⟨by decide, by decide⟩ rI_0 (by decide), byte52 h hXM hg hl w3 hlen g8 g9 ⟨w2, w1⟩]
    rcases t2 with ⟨u1, -⟩ | ⟨l', u1, u2⟩
    · rw [g7] at u1; exact nomatch u1
    · rw [g7] at u1
      have := Option.some.inj u1
      subst this
      rw [u2]
      refine ⟨_, _, _, _, rfl, rfl, Or.inr ⟨hby _, rfl, ?_⟩, ?_, ?_, ?_, ?_, ?_, ?_, ?_⟩
      · by_cases m0 : R 16 0 = (i1 : Int) ∧ R 17 0 = (c1 : Int)
        · rw [if_pos m0, t1 0 (by decide), st_off (by decide), st_off (by decide)]
        · rw [if_neg m0]
          show M6 0 0 = R 0 0
          rw [t1 0 (by decide), st_off (by decide), st_off (by decide)]
      · refine k1.mov rfl rfl ?_ ?_
        · by_cases m0 : R 16 0 = (i1 : Int) ∧ R 17 0 = (c1 : Int)
          · rw [if_pos m0, t1 16 (by decide)]; exact m0.1.trans m1.1.symm
          · rw [if_neg m0]; exact m1.1.symm
        · by_cases m0 : R 16 0 = (i1 : Int) ∧ R 17 0 = (c1 : Int)
          · rw [if_pos m0, t1 17 (by decide)]; exact m0.2.trans m1.2.symm
          · rw [if_neg m0]; exact m1.2.symm
      · refine k0.mov rfl rfl ?_ ?_
        · by_cases m0 : R 16 0 = (i1 : Int) ∧ R 17 0 = (c1 : Int)
          · rw [if_pos m0, t1 16 (by decide)]; exact m1.1.trans m0.1.symm
          · rw [if_neg m0]
            show M6 16 0 = R 16 0
            rw [t1 16 (by decide)]; rfl
        · by_cases m0 : R 16 0 = (i1 : Int) ∧ R 17 0 = (c1 : Int)
          · rw [if_pos m0, t1 17 (by decide)]; exact m1.2.trans m0.2.symm
          · rw [if_neg m0]
            show M6 17 0 = R 17 0
            rw [t1 17 (by decide)]; rfl
      · have : ∀ Q : Mm, Q = M6 ∨ Q = kpM M6 i1 c1 → Q 0 24 = R 0 24 + 1 := fun Q hq => by
          rcases hq with rfl | rfl
          · rw [t1 0 (by decide), st_off (by decide), st_same]
          · show M6 0 24 = _
            rw [t1 0 (by decide), st_off (by decide), st_same]
        refine Eq.trans ?_ (this _ (by split <;> simp)).symm
        show X 19 3 + 1 = R 0 24 + 1
        rw [hh]
      · have : ∀ Q : Mm, Q = M6 ∨ Q = kpM M6 i1 c1 → Q 0 25 = R 0 25 + 0 := fun Q hq => by
          rcases hq with rfl | rfl
          · rw [t1 0 (by decide), st_same]
          · show M6 0 25 = _
            rw [t1 0 (by decide), st_same]
        refine Eq.trans ?_ (this _ (by split <;> simp)).symm
        show X 19 4 = R 0 25 + 0
        rw [hm, Int.add_zero]
      · intro p hp
        rw [st_ne (by omega)]
        show X (piS p) = X p
        unfold piS
        rw [if_neg (by omega), if_neg (by omega), if_neg (by omega), if_neg (by omega)]
      · have : ∀ Q : Mm, Q = M6 ∨ Q = kpM M6 i1 c1 → ∀ p, 1 ≤ p → p < 15 → Q p = R p := fun Q hq p h1 h2 => by
          rcases hq with rfl | rfl
          · rw [t1 p (by omega), st_ne (by omega), st_ne (by omega)]
          · unfold kpM
            rw [st_ne (by omega), st_ne (by omega), st_ne (by omega), st_ne (by omega), t1 p (by omega), st_ne (by omega), st_ne (by omega)]
        exact this _ (by split <;> simp)
      · have : ∀ Q : Mm, Q = M6 ∨ Q = kpM M6 i1 c1 → ∀ k, k ≠ 0 → k ≠ 24 → k ≠ 25 → Q 0 k = R 0 k := fun Q hq k h0 h1 h2 => by
          rcases hq with rfl | rfl
          · rw [t1 0 (by decide), st_off h2, st_off h1]
          · show M6 0 k = _
            rw [t1 0 (by decide), st_off h2, st_off h1]
        exact this _ (by split <;> simp)
  · have hold0 : fCa_holds (i : Int) (c : Int) X = fCa_holds_40 (i : Int) (c : Int) X := by
      unfold fCa_holds
      by_cases a1 : X 22 1 = (i : Int)
      · have := r1' i (ex1.symm.trans a1)
        rw [meq_t (by rw [ex1]; exact r1) ri a1, meq_f (by rw [this.1]; exact this.2) rc (fun z => m1 ⟨ex1.symm.trans a1, this.1.symm.trans z⟩)]
      · rw [meq_f (by rw [ex1]; exact r1) ri a1]
    rw [hold0, holds40 (by rw [ex0]; exact r0) (fun z => by have := r0' i (ex0.symm.trans z); rw [this.1]; exact this.2) ri rc]
    by_cases m0 : R 16 0 = (i : Int) ∧ R 17 0 = (c : Int)
    · obtain ⟨-, z | ⟨i1, c1, l, g1, g2, g3, g4, g5, g6, g7, g8, g9⟩⟩ := id k0
      · have := m0.1; omega
      have ei : i1 = i := by have := m0.1; omega
      have ec : c1 = c := by have := m0.2; omega
      subst ei; subst ec
      obtain ⟨hlen, hby⟩ := un_len h hR hg hl w3 g7
      rw [if_pos (Or.inl m0), if_pos (Or.inl m0)] at t1
      have hXM : MX (st X 19 3 (X 19 3 + 1)) d sl us bg := ⟨hX.1, hX.2.1, hX.2.2.1, hX.2.2.2⟩
      rw [if_pos ⟨ex0.trans m0.1, g2⟩, mcn_t, meq_f ⟨by decide, by decide⟩ rI_0 (by decide), byte52 h hXM hg hl w3 hlen g8 g9 ⟨w2, w1⟩]
      rcases t2 with ⟨u1, -⟩ | ⟨l', u1, u2⟩
      · rw [g7] at u1; exact nomatch u1
      · rw [g7] at u1
        have := Option.some.inj u1
        subst this
        rw [u2, if_pos m0]
        refine ⟨_, _, _, _, rfl, rfl, Or.inr ⟨hby _, rfl, ?_⟩, k0.mov rfl rfl ?_ ?_, k1.mov rfl rfl ?_ ?_, ?_, ?_, ?_, ?_, ?_⟩
        · rw [t1 0 (by decide), st_off (by decide), st_off (by decide)]
        · rw [t1 16 (by decide)]; rfl
        · rw [t1 17 (by decide)]; rfl
        · rw [t1 16 (by decide)]; rfl
        · rw [t1 17 (by decide)]; rfl
        · rw [t1 0 (by decide)]
          show X 19 3 + 1 = R 0 24 + 1
          rw [hh]
        · rw [t1 0 (by decide)]
          show X 19 4 = R 0 25 + 0
          rw [hm, Int.add_zero]
        · intro p hp
          rw [st_ne (by omega)]
        · intro p h1 h2
          rw [t1 p (by omega), st_ne (by omega), st_ne (by omega)]
        · intro k h0 h1 h2
          rw [t1 0 (by decide), st_off h2, st_off h1]
    · rw [if_neg (fun z => z.elim m0 m1), if_neg (fun z => z.elim m0 m1)] at t1
      have nx : ¬ (X 20 1 = (i : Int) ∧ X 20 2 = (c : Int)) := fun z => by
        have := r0' i (ex0.symm.trans z.1)
        exact m0 ⟨ex0.symm.trans z.1, this.1.symm.trans z.2⟩
      have hXM : MX (st X 19 4 (X 19 4 + 1)) d sl us bg := ⟨hX.1, hX.2.1, hX.2.2.1, hX.2.2.2⟩
      obtain ⟨g, M9, f1, f2⟩ := unpack_vX h hXM hg hl w3
      rw [if_neg nx, mcn_t, meq_t rI_0 rI_0 rfl, mcn_e f1]
      rcases t2 with ⟨u1, u2⟩ | ⟨l, u1, u2⟩
      · have g0 : g = 0 := by
          rcases f2.2 with ⟨_, z⟩ | ⟨l, z, _⟩
          · exact z
          · rw [u1] at z; exact nomatch z
        subst g0
        rw [meq_t rI_0 rI_0 rfl, u2]
        refine ⟨_, _, _, _, rfl, rfl, Or.inl ⟨rfl, st_same⟩, k0.mov ?_ ?_ ?_ ?_, k1.mov ?_ ?_ ?_ ?_, ?_, ?_, ?_, ?_, ?_⟩
        · rw [f2.1 20 (by decide) (by decide)]; rfl
        · rw [f2.1 21 (by decide) (by decide)]; rfl
        · rw [st_ne (by decide), t1 16 (by decide)]; rfl
        · rw [st_ne (by decide), t1 17 (by decide)]; rfl
        · rw [f2.1 22 (by decide) (by decide)]; rfl
        · rw [f2.1 23 (by decide) (by decide)]; rfl
        · rw [st_ne (by decide), t1 16 (by decide)]; rfl
        · rw [st_ne (by decide), t1 17 (by decide)]; rfl
        · rw [f2.1 19 (by decide) (by decide), st_off (by decide), st_off (by decide), t1 0 (by decide), st_off (by decide), st_same, Int.add_zero, hh]
        · rw [f2.1 19 (by decide) (by decide), st_same, st_off (by decide), t1 0 (by decide), st_same, hm]
        · intro p hp
          rw [f2.1 p (by omega) (by omega), st_ne (by omega)]
        · intro p h1 h2
          rw [st_ne (by omega), t1 p (by omega), st_ne (by omega), st_ne (by omega)]
        · intro k h0 h1 h2
          rw [st_off h0, t1 0 (by decide), st_off h2, st_off h1]
      · obtain ⟨hlen, hby⟩ := un_len h hR hg hl w3 u1
        have g1 : g = 1 ∧ M9 24 3 = (l.length : Int) ∧ ∀ k, k < l.length → M9 25 k = l.getD k 0 := by
          rcases f2.2 with ⟨z, _⟩ | ⟨l', z, z1, _, z2, z3⟩
          · rw [u1] at z; exact nomatch z
          · rw [u1] at z
            have := Option.some.inj z
            subst this
            exact ⟨z1, z2, z3⟩
        obtain ⟨rfl, g2, g3⟩ := g1
        have hk : fCa_keepSpare (i : Int) (c : Int) M9 = some (0, fun k => st (st M9 24 1 (i : Int)) 24 2 (c : Int) (piR k)) := rfl
        have hp : ∀ p, p < 19 → (fun k => st (st M9 24 1 (i : Int)) 24 2 (c : Int) (piR k)) p = X p := fun p hp => by
          show st (st M9 24 1 (i : Int)) 24 2 (c : Int) (piR p) = X p
          have : piR p = p := by
            unfold piR
            rw [if_neg (by omega), if_neg (by omega), if_neg (by omega), if_neg (by omega), if_neg (by omega), if_neg (by omega)]
          rw [this, st_ne (by omega), st_ne (by omega), f2.1 p (by omega) (by omega), st_ne (by omega)]
        have hXM2 : MX (fun k => st (st M9 24 1 (i : Int)) 24 2 (c : Int) (piR k)) d sl us bg := ⟨(hp 17 (by decide)).trans hX.1, by rw [hp 16 (by decide)]; exact hX.2.1, by rw [hp 16 (by decide)]; exact hX.2.2.1, fun i hi => by rw [hp 18 (by decide)]; exact hX.2.2.2 i hi⟩
        rw [meq_f ⟨by decide, by decide⟩ rI_0 (by decide), mcn_e hk, byte52 h hXM2 hg hl w3 hlen (by show st (st M9 24 1 (i : Int)) 24 2 (c : Int) 24 3 = _; rw [st_off (by decide), st_off (by decide)]; exact g2) (fun k hk => by show st (st M9 24 1 (i : Int)) 24 2 (c : Int) 25 k = _; rw [st_ne (by decide), st_ne (by decide)]; exact g3 k hk) ⟨w2, w1⟩, u2, if_neg m0]
        refine ⟨_, _, _, _, rfl, rfl, Or.inr ⟨hby _, rfl, ?_⟩, ⟨?_, Or.inr ⟨i, c, l, rfl, ?_, rfl, hg, hl, w3, u1, ?_, ?_⟩⟩, k0.mov ?_ ?_ ?_ ?_, ?_, ?_, hp, ?_, ?_⟩
        · show M6 0 0 = R 0 0
          rw [t1 0 (by decide), st_off (by decide), st_off (by decide)]
        · rfl
        · rfl
        · show st (st M9 24 1 (i : Int)) 24 2 (c : Int) 24 3 = _
          rw [st_off (by decide), st_off (by decide)]; exact g2
        · intro k hk
          show st (st M9 24 1 (i : Int)) 24 2 (c : Int) 25 k = _
          rw [st_ne (by decide), st_ne (by decide)]; exact g3 k hk
        · show st (st M9 24 1 (i : Int)) 24 2 (c : Int) 20 = _
          rw [st_ne (by decide), st_ne (by decide), f2.1 20 (by decide) (by decide)]; rfl
        · show st (st M9 24 1 (i : Int)) 24 2 (c : Int) 21 = _
          rw [st_ne (by decide), st_ne (by decide), f2.1 21 (by decide) (by decide)]; rfl
        · show M6 16 0 = R 16 0
          rw [t1 16 (by decide)]; rfl
        · show M6 17 0 = R 17 0
          rw [t1 17 (by decide)]; rfl
        · show st (st M9 24 1 (i : Int)) 24 2 (c : Int) 19 3 = M6 0 24
          rw [st_ne (by decide), st_ne (by decide), f2.1 19 (by decide) (by decide), st_off (by decide), t1 0 (by decide), st_off (by decide), st_same, Int.add_zero, hh]
        · show st (st M9 24 1 (i : Int)) 24 2 (c : Int) 19 4 = M6 0 25
          rw [st_ne (by decide), st_ne (by decide), f2.1 19 (by decide) (by decide), st_same, t1 0 (by decide), st_same, hm]
        · intro p h1 h2
          unfold kpM
          rw [st_ne (by omega), st_ne (by omega), st_ne (by omega), st_ne (by omega), t1 p (by omega), st_ne (by omega), st_ne (by omega)]
        · intro k h0 h1 h2
          show M6 0 k = R 0 k
          rw [t1 0 (by decide), st_off h2, st_off h1]
end V3
