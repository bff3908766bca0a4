/-! read of a packed inode: both sides alike -/
def kpM (M : Mm) (i c : Int) : Mm := st (st (st (st M 16 1 (M 16 0)) 17 1 (M 17 0)) 16 0 i) 17 0 c
section V2
variable {d : Nat → Int} {X R M : Mm} {i c : Nat} {sl us : Int} {bg : Nat → Int} {a : Int}
theorem Kp.mov {X' R' : Mm} {p p' j j' : Nat} (h : Kp d sl us bg X R p j) (h1 : X' p' = X p) (h2 : X' (p' + 1) = X (p + 1)) (h3 : R' 16 j' = R 16 j) (h4 : R' 17 j' = R 17 j) : Kp d sl us bg X' R' p' j' := by
  unfold Kp at h ⊢
  rw [h1, h2, h3, h4]
  exact h
/-- a kept cluster's numbers -/
theorem Kp.rng {p j : Nat} (h : Kp d sl us bg X R p j) (hO : Ok d sl us bg) : rI (R 16 j) ∧ (∀ i : Nat, R 16 j = (i : Int) → X p 2 = R 17 j ∧ rI (R 17 j)) := by
  obtain ⟨h1, h2 | ⟨i', c', l, g1, g2, g3, g4, g5, g6, g7⟩⟩ := h
  · exact ⟨by rw [h2]; exact ⟨by decide, by decide⟩, fun i e => by omega⟩
  · obtain ⟨i'', e1, e2, e3, e4⟩ := In.nat hO g4.1
    obtain ⟨p1, p2, p3, p4, p5⟩ := packed hO g4 g5
    have := p2.2.1
    exact ⟨by rw [g1]; exact ⟨by omega, by omega⟩, fun i e => ⟨by rw [g2, g3], by rw [g3]; exact ⟨by omega, by omega⟩⟩⟩
theorem keep_v : fR_keep (i : Int) (c : Int) M = some (0, kpM M i c) := by
  unfold fR_keep kpM
  rw [mrd_t ⟨by omega, by omega⟩, mwr_t ⟨by omega, by omega⟩, mrd_t ⟨by omega, by omega⟩, mwr_t ⟨by omega, by omega⟩, mwr_t ⟨by omega, by omega⟩, mwr_t ⟨by omega, by omega⟩, st_ne (k := 16) (k' := 17) (by decide)]
  rfl
theorem un_len (h : Ok d sl us bg) (hM : MY M d sl us bg) (hg : Go d sl us bg (i : Int)) (hl : ly d i = 2) (hc : (c : Int) < rs d i 0) {l : List Int} (hu : un d i c = some l) : (l.length : Int) = rs d i (1 + c) - cs d i c ∧ ∀ k, 0 ≤ l.getD k 0 ∧ l.getD k 0 ≤ 255 := by
  obtain ⟨g, M', e1, e2⟩ := unpack_vR h hM hg hl hc
  obtain ⟨p1, p2, p3, p4, p5⟩ := packed h hg hl
  have p22 := p2.2.1
  have q3 := enb_lt (j := c) p2.2.2.2 (by omega)
  refine ⟨?_, gd_b (uz_b h.1 (by omega) 17 0 [] l (fun x hx => absurd hx (List.not_mem_nil)) hu)⟩
  rcases e2.2 with ⟨z, _⟩ | ⟨l', z, _, z2, _⟩
  · rw [hu] at z; exact nomatch z
  · rw [hu] at z
    have := Option.some.inj z
    subst this
    omega
/-- the reference once the cluster is known -/
theorem rpk_v (h : Ok d sl us bg) (hM : MY R d sl us bg) (hg : Go d sl us bg (i : Int)) (hl : ly d i = 2) (hc : (c : Int) < rs d i 0) (k0 : Kp d sl us bg X R 20 0) (k1 : Kp d sl us bg X R 22 1) (ha : cs d i c ≤ a ∧ a < rs d i (1 + c)) :
    ∃ M6, FrR (st (st R 0 24 (R 0 24 + (if (R 16 0 = (i : Int) ∧ R 17 0 = (c : Int)) ∨ (R 16 1 = (i : Int) ∧ R 17 1 = (c : Int)) then 1 else 0))) 0 25 (R 0 25 + (if (R 16 0 = (i : Int) ∧ R 17 0 = (c : Int)) ∨ (R 16 1 = (i : Int) ∧ R 17 1 = (c : Int)) then 0 else 1))) M6 ∧
      ((un d i c = none ∧ rpk (i : Int) a (c : Int) R = some (0, st M6 0 0 1)) ∨ ∃ l, un d i c = some l ∧ rpk (i : Int) a (c : Int) R = some (l.getD (a - cs d i c).toNat 0, if R 16 0 = (i : Int) ∧ R 17 0 = (c : Int) then M6 else kpM M6 i c)) := by
  obtain ⟨i', e1, e2, e3, e4⟩ := In.nat h hg.1
  obtain ⟨p1, p2, p3, p4, p5⟩ := packed h hg hl
  have p22 := p2.2.1
  have q1 := h.1.rs_ (i := i) (k := 1 + c) (by omega)
  have q2 := cs_r (i := i) (c := c) h.1 (by omega)
  obtain ⟨r0, r0'⟩ := k0.rng h
  obtain ⟨r1, r1'⟩ := k1.rng h
  have ri : rI (i : Int) := ⟨by omega, by omega⟩
  have rc : rI (c : Int) := ⟨by omega, by omega⟩
  -- after the counts
  have e111 : ∀ (y4 z0 : Int) (z1 z2 : Int) (L : Bool), (y4 = if L then 1 else 0) → ∃ M6, FrR (st (st R 0 24 (R 0 24 + z1)) 0 25 (R 0 25 + z2)) M6 ∧ ((un d i c = none ∧ fR_readPacked_111 (i : Int) a (c : Int) y4 (R 0 25) z2 (st R 0 24 (R 0 24 + z1)) = some (0, st M6 0 0 1)) ∨ ∃ l, un d i c = some l ∧ fR_readPacked_111 (i : Int) a (c : Int) y4 (R 0 25) z2 (st R 0 24 (R 0 24 + z1)) = some (l.getD (a - cs d i c).toNat 0, if L then M6 else kpM M6 i c)) := fun y4 _ z1 z2 L hy => by
    have hM5 : MY (st (st R 0 24 (R 0 24 + z1)) 0 25 (R 0 25 + z2)) d sl us bg := by
      obtain ⟨h1, h2, h3, h4⟩ := hM
      exact ⟨by rw [st_ne (by decide), st_ne (by decide)]; exact h1, by rw [st_off (by decide), st_off (by decide)]; exact h2, by rw [st_off (by decide), st_off (by decide)]; exact h3, fun i hi => by rw [st_ne (by decide), st_ne (by decide)]; exact h4 i hi⟩
    obtain ⟨g, M6, f1, f2⟩ := unpack_vR h hM5 hg hl hc
    refine ⟨M6, f2.1, ?_⟩
    unfold fR_readPacked_111
    rw [mput_t, mcn_e f1]
    rcases f2.2 with ⟨u1, rfl⟩ | ⟨l, u1, rfl, u3, u4⟩
    · unfold fR_fail
      rw [meq_t rI_0 rI_0 rfl, mput_t, mcn_t]
      exact Or.inl ⟨u1, rfl⟩
    · refine Or.inr ⟨l, u1, ?_⟩
      rw [meq_f ⟨by decide, by decide⟩ rI_0 (by decide)]
      have e141 : ∀ M7 : Mm, M7 13 = d → M7 15 = M6 15 → fR_readPacked_141 (i : Int) a (c : Int) M7 = some (l.getD (a - cs d i c).toNat 0, M7) := fun M7 h13 h15 => by
        unfold fR_readPacked_141
        rw [mcn_e (cst_vR h13 (by omega)), mrd_t ⟨by omega, by omega⟩, h15, u4 _ (by omega)]
      have m13 : M6 13 = d := (f2.1 13 (by decide)).trans hM5.1
      cases L with
      | true =>
        rw [show y4 = 1 from hy, meq_f ⟨by decide, by decide⟩ rI_0 (by decide), e141 M6 m13 rfl]
        rfl
      | false =>
        rw [show y4 = 0 from hy, meq_t rI_0 rI_0 rfl, mcn_e keep_v, e141 (kpM M6 i c) (by unfold kpM; rw [st_ne (by decide), st_ne (by decide), st_ne (by decide), st_ne (by decide)]; exact m13) (by unfold kpM; rw [st_ne (by decide), st_ne (by decide), st_ne (by decide), st_ne (by decide)])]
        rfl
  have e25 : ∀ z : Int, st R 0 24 z 0 25 = R 0 25 := fun z => st_off (by decide)
  have e75 : ∀ y4 z0 : Int, z0 = 0 ∨ z0 = 1 → fR_readPacked_75 (i : Int) a (c : Int) y4 z0 R = fR_readPacked_111 (i : Int) a (c : Int) y4 (R 0 25) (if z0 = 1 then 0 else 1) (st R 0 24 (R 0 24 + (if z0 = 1 then 1 else 0))) := fun y4 z0 hz => by
    unfold fR_readPacked_75 fR_readPacked_92
    rcases hz with rfl | rfl
    · rw [meq_t rI_0 rI_0 rfl, mput_t, meq_t rI_0 rI_0 rfl, e25]; rfl
    · rw [meq_f ⟨by decide, by decide⟩ rI_0 (by decide), mput_t, meq_f ⟨by decide, by decide⟩ rI_0 (by decide), e25]; rfl
  have e43 : ∀ z0 : Int, z0 = 0 → fR_readPacked_43 (i : Int) a (c : Int) z0 R = fR_readPacked_75 (i : Int) a (c : Int) z0 (if R 16 1 = (i : Int) ∧ R 17 1 = (c : Int) then 1 else 0) R := fun z0 hz => by
    subst hz
    unfold fR_readPacked_43 fR_readPacked_70 fR_readPacked_74
    rw [meq_t rI_0 rI_0 rfl, mrd_t ⟨by omega, by omega⟩, show (1 : Int).toNat = 1 from rfl]
    by_cases a1 : R 16 1 = (i : Int)
    · rw [meq_t r1 ri a1, mrd_t ⟨by omega, by omega⟩, show (1 : Int).toNat = 1 from rfl]
      by_cases a2 : R 17 1 = (c : Int)
      · rw [meq_t (r1' i a1).2 rc a2, if_pos ⟨a1, a2⟩]
      · rw [meq_f (r1' i a1).2 rc a2, if_neg (fun z => a2 z.2)]
    · rw [meq_f r1 ri a1, if_neg (fun z => a1 z.1)]
  have er : rpk (i : Int) a (c : Int) R = if R 16 0 = (i : Int) ∧ R 17 0 = (c : Int) then fR_readPacked_75 (i : Int) a (c : Int) 1 1 R else fR_readPacked_75 (i : Int) a (c : Int) 0 (if R 16 1 = (i : Int) ∧ R 17 1 = (c : Int) then 1 else 0) R := by
    unfold rpk fR_readPacked_42
    rw [mrd_t ⟨by omega, by omega⟩, e43 0 rfl, show (0 : Int).toNat = 0 from rfl]
    have e431 : fR_readPacked_43 (i : Int) a (c : Int) 1 R = fR_readPacked_75 (i : Int) a (c : Int) 1 1 R := by
      unfold fR_readPacked_43 fR_readPacked_70
      rw [meq_f ⟨by decide, by decide⟩ rI_0 (by decide)]
    rw [e431]
    by_cases a1 : R 16 0 = (i : Int)
    · rw [meq_t r0 ri a1, mrd_t ⟨by omega, by omega⟩, show (0 : Int).toNat = 0 from rfl]
      by_cases a2 : R 17 0 = (c : Int)
      · rw [meq_t (r0' i a1).2 rc a2, if_pos ⟨a1, a2⟩]
      · rw [meq_f (r0' i a1).2 rc a2, if_neg (show ¬ (R 16 0 = (i : Int) ∧ R 17 0 = (c : Int)) from fun z => a2 z.2)]
    · rw [meq_f r0 ri a1, if_neg (show ¬ (R 16 0 = (i : Int) ∧ R 17 0 = (c : Int)) from fun z => a1 z.1)]
  rw [er]
  by_cases m0 : R 16 0 = (i : Int) ∧ R 17 0 = (c : Int)
  · obtain ⟨M6, t1, t2⟩ := e111 1 0 1 0 true rfl
    refine ⟨M6, ?_, ?_⟩
    · rw [if_pos (Or.inl m0), if_pos (Or.inl m0)]; exact t1
    · rw [if_pos m0, if_pos m0, e75 1 1 (Or.inr rfl), if_pos rfl, if_pos rfl]; exact t2
  · by_cases m1 : R 16 1 = (i : Int) ∧ R 17 1 = (c : Int)
    · obtain ⟨M6, t1, t2⟩ := e111 0 0 1 0 false rfl
      refine ⟨M6, ?_, ?_⟩
      · rw [if_pos (Or.inr m1), if_pos (Or.inr m1)]; exact t1
      · rw [if_neg m0, if_neg m0, if_pos m1, e75 0 1 (Or.inr rfl), if_pos rfl, if_pos rfl]; exact t2
    · obtain ⟨M6, t1, t2⟩ := e111 0 0 0 1 false rfl
      refine ⟨M6, ?_, ?_⟩
      · rw [if_neg (fun z => z.elim m0 m1), if_neg (fun z => z.elim m0 m1)]; exact t1
      · rw [if_neg m0, if_neg m0, if_neg m1, e75 0 0 (Or.inl rfl), if_neg (by decide), if_neg (by decide)]; exact t2
end V2
