/-! Unpacking a cluster of a good inode; bad clusters -/
def un (d : Nat → Int) (i c : Nat) : Option (List Int) := uz d (16 * ((fb d i).toNat + c)) (rs d i (1 + c) - cs d i c).toNat 17 0 []
def FrX (M0 M : Mm) : Prop := ∀ p, p ≠ 24 → p ≠ 25 → M p = M0 p
def FrR (M0 M : Mm) : Prop := ∀ p, p ≠ 15 → M p = M0 p
section U3
variable {d : Nat → Int} {M M0 : Mm} {i c : Nat} {sl us : Int} {bg : Nat → Int}
theorem FrX.mx (h : FrX M0 M) (hM : MX M0 d sl us bg) : MX M d sl us bg := by
  obtain ⟨h1, h2, h3, h4⟩ := hM
  exact ⟨by rw [h 17 (by decide) (by decide)]; exact h1, by rw [h 16 (by decide) (by decide)]; exact h2, by rw [h 16 (by decide) (by decide)]; exact h3, fun i hi => by rw [h 18 (by decide) (by decide)]; exact h4 i hi⟩
theorem FrR.my (h : FrR M0 M) (hM : MY M0 d sl us bg) : MY M d sl us bg := by
  obtain ⟨h1, h2, h3, h4⟩ := hM
  exact ⟨by rw [h 13 (by decide)]; exact h1, by rw [h 0 (by decide)]; exact h2, by rw [h 0 (by decide)]; exact h3, fun i hi => by rw [h 14 (by decide)]; exact h4 i hi⟩
theorem FrX.tr {M1 : Mm} (h : FrX M0 M) (h' : FrX M M1) : FrX M0 M1 := fun p a b => (h' p a b).trans (h p a b)
theorem FrR.tr {M1 : Mm} (h : FrR M0 M) (h' : FrR M M1) : FrR M0 M1 := fun p a => (h' p a).trans (h p a)
theorem cs_r (h : Db d) (hi : 16 + 8 * i + 5 + c < 1025) : 0 ≤ cs d i c ∧ cs d i c ≤ 255 := by
  cases c with
  | zero => exact ⟨Int.le_refl 0, show (0 : Int) ≤ 255 by decide⟩
  | succ c => exact h.rs_ (by omega)
/-- a good packed inode -/
theorem packed (h : Ok d sl us bg) (hg : Go d sl us bg (i : Int)) (hl : ly d i = 2) : i < 125 ∧ Ends d i ∧ bl d i = rs d i 0 ∧ 0 ≤ fb d i ∧ fb d i + rs d i 0 ≤ 64 := by
  obtain ⟨j, e1, e2, e3, e4⟩ := In.nat h hg.1
  have e5 : j = i := by omega
  subst e5
  have hb : ¬ Bad d sl us j := hg.2
  have h2 := h.2.2.1
  have h5 : ¬ (¬ kn d j = 1 ∨ lg d j = 0 ∨ ¬ Ends d j) := fun w => hb (Or.inr (Or.inr (Or.inr (Or.inr (Or.inl ⟨hl, w⟩)))))
  have hk : Bk d sl us j := Classical.byContradiction (fun z => hb (Or.inr (Or.inr (Or.inr (Or.inr (Or.inr z))))))
  have h6 : Ends d j := Classical.byContradiction (fun z => h5 (Or.inr (Or.inr z)))
  have h7 : ¬ lg d j = 0 := fun z => h5 (Or.inr (Or.inl z))
  have q := h.1.lg_ e3
  have qf := h.1.fb_ e3
  have eb : bl d j = rs d j 0 := by unfold bl; rw [if_neg (by omega), if_pos hl]
  have h61 := h6.1
  refine ⟨e4 (by omega), h6, eb, qf.1, ?_⟩
  rcases hk with hk | hk <;> omega
theorem unpack_vX (h : Ok d sl us bg) (hM : MX M d sl us bg) (hg : Go d sl us bg (i : Int)) (hl : ly d i = 2) (hc : (c : Int) < rs d i 0) : ∃ (g : Int) (M' : Mm), fDe_unpack (i : Int) (c : Int) M = some (g, M') ∧ Uf M M' g (un d i c) (rs d i (1 + c) - cs d i c).toNat := by
  obtain ⟨p1, p2, p3, p4, p5⟩ := packed h hg hl
  have p21 := p2.1
  have p22 := p2.2.1
  have q1 := h.1.rs_ (i := i) (k := 1 + c) (by omega)
  have q2 := cs_r (i := i) (c := c) h.1 (by omega)
  have q3 := enb_lt (j := c) p2.2.2.2 (by omega)
  have q4 := h.1.fb_ (i := i) (by omega)
  obtain ⟨g, M', e1, e2⟩ := fill_v (M0 := M) (b := 16 * ((fb d i).toNat + c)) (w := (rs d i (1 + c) - cs d i c).toNat) h.1 hM.1 (by omega) (by omega) 17 FU [] 0 0 (st (st M 24 3 0) 24 4 0) ⟨⟨by rw [st_off (by decide), st_same]; rfl, by rw [st_same]; rfl, fun k hk => absurd hk (Nat.not_lt_zero _)⟩, fun p a b => by rw [st_ne a, st_ne a]⟩ (Nat.zero_le _) (by omega) (by omega) (by omega) (by unfold FU; omega)
  refine ⟨g, M', ?_, e2⟩
  have hg01 : 0 ≤ g ∧ g < 2 := by
    rcases e2.2 with ⟨_, z⟩ | ⟨_, _, z, _⟩ <;> omega
  unfold fDe_unpack fCl_fill
  rw [mcn_e (cend_vX hM.1 (by omega)), mcn_e (cst_vX hM.1 (by omega)), mcn_e (first_vX hM.1 (by omega)), mput_t, mput_t, mlt_f ⟨by omega, by omega⟩ rI_0 (by omega), mlt_f ⟨by omega, by omega⟩ ⟨by omega, by omega⟩ (by omega), mlt_f ⟨by decide, by decide⟩ ⟨by omega, by omega⟩ (by omega), show (fb d i + (c : Int)) * 16 = ((16 * ((fb d i).toNat + c) : Nat) : Int) by omega, show rs d i (1 + c) - cs d i c = (((rs d i (1 + c) - cs d i c).toNat : Nat) : Int) by omega]
  rw [show ((0 : Nat) : Int) = 0 from rfl] at e1
  rw [mcn_e e1, mz_t hg01]
theorem unpack_vR (h : Ok d sl us bg) (hM : MY M d sl us bg) (hg : Go d sl us bg (i : Int)) (hl : ly d i = 2) (hc : (c : Int) < rs d i 0) : ∃ (g : Int) (M' : Mm), fR_unpack (i : Int) (c : Int) M = some (g, M') ∧ Vf M M' g (un d i c) (rs d i (1 + c) - cs d i c).toNat := by
  obtain ⟨p1, p2, p3, p4, p5⟩ := packed h hg hl
  have p21 := p2.1
  have p22 := p2.2.1
  have q1 := h.1.rs_ (i := i) (k := 1 + c) (by omega)
  have q2 := cs_r (i := i) (c := c) h.1 (by omega)
  have q3 := enb_lt (j := c) p2.2.2.2 (by omega)
  have q4 := h.1.fb_ (i := i) (by omega)
  obtain ⟨g, M', e1, e2⟩ := un_v (M0 := M) (b := 16 * ((fb d i).toNat + c)) (w := (rs d i (1 + c) - cs d i c).toNat) h.1 hM.1 (by omega) (by omega) 17 FU [] 0 M ⟨fun k hk => absurd hk (Nat.not_lt_zero _), fun p a => rfl⟩ (Nat.zero_le _) (by omega) (by omega) (by unfold FU; omega)
  refine ⟨g, M', ?_, e2⟩
  unfold fR_unpack
  rw [mcn_e (first_vR hM.1 (by omega)), mcn_e (end_vR hM.1 (by omega)), mcn_e (cst_vR hM.1 (by omega)), show 16 * (fb d i + (c : Int)) = ((16 * ((fb d i).toNat + c) : Nat) : Int) by omega, show rs d i (1 + c) - cs d i c = (((rs d i (1 + c) - cs d i c).toNat : Nat) : Int) by omega]
  exact e1
def bcl (d : Nat → Int) (i : Nat) : Nat → Bool
  | 0 => false
  | n + 1 => bcl d i n || (un d i n).isNone
theorem bcl_mono {j : Nat} : ∀ n, bcl d i j = true → j ≤ n → bcl d i n = true
  | 0, h, hj => by rw [show (0 : Nat) = j by omega]; exact h
  | n + 1, h, hj => by
    by_cases e : j = n + 1
    · rw [← e]; exact h
    · unfold bcl; rw [bcl_mono n h (by omega)]; rfl
theorem Uf.g {M' : Mm} {g : Int} {o : Option (List Int)} {w : Nat} (h : Uf M M' g o w) : FrX M M' ∧ ((o.isNone = true ∧ g = 0) ∨ (o.isNone = false ∧ g = 1)) := by
  refine ⟨h.1, ?_⟩
  rcases h.2 with ⟨a, b⟩ | ⟨l, a, b, _⟩
  · exact Or.inl ⟨by rw [a]; rfl, b⟩
  · exact Or.inr ⟨by rw [a]; rfl, b⟩
theorem Vf.g {M' : Mm} {g : Int} {o : Option (List Int)} {w : Nat} (h : Vf M M' g o w) : FrR M M' ∧ ((o.isNone = true ∧ g = 0) ∨ (o.isNone = false ∧ g = 1)) := by
  refine ⟨h.1, ?_⟩
  rcases h.2 with ⟨a, b⟩ | ⟨l, a, b, _⟩
  · exact Or.inl ⟨by rw [a]; rfl, b⟩
  · exact Or.inr ⟨by rw [a]; rfl, b⟩
theorem bcl_vX (h : Ok d sl us bg) (hg : Go d sl us bg (i : Int)) (hl : ly d i = 2) : ∀ (k fu c : Nat) (M : Mm), MX M d sl us bg → c + k = (rs d i 0).toNat → k < fu → bcl d i c = false → ∃ M', fX_hasBadCluster_2 fu (i : Int) (c : Int) M = some (if bcl d i (rs d i 0).toNat = true then 1 else 0, M') ∧ FrX M M'
  | _, 0, _, _, _, _, hf, _ => absurd hf (Nat.not_lt_zero _)
  | 0, fu + 1, c, M, hM, hc, _, hb => by
    obtain ⟨p1, p2, p3, p4, p5⟩ := packed h hg hl
    have p21 := p2.1
    have p22 := p2.2.1
    unfold fX_hasBadCluster_2
    rw [mcn_e (blocks_vX h.1 hM.1 (by omega)), p3, mlt_f ⟨by omega, by omega⟩ ⟨by omega, by omega⟩ (by omega), show (rs d i 0).toNat = c by omega, hb]
    exact ⟨M, rfl, fun _ _ _ => rfl⟩
  | k + 1, fu + 1, c, M, hM, hc, hf, hb => by
    obtain ⟨p1, p2, p3, p4, p5⟩ := packed h hg hl
    have p21 := p2.1
    have p22 := p2.2.1
    obtain ⟨g, M', e1, e2⟩ := unpack_vX h hM hg hl (c := c) (by omega)
    unfold fX_hasBadCluster_2
    rw [mcn_e (blocks_vX h.1 hM.1 (by omega)), p3, mlt_t ⟨by omega, by omega⟩ ⟨by omega, by omega⟩ (by omega), mcn_e e1]
    obtain ⟨e3, ⟨e4, rfl⟩ | ⟨e4, rfl⟩⟩ := e2.g
    · rw [meq_t rI_0 rI_0 rfl, if_pos (bcl_mono (j := c + 1) _ (by unfold bcl; rw [e4]; simp) (by omega))]
      exact ⟨M', rfl, e3⟩
    · rw [meq_f ⟨by decide, by decide⟩ rI_0 (by decide), show (c : Int) + 1 = ((c + 1 : Nat) : Int) by omega]
      obtain ⟨M2, e5, e6⟩ := bcl_vX h hg hl k fu (c + 1) M' (e3.mx hM) (by omega) (by omega) (by unfold bcl; rw [hb, e4]; rfl)
      exact ⟨M2, e5, e3.tr e6⟩
theorem bcl_vR (h : Ok d sl us bg) (hg : Go d sl us bg (i : Int)) (hl : ly d i = 2) : ∀ (k fu c : Nat) (M : Mm), MY M d sl us bg → c + k = (rs d i 0).toNat → k < fu → ∃ M', fR_isWrong_14 fu (i : Int) (if bcl d i c = true then 1 else 0) (c : Int) M = fR_isWrong_64 FU (i : Int) (if bcl d i (rs d i 0).toNat = true then 1 else 0) (-1) 0 M' ∧ FrR M M'
  | _, 0, _, _, _, _, hf => absurd hf (Nat.not_lt_zero _)
  | 0, fu + 1, c, M, hM, hc, _ => by
    obtain ⟨p1, p2, p3, p4, p5⟩ := packed h hg hl
    have p21 := p2.1
    have p22 := p2.2.1
    unfold fR_isWrong_14
    rw [mcn_e (tag_vR h.1 hM.1 (by omega) (Or.inr rfl)), if_neg (by decide), meq_t ⟨by omega, by omega⟩ ⟨by decide, by decide⟩ hl, mcn_e (rest_vR (k := 0) (y := 0) hM.1 (by omega) rfl), mlt_f ⟨by omega, by omega⟩ ⟨by omega, by omega⟩ (by omega), show (rs d i 0).toNat = c by omega]
    exact ⟨M, rfl, fun _ _ => rfl⟩
  | k + 1, fu + 1, c, M, hM, hc, hf => by
    obtain ⟨p1, p2, p3, p4, p5⟩ := packed h hg hl
    have p21 := p2.1
    have p22 := p2.2.1
    unfold fR_isWrong_14
    rw [mcn_e (tag_vR h.1 hM.1 (by omega) (Or.inr rfl)), if_neg (by decide), meq_t ⟨by omega, by omega⟩ ⟨by decide, by decide⟩ hl, mcn_e (rest_vR (k := 0) (y := 0) hM.1 (by omega) rfl), mlt_t ⟨by omega, by omega⟩ ⟨by omega, by omega⟩ (by omega), show (c : Int) + 1 = ((c + 1 : Nat) : Int) by omega]
    by_cases a : bcl d i c = true
    · rw [if_pos a, meq_f ⟨by decide, by decide⟩ rI_0 (by decide)]
      obtain ⟨M2, e5, e6⟩ := bcl_vR h hg hl k fu (c + 1) M hM (by omega) (by omega)
      rw [if_pos (bcl_mono (j := c) _ a (by omega))] at e5
      exact ⟨M2, e5, e6⟩
    · obtain ⟨g, M', e1, e2⟩ := unpack_vR h hM hg hl (c := c) (by omega)
      rw [if_neg a, meq_t rI_0 rI_0 rfl, mcn_e e1]
      obtain ⟨e3, e4⟩ := e2.g
      obtain ⟨M2, e5, e6⟩ := bcl_vR h hg hl k fu (c + 1) M' (e3.my hM) (by omega) (by omega)
      rcases e4 with ⟨e4, rfl⟩ | ⟨e4, rfl⟩
      · rw [if_pos (by unfold bcl; rw [e4]; simp)] at e5
        rw [meq_t rI_0 rI_0 rfl]
        exact ⟨M2, e5, e3.tr e6⟩
      · rw [if_neg (by unfold bcl; rw [e4]; simpa using a)] at e5
        rw [meq_f ⟨by decide, by decide⟩ rI_0 (by decide)]
        exact ⟨M2, e5, e3.tr e6⟩
end U3
