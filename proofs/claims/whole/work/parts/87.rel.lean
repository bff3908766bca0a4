/-! The relation of the two memories; read, peek, poke, cache, stat, find, resolve, check over it -/
def Mo (X R : Mm) : Prop := ∃ (d : Nat → Int) (sl us : Int) (bg : Nat → Int), Ok d sl us bg ∧ MX X d sl us bg ∧ MY R d sl us bg ∧ Kp d sl us bg X R 20 0 ∧ Kp d sl us bg X R 22 1 ∧ X 19 3 = R 0 24 ∧ X 19 4 = R 0 25
def RD (X R : Mm) : Prop := X 17 = R 13 ∧ Db (R 13) ∧ X 16 2 = R 0 17 ∧ (R 0 17 = 0 ∨ (R 0 17 = 1 ∧ Mo X R))
def Rl (X R : Mm) : Prop := RT X R ∧ RD X R
section W1
variable {d : Nat → Int} {X R X' R' : Mm} {sl us : Int} {bg : Nat → Int}
theorem Mo.cg (h : Mo X R) (hX : ∀ p, 16 ≤ p → p ≤ 23 → X' p = X p) (hR : ∀ p, 13 ≤ p → p ≤ 17 → p ≠ 15 → R' p = R p) (hk : ∀ k, k = 18 ∨ k = 19 ∨ k = 24 ∨ k = 25 → R' 0 k = R 0 k) : Mo X' R' := by
  obtain ⟨d, sl, us, bg, h1, h2, h3, h4, h5, h6, h7⟩ := h
  refine ⟨d, sl, us, bg, h1, ⟨by rw [hX 17 (by decide) (by decide)]; exact h2.1, by rw [hX 16 (by decide) (by decide)]; exact h2.2.1, by rw [hX 16 (by decide) (by decide)]; exact h2.2.2.1, fun i hi => by rw [hX 18 (by decide) (by decide)]; exact h2.2.2.2 i hi⟩, ⟨by rw [hR 13 (by decide) (by decide) (by decide)]; exact h3.1, by rw [hk 18 (by decide)]; exact h3.2.1, by rw [hk 19 (by decide)]; exact h3.2.2.1, fun i hi => by rw [hR 14 (by decide) (by decide) (by decide)]; exact h3.2.2.2 i hi⟩, h4.mov (hX 20 (by decide) (by decide)) (hX 21 (by decide) (by decide)) (by rw [hR 16 (by decide) (by decide) (by decide)]) (by rw [hR 17 (by decide) (by decide) (by decide)]), h5.mov (hX 22 (by decide) (by decide)) (hX 23 (by decide) (by decide)) (by rw [hR 16 (by decide) (by decide) (by decide)]) (by rw [hR 17 (by decide) (by decide) (by decide)]), by rw [hX 19 (by decide) (by decide), hk 24 (by decide)]; exact h6, by rw [hX 19 (by decide) (by decide), hk 25 (by decide)]; exact h7⟩
theorem RD.cg (h : RD X R) (hX : ∀ p, 16 ≤ p → p ≤ 23 → X' p = X p) (hR : ∀ p, 13 ≤ p → p ≤ 17 → p ≠ 15 → R' p = R p) (hk : ∀ k, k = 17 ∨ k = 18 ∨ k = 19 ∨ k = 24 ∨ k = 25 → R' 0 k = R 0 k) : RD X' R' := by
  obtain ⟨h1, h2, h3, h4⟩ := h
  refine ⟨by rw [hX 17 (by decide) (by decide), hR 13 (by decide) (by decide) (by decide)]; exact h1, by rw [hR 13 (by decide) (by decide) (by decide)]; exact h2, by rw [hX 16 (by decide) (by decide), hk 17 (by decide)]; exact h3, ?_⟩
  rw [hk 17 (by decide)]
  rcases h4 with h4 | ⟨h4, h5⟩
  · exact Or.inl h4
  · exact Or.inr ⟨h4, h5.cg hX hR (fun k z => hk k (Or.inr z))⟩
theorem RT.cg (h : RT X R) (hX : ∀ p, 1 ≤ p → p ≤ 6 → X' p = X p) (hR : ∀ p, 1 ≤ p → p ≤ 5 → R' p = R p) (hk : R' 0 1 = R 0 1) : RT X' R' := by
  unfold RT at h ⊢
  rw [hX 1 (by decide) (by decide), hX 2 (by decide) (by decide), hX 3 (by decide) (by decide), hX 4 (by decide) (by decide), hX 5 (by decide) (by decide), hX 6 (by decide) (by decide), hR 1 (by decide) (by decide), hR 2 (by decide) (by decide), hR 3 (by decide) (by decide), hR 4 (by decide) (by decide), hR 5 (by decide) (by decide), hk]
  exact h
theorem rl_cong : Cong Rl := fun MX MX' MR MR' h1 h2 h => ⟨h.1.cg (fun p _ b => h1 p (by omega)) (fun p _ b => h2 p (by omega)) (by rw [h2 0 (by decide)]), h.2.cg (fun p _ b => h1 p (by omega)) (fun p _ b _ => h2 p (by omega)) (fun k _ => by rw [h2 0 (by decide)])⟩
theorem RD.code (h : RD X R) (c : Int) : RD X (st R 0 0 c) := h.cg (fun _ _ _ => rfl) (fun p a _ _ => st_ne (by omega)) (fun k hk => st_off (by omega))
theorem Rl.code (h : Rl X R) (c : Int) : Rl X (st R 0 0 c) := ⟨h.1.code c, h.2.code c⟩
theorem RD.ts (h : RD X R) (t : TS X X' R R') : RD X' R' := h.cg (fun p a _ => t.1 p (by omega)) (fun p a _ _ => t.2.1 p (by omega)) (fun k hk => t.2.2 k (by omega) (by omega))
theorem Sm.orr {cs : List Nat} {fx : Mm → Option (Nat × Int × Mm)} {fr : Mm → Option (Int × Mm)} (h : Sm cs fx fr X R) (hr : Rl X R) : ∃ (w : Nat × Int × Mm) (v : Int) (MR1 : Mm), fx X = some w ∧ (w.1 = 0 ∨ w.1 ∈ cs) ∧ (w.1 = 0 → rI w.2.1 ∧ v = w.2.1) ∧ fr R = some (v, MR1) ∧ MR1 0 0 = wrc cs w.1 ∧ Rl w.2.2 MR1 := by
  obtain ⟨c, v, v', h1, h2, h3, h4⟩ := h
  exact ⟨(c, v, X), v', _, h1, h2, h3, h4, st_same, hr.code _⟩
theorem o_stat (x1 x2 : Int) (h1 : rI x1) (h2 : rI x2) : Orr Rl [2, 3, 1] (fX_stat x1 x2) (fR_stat x1 x2) := fun X R h => by
  obtain ⟨d1, d2, d3, d4 | ⟨d4, d, sl, us, bg, m1, m2, m3, _⟩⟩ := h.2
  · exact (stat_u (d3.trans d4) d4).orr h
  · exact (stat_m m1 m2 m3 (d3.trans d4) d4 h1 h2).orr h
theorem o_find (x1 x2 : Int) (h1 : rI x1) (h2 : Ch x2) : Orr Rl [2, 3, 1] (fX_find x1 x2) (fR_find x1 x2) := fun X R h => by
  obtain ⟨d1, d2, d3, d4 | ⟨d4, d, sl, us, bg, m1, m2, m3, _⟩⟩ := h.2
  · exact (find_u (d3.trans d4) d4).orr h
  · exact (find_m m1 m2 m3 (d3.trans d4) d4 h1 ⟨by have := h2.1; omega, by have := h2.2; omega⟩).orr h
theorem o_check : Orr Rl [2] fX_check fR_check0 := fun X R h => by
  obtain ⟨d1, d2, d3, d4 | ⟨d4, d, sl, us, bg, m1, m2, m3, _⟩⟩ := h.2
  · exact (check_u (d3.trans d4) d4).orr h
  · obtain ⟨v, X', R', f1, f2, f3, f4, f5⟩ := check_m m1 m2 m3 (d3.trans d4) d4
    refine ⟨(0, v, X'), v, R', f1, Or.inl rfl, fun _ => ⟨f2, rfl⟩, f3, by rw [f5 0 (by decide)]; exact st_same, (h.1.code 0).cg (fun p a b => f4 p (by omega) (by omega)) (fun p a b => f5 p (by omega)) (by rw [f5 0 (by decide)]), (h.2.code 0).cg (fun p a b => f4 p (by omega) (by omega)) (fun p a b c => f5 p (by omega)) (fun k hk => by rw [f5 0 (by decide)])⟩
theorem o_resolve (x1 : Int) (h1 : rI x1) : Orr Rl [2] (fX_resolve x1) (fR_resolve x1) := fun X R h => by
  have hz : Rz X R (fX_resolve x1 X) (fR_resolve x1 R) := by
    obtain ⟨d1, d2, d3, d4 | ⟨d4, d, sl, us, bg, m1, m2, m3, _⟩⟩ := h.2
    · exact resolve_u (d3.trans d4) d4
    · exact resolve_m m1 m2 m3 (d3.trans d4) d4 h1
  obtain ⟨c, v, v', X', R', g1, g2, g3, g4, g5, g6, g7⟩ := hz
  refine ⟨(c, v, X'), v', R', g1, by rcases g2 with rfl | rfl <;> simp, g3, g4, g5, h.1.cg (fun p a b => g6 p (by omega) (by omega)) (fun p a b => g7.1 p (by omega) (by omega)) (g7.2 1 (by decide) (by decide)), h.2.cg (fun p a b => g6 p (by omega) (by omega)) (fun p a b c => g7.1 p (by omega) (by omega)) (fun k hk => g7.2 k (by omega) (by omega))⟩
theorem o_cache (x1 : Int) (h1 : x1 = 0 ∨ x1 = 1) : Occ Rl (fX_cache x1) (fR_cache x1) := fun X R h => by
  obtain ⟨d1, d2, d3, d4⟩ := id h.2
  have e17 : st R 0 0 0 0 17 = R 0 17 := st_off (by decide)
  have e24 : st R 0 0 0 0 24 = R 0 24 := st_off (by decide)
  have e25 : st R 0 0 0 0 25 = R 0 25 := st_off (by decide)
  unfold fX_cache fR_cache
  rw [mput_t, d3, e17, e24, e25]
  rcases d4 with d4 | ⟨d4, d, sl, us, bg, m1, m2, m3, m4, m5, m6, m7⟩
  · rw [d4, meq_t rI_0 rI_0 rfl, meq_t rI_0 rI_0 rfl]
    exact ⟨0, X, _, rfl, rfl, h.code 0⟩
  · rw [d4, meq_f (a := 1) ⟨by decide, by decide⟩ rI_0 (by decide), meq_f (a := 1) ⟨by decide, by decide⟩ rI_0 (by decide), m6, m7]
    rcases h1 with rfl | rfl
    · rw [meq_t rI_0 rI_0 rfl, meq_t rI_0 rI_0 rfl]
      exact ⟨_, X, _, rfl, rfl, h.code 0⟩
    · rw [meq_f ⟨by decide, by decide⟩ rI_0 (by decide), meq_f ⟨by decide, by decide⟩ rI_0 (by decide)]
      exact ⟨_, X, _, rfl, rfl, h.code 0⟩
theorem o_peek (x1 : Int) (h1 : rI x1) : Orr Rl [3] (fX_peek x1) (fR_peek x1) := fun X R h => by
  have hd := h.2.2.1
  have no : fR_peek_12 x1 R = some (0, st R 0 0 1) := by
    unfold fR_peek_12 fR_peek_17
    rw [mput_t, st_same, mlt_t rI_0 ⟨by decide, by decide⟩ (by decide)]
  unfold fX_peek fR_peek fX_demandPlace fDe_byteAt
  rw [no]
  by_cases a : x1 < 0
  · rw [mlt_t h1 rI_0 a, mlt_t (t := some (0, _)) h1 rI_0 a, mcx_x rfl (fun z => nomatch (show (3 : Nat) = 0 from z))]
    exact ⟨(3, 0, X), 0, _, rfl, Or.inr (List.mem_singleton.mpr rfl), (fun z => nomatch (show (3 : Nat) = 0 from z)), rfl, st_same, h.code _⟩
  · rw [mlt_f h1 rI_0 a, mlt_f (t := some (0, st R 0 0 1)) h1 rI_0 a]
    by_cases b : x1 < 1024
    · have q := hd x1.toNat (by omega)
      unfold fR_peek_17
      rw [mlt_t h1 ⟨by decide, by decide⟩ b, mcx_t, mlt_f h1 rI_0 a, mlt_t h1 ⟨by decide, by decide⟩ b, mrd_t ⟨by omega, by omega⟩, mcn_t, mlt_f ⟨by decide, by decide⟩ h1 (by omega), mput_t, st_same, mlt_f rI_0 rI_0 (by decide), mrd_t ⟨by omega, by omega⟩, st_ne (by decide), h.2.1]
      exact ⟨(0, _, X), _, _, rfl, Or.inl rfl, fun _ => ⟨rB q, rfl⟩, rfl, st_same, h.code _⟩
    · rw [mlt_f h1 ⟨by decide, by decide⟩ b, mcx_x rfl (fun z => nomatch (show (3 : Nat) = 0 from z)), mlt_t ⟨by decide, by decide⟩ h1 (by omega)]
      exact ⟨(3, 0, X), 0, _, rfl, Or.inr (List.mem_singleton.mpr rfl), (fun z => nomatch (show (3 : Nat) = 0 from z)), rfl, st_same, h.code _⟩
/-- a device that is no longer mounted -/
theorem Rl.un (h : Rl X R) {c : Int} (hX : ∀ p, 1 ≤ p → p ≤ 6 → X' p = X p) (hR : ∀ p, 1 ≤ p → p ≤ 5 → R' p = R p) (hk : R' 0 1 = R 0 1) (hd : X' 17 = R' 13) (hb : Db (R' 13)) (m : X' 16 2 = 0) (m' : R' 0 17 = 0) : Rl X' R' := ⟨h.1.cg hX hR hk, hd, hb, m.trans m'.symm, Or.inl m'⟩
theorem o_poke (x1 x2 : Int) (h1 : rI x1) (h2 : rI x2) : Ovv Rl [3] (fX_poke x1 x2) (fR_poke x1 x2) := fun X R h => by
  have hd := h.2.2.1
  have no : fR_poke_12 x1 x2 R = some (0, st R 0 0 1) := by
    unfold fR_poke_12 fR_poke_17
    rw [mput_t, st_same, mlt_t rI_0 ⟨by decide, by decide⟩ (by decide)]
  unfold fX_poke fR_poke fX_demandPlace fDe_put
  rw [no]
  by_cases a : x1 < 0
  · rw [mlt_t h1 rI_0 a, mlt_t (t := some (0, _)) h1 rI_0 a, mcx_x rfl (fun z => nomatch (show (3 : Nat) = 0 from z))]
    exact ⟨(3, 0, X), 0, _, rfl, Or.inr (List.mem_singleton.mpr rfl), rfl, st_same, h.code _⟩
  · rw [mlt_f h1 rI_0 a, mlt_f (t := some (0, st R 0 0 1)) h1 rI_0 a]
    by_cases b : x1 < 1024
    · unfold fR_poke_17
      rw [mlt_t h1 ⟨by decide, by decide⟩ b, mcx_t, mlt_f h1 rI_0 a, mlt_t h1 ⟨by decide, by decide⟩ b, mwr_t ⟨by omega, by omega⟩, mpuz_t ⟨by omega, by omega⟩, mcn_t, mlt_f ⟨by decide, by decide⟩ h1 (by omega), mput_t, st_same, mlt_f rI_0 rI_0 (by decide), mwr_t ⟨by omega, by omega⟩, mpuz_t ⟨by omega, by omega⟩]
      refine ⟨(0, 0, _), _, _, rfl, Or.inl rfl, rfl, ?_, h.un (c := 0) (fun p a b => ?_) (fun p a b => ?_) ?_ ?_ ?_ ?_ ?_⟩
      · rfl
      · show st (st X 17 x1.toNat (x2 % 256)) 16 2 0 p = X p
        rw [st_ne (by omega), st_ne (by omega)]
      · rw [st_ne (by omega), st_ne (by omega), st_ne (by omega)]
      · rw [st_off (by decide), st_ne (by decide), st_off (by decide)]
      · show st (st X 17 x1.toNat (x2 % 256)) 16 2 0 17 = _
        rw [st_ne (k := 16) (by decide), st_ne (k := 0) (k' := 13) (by decide)]
        funext k
        by_cases e : k = x1.toNat
        · rw [e, st_same, st_same]
        · rw [st_off e, st_off e, st_ne (by decide), h.2.1]
      · rw [st_ne (by decide)]
        intro k hk
        by_cases e : k = x1.toNat
        · rw [e, st_same]; omega
        · rw [st_off e, st_ne (by decide)]; exact hd k hk
      · rfl
      · exact st_same
    · rw [mlt_f h1 ⟨by decide, by decide⟩ b, mcx_x rfl (fun z => nomatch (show (3 : Nat) = 0 from z)), mlt_t ⟨by decide, by decide⟩ h1 (by omega)]
      exact ⟨(3, 0, X), 0, _, rfl, Or.inr (List.mem_singleton.mpr rfl), rfl, st_same, h.code _⟩
end W1
