/-! mount, whole; the tree's calls over the relation -/
section Q3
variable {X R : Mm}
theorem o_mount : Orr Rl [2] fX_mount fR_mount := fun X R h => by
  have hd := h.2.2.1
  have e17 : X 17 = R 13 := h.2.1
  unfold fX_mount fCa_empty fR_mount
  rw [mput_t, mput_t, mput_t, mput_t, mcn_t, mcn_e (right_R rfl hd)]
  have eX : ∀ X1 : Mm, X1 = st (st (st (st X 20 1 (-1)) 22 1 (-1)) 19 3 0) 19 4 0 → X1 17 = R 13 := fun X1 hX1 => by rw [hX1, st_ne (by decide), st_ne (by decide), st_ne (by decide), st_ne (by decide)]; exact e17
  generalize hX1 : st (st (st (st X 20 1 (-1)) 22 1 (-1)) 19 3 0) 19 4 0 = X1
  have e17' := eX X1 hX1.symm
  have eq1 : ∀ p, p < 19 → X1 p = X p := fun p hp => by rw [← hX1, st_ne (by omega), st_ne (by omega), st_ne (by omega), st_ne (by omega)]
  have x20 : X1 20 1 = -1 := by rw [← hX1]; rfl
  have x22 : X1 22 1 = -1 := by rw [← hX1]; rfl
  have x193 : X1 19 3 = 0 := by rw [← hX1]; rfl
  have x194 : X1 19 4 = 0 := by rw [← hX1]; rfl
  unfold fDe_open
  rw [mcn_e (right_X e17' hd)]
  by_cases r : Hr (R 13)
  · rw [if_pos r, mpuz_t ⟨by omega, by omega⟩, mpuz_t ⟨by omega, by omega⟩, st_same, st_same, meq_f (a := 1) ⟨by decide, by decide⟩ rI_0 (by decide), meq_f (a := 1) ⟨by decide, by decide⟩ rI_0 (by decide)]
    have r1 := r.1
    have r2 := r.2.1
    have r3 := r.2.2
    have q3 := hd 3 (by omega)
    have q4 := hd 4 (by omega)
    have t3 : (3 : Int).toNat = 3 := rfl
    have t4 : (4 : Int).toNat = 4 := rfl
    have a17 : st X1 16 2 1 17 = R 13 := (st_ne (by decide)).trans e17'
    have a17' : st (st X1 16 2 1) 16 3 (R 13 3) 17 = R 13 := (st_ne (by decide)).trans a17
    unfold fDe_markInodes fR_mount_21
    rw [mrd_t ⟨by omega, by omega⟩, a17, t3, mput_t, mrd_t ⟨by omega, by omega⟩, a17', t4, mput_t, mput_t]
    obtain ⟨X2, f1, f2, f3, f4, f5⟩ := mark_X hd (sl := R 13 3) ⟨by omega, by omega⟩ 126 FU 0 (st (st (st (st X1 16 2 1) 16 3 (R 13 3)) 16 4 (R 13 4)) 16 5 0) rfl (by unfold FU; omega) (by rw [st_ne (by decide), st_ne (by decide)]; exact a17') (by rw [st_off (by decide), st_off (by decide), st_same]) st_same (fun j hj => absurd hj (Nat.not_lt_zero _))
    rw [show nx (R 13) (R 13 3) 0 = 0 from rfl, show ((0 : Nat) : Int) = 0 from rfl] at f1
    have b13 : st (st R 0 17 1) 0 0 0 13 = R 13 := (st_ne (by decide)).trans (st_ne (by decide))
    have b13' : st (st (st R 0 17 1) 0 0 0) 0 18 (R 13 3) 13 = R 13 := (st_ne (by decide)).trans b13
    rw [mcn_e f1, f5 2 (by decide), st_off (by decide), st_off (by decide), st_off (by decide), st_same, mz_t ⟨by omega, by omega⟩, mcn_t, meq_f (a := 1) ⟨by decide, by decide⟩ rI_0 (by decide), mput_t, st_same, mlt_f rI_0 rI_0 (by decide), mrd_t ⟨by omega, by omega⟩, b13, t3, mput_t, mrd_t ⟨by omega, by omega⟩, b13', t4, mput_t, mput_t, mput_t, mwr_t ⟨by omega, by omega⟩, mwr_t ⟨by omega, by omega⟩, show (0 : Int).toNat = 0 from rfl, show (1 : Int).toNat = 1 from rfl]
    generalize hR1 : st (st (st (st (st (st (st (st R 0 17 1) 0 0 0) 0 18 (R 13 3)) 0 19 (R 13 4)) 0 24 0) 0 25 0) 16 0 (-1)) 16 1 (-1) = R1
    have p0 : ∀ k, k ≠ 0 → k ≠ 17 → k ≠ 18 → k ≠ 19 → k ≠ 24 → k ≠ 25 → R1 0 k = R 0 k := fun k a b c d e f => by rw [← hR1, st_ne (by decide), st_ne (by decide), st_off f, st_off e, st_off d, st_off c, st_off a, st_off b]
    have pp : ∀ p, p ≠ 0 → p ≠ 16 → R1 p = R p := fun p a b => by rw [← hR1, st_ne b, st_ne b, st_ne a, st_ne a, st_ne a, st_ne a, st_ne a, st_ne a]
    have g18 : R1 0 18 = R 13 3 := by rw [← hR1]; rfl
    have g19 : R1 0 19 = R 13 4 := by rw [← hR1]; rfl
    have g17 : R1 0 17 = 1 := by rw [← hR1]; rfl
    have g0 : R1 0 0 = 0 := by rw [← hR1]; rfl
    have g24 : R1 0 24 = 0 := by rw [← hR1]; rfl
    have g25 : R1 0 25 = 0 := by rw [← hR1]; rfl
    have g16 : R1 16 0 = -1 ∧ R1 16 1 = -1 := by rw [← hR1]; exact ⟨rfl, rfl⟩
    obtain ⟨R2, k1, k2, k3⟩ := mark_R hd (sl := R 13 3) ⟨by omega, by omega⟩ 256 FU 0 0 R1 rfl (by unfold FU; omega) (pp 13 (by decide) (by decide)) g18 (fun j hj => absurd hj (Nat.not_lt_zero _)) (Or.inl ⟨rfl, Int.le_refl _⟩) ⟨by omega, by omega⟩
    rw [show ctf (R 13) (R 13 3) 0 = 0 from rfl, show ((0 : Nat) : Int) = 0 from rfl, ct_s (k := 130) (by omega)] at k1
    rw [k1, f3]
    have hc := ct_r (d := R 13) (sl := R 13 3) 126
    have bX : ∀ p, p ≠ 16 → p ≠ 18 → X2 p = X1 p := fun p a b => by rw [f4 p a b, st_ne a, st_ne a, st_ne a, st_ne a]
    have b16 : X2 16 2 = 1 := by rw [f5 2 (by decide)]; rfl
    refine ⟨(0, _, X2), _, R2, rfl, Or.inl rfl, fun _ => ⟨⟨by show -2147483648 ≤ ctf (R 13) (R 13 3) 126; omega, by show ctf (R 13) (R 13 3) 126 < 2147483648; omega⟩, rfl⟩, rfl, by rw [k3 0 (by decide)]; exact g0, h.1.cg (fun p a b => ?_) (fun p a b => ?_) ?_, ?_, ?_, ?_, Or.inr ⟨?_, R 13, R 13 3, R 13 4, bgf (R 13) (R 13 3), ⟨hd, by omega, by omega, fun i hi => ?_⟩, ⟨?_, ?_, ?_, f2⟩, ⟨?_, ?_, ?_, fun i hi => k2 i (by omega)⟩, ⟨?_, Or.inl ?_⟩, ⟨?_, Or.inl ?_⟩, ?_, ?_⟩⟩
    · show X2 p = X p
      rw [bX p (by omega) (by omega), eq1 p (by omega)]
    · rw [k3 p (by omega), pp p (by omega) (by omega)]
    · rw [k3 0 (by decide), p0 1 (by decide) (by decide) (by decide) (by decide) (by decide) (by decide)]
    · show X2 17 = R2 13
      rw [bX 17 (by decide) (by decide), e17', k3 13 (by decide), pp 13 (by decide) (by decide)]
    · rw [k3 13 (by decide), pp 13 (by decide) (by decide)]; exact hd
    · show X2 16 2 = R2 0 17
      rw [b16, k3 0 (by decide), g17]
    · rw [k3 0 (by decide), g17]
    · have := lg_r (d := R 13) i
      unfold bgf
      by_cases c : (i : Int) = nx (R 13) (R 13 3) i ∧ (i : Int) + 1 + lg (R 13) i ≤ R 13 3
      · rw [if_pos c]; exact Or.inr ⟨rfl, c.2⟩
      · rw [if_neg c]; exact Or.inl rfl
    · show X2 17 = R 13
      rw [bX 17 (by decide) (by decide), e17']
    · show X2 16 3 = R 13 3
      rw [f5 3 (by decide)]; rfl
    · show X2 16 4 = R 13 4
      rw [f5 4 (by decide)]; rfl
    · rw [k3 13 (by decide), pp 13 (by decide) (by decide)]
    · rw [k3 0 (by decide), g18]
    · rw [k3 0 (by decide), g19]
    · show X2 20 1 = R2 16 0
      rw [bX 20 (by decide) (by decide), x20, k3 16 (by decide), g16.1]
    · rw [k3 16 (by decide), g16.1]
    · show X2 22 1 = R2 16 1
      rw [bX 22 (by decide) (by decide), x22, k3 16 (by decide), g16.2]
    · rw [k3 16 (by decide), g16.2]
    · show X2 19 3 = R2 0 24
      rw [bX 19 (by decide) (by decide), x193, k3 0 (by decide), g24]
    · show X2 19 4 = R2 0 25
      rw [bX 19 (by decide) (by decide), x194, k3 0 (by decide), g25]
  · unfold fR_mount_21
    rw [if_neg r, mpuz_t ⟨by omega, by omega⟩, mpuz_t ⟨by omega, by omega⟩, st_same, st_same, meq_t rI_0 rI_0 rfl, meq_t rI_0 rI_0 rfl, mz_t ⟨by omega, by omega⟩, mcn_t, meq_t rI_0 rI_0 rfl, mput_t, st_same, mlt_t rI_0 ⟨by decide, by decide⟩ (by decide)]
    refine ⟨(2, 0, _), 0, _, rfl, Or.inr (List.mem_singleton.mpr rfl), (fun z => nomatch (show (2 : Nat) = 0 from z)), rfl, st_same, h.un (c := 0) (fun p a b => ?_) (fun p a b => ?_) ?_ ?_ ?_ rfl ?_⟩
    · show st X1 16 2 0 p = X p
      rw [st_ne (by omega), eq1 p (by omega)]
    · rw [st_ne (by omega), st_ne (by omega)]
    · rw [st_off (by decide), st_off (by decide)]
    · show st X1 16 2 0 17 = _
      rw [st_ne (by decide), e17', st_ne (by decide), st_ne (by decide)]
    · rw [st_ne (by decide), st_ne (by decide)]; exact hd
    · rw [st_off (by decide), st_same]
theorem chI {x : Int} (h : Ch x) : rI x := ⟨by have := h.1; omega, by have := h.2; omega⟩
theorem o_link (x1 x2 x3 : Int) (h1 : rI x1) (h2 : rI x2) (h3 : Ch x3) : Ovv Rl [1] (fX_link x1 x2 x3) (fR_link x1 x2 x3) := fun X R h => by
  by_cases c : (0 ≤ x1 ∧ x1 < R 0 1 ∧ R 1 x1.toNat = 1) ∧ DirR R x2 x3 ∧ R 2 (x2 * 26 + (x3 - 97)).toNat = -1
  · obtain ⟨X', R', f1, f2, f3, f4, f5⟩ := link_yes h.1 h1 h2 (chI h3) c.1 c.2
    exact ⟨(0, 0, X'), 0, R', f1, Or.inl rfl, f2, f3, f4, h.2.ts f5⟩
  · obtain ⟨f1, f2⟩ := link_no h.1 h1 h2 (chI h3) c
    exact ⟨(1, 0, X), 0, _, f1, Or.inr (List.mem_singleton.mpr rfl), f2, st_same, h.code 1⟩
theorem o_unlink (x1 x2 : Int) (h1 : rI x1) (h2 : Ch x2) : Ovv Rl [1] (fX_unlink x1 x2) (fR_unlink x1 x2) := fun X R h => by
  by_cases c : UnR R x1 x2
  · obtain ⟨X', R', f1, f2, f3, f4, f5⟩ := unlink_yes h.1 h1 (chI h2) c
    exact ⟨(0, 0, X'), 0, R', f1, Or.inl rfl, f2, f3, f4, h.2.ts f5⟩
  · obtain ⟨f1, f2⟩ := unlink_no h.1 h1 (chI h2) c
    exact ⟨(1, 0, X), 0, _, f1, Or.inr (List.mem_singleton.mpr rfl), f2, st_same, h.code 1⟩
theorem o_create (x1 x2 x3 : Int) (h1 : rI x1) (h2 : rI x2) (h3 : Ch x3) : Orr Rl [1, 2] (fX_create x1 x2 x3) (fR_create x1 x2 x3) := fun X R h => by
  have hn := h.1.1
  by_cases c : (0 ≤ x1 ∧ x1 ≤ 2) ∧ DirR R x2 x3 ∧ R 2 (x2 * 26 + (x3 - 97)).toNat = -1
  · by_cases f : R 0 1 = 16
    · obtain ⟨f1, f2⟩ := create_full h.1 h1 h2 (chI h3) c.1 c.2 f
      exact ⟨(2, 0, X), 0, _, f1, Or.inr (List.mem_cons.mpr (Or.inr (List.mem_singleton.mpr rfl))), (fun z => nomatch (show (2 : Nat) = 0 from z)), f2, st_same, h.code 2⟩
    · obtain ⟨X', R', f1, f2, f3, f4, f5⟩ := create_done h.1 h1 h2 (chI h3) c.1 c.2 (by omega)
      exact ⟨(0, R 0 1, X'), R 0 1, R', f1, Or.inl rfl, fun _ => ⟨⟨by show -2147483648 ≤ R 0 1; omega, by show R 0 1 < 2147483648; omega⟩, rfl⟩, f2, f3, f4, h.2.ts f5⟩
  · obtain ⟨f1, f2⟩ := create_no h.1 h1 h2 (chI h3) c
    exact ⟨(1, 0, X), 0, _, f1, Or.inr (List.mem_cons.mpr (Or.inl rfl)), (fun z => nomatch (show (1 : Nat) = 0 from z)), f2, st_same, h.code 1⟩
theorem o_append (x1 x2 : Int) (h1 : rI x1) (h2 : rI x2) : Orr Rl [1, 2] (fX_append x1 x2) (fR_append x1 x2) := fun X R h => by
  obtain ⟨e1, e2⟩ := append_s h.1 h1 h2
  have hn := h.1.1
  have go : ∀ z lim : Int, ((z = 1 ∧ lim = 60) ∨ (z = 0 ∧ lim = 4)) → (0 ≤ x1 ∧ x1 < R 0 1) → (0 ≤ x2 ∧ x2 ≤ 255) → R 4 x1.toNat ≤ lim → (R 1 x1.toNat = 2 → lim = 4) → ∃ (w : Nat × Int × Mm) (v : Int) (MR1 : Mm), fX_append_72 x1 x2 z X = some w ∧ (w.1 = 0 ∨ w.1 ∈ [1, 2]) ∧ (w.1 = 0 → rI w.2.1 ∧ v = w.2.1) ∧ fR_append_63 x1 x2 z R = some (v, MR1) ∧ MR1 0 0 = wrc [1, 2] w.1 ∧ Rl w.2.2 MR1 := fun z lim hz hx hb hl hk => by
    have hs := h.1.2.2.2.1 x1.toNat (by omega)
    obtain ⟨a1, a2⟩ := append_n h.1 hz hx hb hl hk
    by_cases c : R 4 x1.toNat = lim
    · obtain ⟨f1, f2⟩ := a1 c
      exact ⟨(2, 0, X), 0, _, f1, Or.inr (List.mem_cons.mpr (Or.inr (List.mem_singleton.mpr rfl))), (fun z => nomatch (show (2 : Nat) = 0 from z)), f2, st_same, h.code 2⟩
    · obtain ⟨X', R', f1, f2, f3, f4, f5⟩ := a2 (by omega)
      exact ⟨(0, _, X'), _, R', f1, Or.inl rfl, fun _ => ⟨⟨by show -2147483648 ≤ R 4 x1.toNat + 1; omega, by show R 4 x1.toNat + 1 < 2147483648; omega⟩, rfl⟩, f2, f3, f4, h.2.ts f5⟩
  rw [e1, e2]
  by_cases c : FlR R x1 x2
  · have hs := h.1.2.2.2.1 x1.toNat (by omega)
    rw [if_pos c, if_pos c]
    exact go 1 60 (Or.inl ⟨rfl, rfl⟩) ⟨by omega, by omega⟩ c.2 (by omega) (fun z => by omega)
  · rw [if_neg c, if_neg c]
    by_cases c2 : LkR R x1 x2
    · have hs := h.1.2.2.2.1 x1.toNat (by omega)
      rw [if_pos c2, if_pos c2]
      exact go 0 4 (Or.inr ⟨rfl, rfl⟩) ⟨by omega, by omega⟩ ⟨by omega, by omega⟩ (by omega) (fun z => rfl)
    · unfold fR_append_87
      rw [if_neg c2, if_neg c2, mput_t, st_same, mlt_t rI_0 ⟨by decide, by decide⟩ (by decide)]
      exact ⟨(1, 0, X), 0, _, rfl, Or.inr (List.mem_cons.mpr (Or.inl rfl)), (fun z => nomatch (show (1 : Nat) = 0 from z)), rfl, st_same, h.code 1⟩
end Q3
