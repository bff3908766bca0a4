/-! read, whole -/
section W2
variable {d : Nat → Int} {X R X' R' : Mm} {sl us : Int} {bg : Nat → Int}
theorem Aft.mo (h : Aft d sl us bg X R X' R') (h1 : Ok d sl us bg) (h2 : MX X d sl us bg) (h3 : MY R d sl us bg) : Mo X' R' := by
  obtain ⟨a1, a2, a3, a4, a5, a6, a7⟩ := h
  exact ⟨d, sl, us, bg, h1, ⟨by rw [a5 17 (by decide)]; exact h2.1, by rw [a5 16 (by decide)]; exact h2.2.1, by rw [a5 16 (by decide)]; exact h2.2.2.1, fun i hi => by rw [a5 18 (by decide)]; exact h2.2.2.2 i hi⟩, ⟨by rw [a6 13 (by decide) (by decide)]; exact h3.1, by rw [a7 18 (by decide) (by decide) (by decide)]; exact h3.2.1, by rw [a7 19 (by decide) (by decide) (by decide)]; exact h3.2.2.1, fun i hi => by rw [a6 14 (by decide) (by decide)]; exact h3.2.2.2 i hi⟩, a1, a2, a3, a4⟩
theorem o_read (x1 x2 : Int) (h1 : rI x1) (h2 : rI x2) : Orr Rl [2, 3] (fX_read x1 x2) (fR_read x1 x2) := fun X R h => by
  have e54 : ∀ z : Int, 0 < z → z < 10 → fR_read_54 x1 x2 z R = some (0, st R 0 0 z) := fun z q1 q2 => by
    unfold fR_read_54
    rw [mput_t, st_same, mlt_t rI_0 ⟨by omega, by omega⟩ q1]
  obtain ⟨d1, d2, d3, d4 | ⟨d4, d, sl, us, bg, m1, m2, m3, m4, m5, m6, m7⟩⟩ := id h.2
  · unfold fX_read fR_read
    rw [d4, meq_t rI_0 rI_0 rfl, mcx_x (inode_uX (d3.trans d4)) (fun z => nomatch (show (2 : Nat) = 0 from z)), e54 1 (by decide) (by decide)]
    exact ⟨(2, 0, X), 0, _, rfl, Or.inr (List.mem_cons.mpr (Or.inl rfl)), (fun z => nomatch (show (2 : Nat) = 0 from z)), rfl, st_same, h.code _⟩
  · unfold fX_read fR_read
    rw [d4, meq_f (a := 1) ⟨by decide, by decide⟩ rI_0 (by decide), mcn_e (isInode_vR m1 m3 h1)]
    by_cases a : In sl bg x1
    · rw [mcx_e (by rw [inode_vX m1 m2 (d3.trans d4) h1, if_pos a]), if_pos a, meq_f (a := 1) ⟨by decide, by decide⟩ rI_0 (by decide), mcn_e (badR m1 m3 a)]
      by_cases b : Bad d sl us x1.toNat
      · rw [mcx_x (by rw [good_vX m1 m2 h1, if_neg (fun z => z.2 b)]) (fun z => nomatch (show (2 : Nat) = 0 from z)), if_pos b, meq_f (a := 1) ⟨by decide, by decide⟩ rI_0 (by decide), e54 1 (by decide) (by decide)]
        exact ⟨(2, 0, X), 0, _, rfl, Or.inr (List.mem_cons.mpr (Or.inl rfl)), (fun z => nomatch (show (2 : Nat) = 0 from z)), rfl, st_same, h.code _⟩
      · have hg : Go d sl us bg x1 := ⟨a, b⟩
        obtain ⟨i, e1, e2, e3, e4⟩ := In.nat m1 a
        have qs := m1.1.sz_ e3
        have ql := m1.1.ly_ e3
        have no : ∃ (w : Nat × Int × Mm) (v : Int) (MR1 : Mm), some (3, (0 : Int), X) = some w ∧ (w.1 = 0 ∨ w.1 ∈ [2, 3]) ∧ (w.1 = 0 → rI w.2.1 ∧ v = w.2.1) ∧ some ((0 : Int), st R 0 0 2) = some (v, MR1) ∧ MR1 0 0 = wrc [2, 3] w.1 ∧ Rl w.2.2 MR1 :=
          ⟨(3, 0, X), 0, _, rfl, Or.inr (List.mem_cons.mpr (Or.inr (List.mem_singleton.mpr rfl))), (fun z => nomatch (show (3 : Nat) = 0 from z)), rfl, st_same, h.code _⟩
        unfold fR_read_49
        rw [mcx_e (by rw [good_vX m1 m2 h1, if_pos hg]), if_neg b, meq_t rI_0 rI_0 rfl, e54 2 (by decide) (by decide)]
        by_cases x0 : x2 < 0
        · rw [mlt_t h2 rI_0 x0, mlt_t h2 rI_0 x0]
          exact no
        · subst e1
          rw [mlt_f h2 rI_0 x0, mlt_f h2 rI_0 x0, mcn_e (size_vX m2.1 e3), mcn_e (size_vR m3.1 e3)]
          by_cases xs : x2 < sz d i
          · rw [mlt_t h2 (rB qs) xs, mlt_t h2 (rB qs) xs, mcn_e (lay_vX m1.1 m2.1 e3)]
            have m3' := m3.code (c := 0)
            unfold fR_read_54
            rw [mput_t, st_same, mlt_f rI_0 rI_0 (by decide), mcn_e (tag_vR m1.1 m3'.1 e3 (Or.inr rfl)), if_neg (by decide)]
            by_cases l2 : ly d i = 2
            · obtain ⟨v, X', v', R', f1, f2, f3, f4⟩ := pbyte_v (R := st R 0 0 0) m1 m2 m3' (m4.mov rfl rfl rfl rfl) (m5.mov rfl rfl rfl rfl) m6 m7 hg l2 ⟨by omega, xs⟩
              have hRl : Rl X' R' := by
                refine ⟨(h.1.code 0).cg (fun p a b => f4.2.2.2.2.1 p (by omega)) (fun p a b => f4.2.2.2.2.2.1 p a (by omega)) (f4.2.2.2.2.2.2 1 (by decide) (by decide) (by decide)), ?_⟩
                have e17 : R' 0 17 = 1 := (f4.2.2.2.2.2.2 17 (by decide) (by decide) (by decide)).trans ((st_off (by decide)).trans d4)
                have e13 : R' 13 = R 13 := (f4.2.2.2.2.2.1 13 (by decide) (by decide)).trans (st_ne (by decide))
                refine ⟨by rw [f4.2.2.2.2.1 17 (by decide), e13]; exact d1, by rw [e13]; exact d2, by rw [f4.2.2.2.2.1 16 (by decide), e17]; exact d3.trans d4, Or.inr ⟨e17, f4.mo m1 m2 m3'⟩⟩
              rw [meq_t ⟨by omega, by omega⟩ ⟨by decide, by decide⟩ l2, meq_t ⟨by omega, by omega⟩ ⟨by decide, by decide⟩ l2, mcn_e f1, mcn_e f2]
              rcases f3 with ⟨rfl, g2⟩ | ⟨g1, g2, g3⟩
              · rw [meq_t ⟨by decide, by decide⟩ ⟨by decide, by decide⟩ rfl]
                exact ⟨(2, 0, X'), v', R', rfl, Or.inr (List.mem_cons.mpr (Or.inl rfl)), (fun z => nomatch (show (2 : Nat) = 0 from z)), rfl, g2, hRl⟩
              · rw [meq_f (rB g1) ⟨by decide, by decide⟩ (by omega)]
                exact ⟨(0, v, X'), v', R', rfl, Or.inl rfl, fun _ => ⟨rB g1, g2⟩, rfl, g3.trans st_same, hRl⟩
            · have q := bt_r m1 hg l2 (k := x2.toNat) (by omega)
              rw [meq_f ⟨by omega, by omega⟩ ⟨by decide, by decide⟩ l2, meq_f ⟨by omega, by omega⟩ ⟨by decide, by decide⟩ l2, mcn_e (data_vX m1 m2 hg l2 (k := x2.toNat) (by omega) (by omega)), mcn_e (byte_vR m1 m3' hg l2 (k := x2.toNat) (by omega) (by omega))]
              exact ⟨(0, _, X), _, _, rfl, Or.inl rfl, fun _ => ⟨rB q, rfl⟩, rfl, st_same, h.code _⟩
          · rw [mlt_f h2 (rB qs) xs, mlt_f h2 (rB qs) xs]
            exact no
    · rw [mcx_x (by rw [inode_vX m1 m2 (d3.trans d4) h1, if_neg a]) (fun z => nomatch (show (3 : Nat) = 0 from z)), if_neg a, meq_t rI_0 rI_0 rfl, e54 2 (by decide) (by decide)]
      exact ⟨(3, 0, X), 0, _, rfl, Or.inr (List.mem_cons.mpr (Or.inr (List.mem_singleton.mpr rfl))), (fun z => nomatch (show (3 : Nat) = 0 from z)), rfl, st_same, h.code _⟩
end W2
