/-! Building: the end of an inode; bytes of packed clusters -/
theorem lits_c {f : Nat → Int} {s : Nat} (h : ∀ k, k < s → 0 ≤ f k ∧ f k ≤ 255) : ∀ (n a : Nat) (l : List Int), a + n ≤ s → (∀ x, x ∈ l → 0 ≤ x ∧ x ≤ 255) → ∀ x, x ∈ lits f a n l → 0 ≤ x ∧ x ≤ 255
  | 0, _, _, _, hl => hl
  | n + 1, a, l, ha, hl => by
    unfold lits
    refine lits_c h n (a + 1) _ (by omega) (fun x hx => ?_)
    rcases List.mem_append.mp hx with z | z
    · exact hl x z
    · rw [List.mem_singleton.mp z]; exact h a (by omega)
theorem ap_b {l : List Int} {v : Int} (hl : ∀ x, x ∈ l → 0 ≤ x ∧ x ≤ 255) (hv : 0 ≤ v ∧ v ≤ 255) : ∀ x, x ∈ l ++ [v] → 0 ≤ x ∧ x ≤ 255 := fun x hx => by
  rcases List.mem_append.mp hx with z | z
  · exact hl x z
  · rw [List.mem_singleton.mp z]; exact hv
theorem tokl_b {f : Nat → Int} {s a l m ds : Nat} {o : List Int} (h : ∀ k, k < s → 0 ≤ f k ∧ f k ≤ 255) (ho : ∀ x, x ∈ o → 0 ≤ x ∧ x ≤ 255) (hl : l ≤ 15) (hm : m ≤ 17) (ha : a + l ≤ s) (hd : ds ≤ 255) : ∀ x, x ∈ tokl f a l m ds o → 0 ≤ x ∧ x ≤ 255 := by
  unfold tokl
  by_cases c : 0 < m
  · rw [if_pos c]
    exact ap_b (lits_c h l a _ ha (ap_b ho ⟨by omega, by omega⟩)) ⟨by omega, by omega⟩
  · rw [if_neg c]
    exact lits_c h l a _ ha (ap_b ho ⟨by omega, by omega⟩)
theorem cl_b {f : Nat → Int} {s fr : Nat} (hs : s ≤ 60) (h : ∀ k, k < s → 0 ≤ f k ∧ f k ≤ 255) : ∀ (n a : Nat) (o : List Int), a ≤ s → (∀ x, x ∈ o → 0 ≤ x ∧ x ≤ 255) → ∀ x, x ∈ (cl f s fr n a o).2 → 0 ≤ x ∧ x ≤ 255
  | 0, _, _, _, ho => ho
  | n + 1, a, o, ha, ho => by
    have hsc := sc_r (f := f) (fr := fr) ha 16 0 (by omega) (by omega)
    have hmt := mt_r (f := f) (s := s) (a := a + sc f s fr a 16 0) (fr := fr)
    rw [cl_s]
    by_cases c1 : s ≤ a ∨ 16 ≤ o.length
    · rw [if_pos c1]; exact ho
    · rw [if_neg c1]
      by_cases c2 : o.length + 1 + sc f s fr a 16 0 + (if 0 < mt f s (a + sc f s fr a 16 0) fr then 1 else 0) ≤ 16
      · rw [if_pos c2]
        refine cl_b hs h n _ _ (by omega) ?_
        by_cases c : 0 < mt f s (a + sc f s fr a 16 0) fr
        · exact tokl_b h ho (by omega) (by omega) (by omega) (by omega)
        · have e0 : mt f s (a + sc f s fr a 16 0) fr = 0 := by omega
          rw [e0]
          unfold tokl
          rw [if_neg (by omega)]
          exact lits_c h _ a _ (by omega) (ap_b ho ⟨by omega, by omega⟩)
      · rw [if_neg c2]
        by_cases c3 : 0 < min (sc f s fr a 16 0) (15 - o.length)
        · have : min (sc f s fr a 16 0) (15 - o.length) ≤ sc f s fr a 16 0 := Nat.min_le_left _ _
          rw [if_pos c3]
          exact tokl_b (l := min (sc f s fr a 16 0) (15 - o.length)) (m := 0) (ds := 0) h ho (by omega) (by omega) (by omega) (by omega)
        · rw [if_neg c3]; exact ho
theorem bq_b {f : Nat → Int} {s : Nat} (hs : s ≤ 60) (h : ∀ k, k < s → 0 ≤ f k ∧ f k ≤ 255) (q j : Nat) : 0 ≤ (bq f s q).getD j 0 ∧ (bq f s q).getD j 0 ≤ 255 :=
  gd_b (cl_b hs h 17 _ [] (aq_le q) (fun x hx => absurd hx (List.not_mem_nil))) j
section BB
variable {X R : Mm} {k1 n1 b : Nat}
theorem fin_v {fl fd us a : Nat} (hfl : fl < 8) (hI : Im X R) (hr : Rq k1 X R b) (hn : 16 * b ≤ n1) (hb : b ≤ 11) (hu : 1 ≤ fd ∧ fd ≤ us ∧ us ≤ 64) (h6 : X 7 6 = (fd : Int)) (h7 : X 7 7 = (us : Int)) (ha : a + 2 < 16 * fd) (h0 : R 9 (a + 2) = 0) : ∃ (g : Int) (X' : Mm) (e : Nat) (R' : Mm), (mcn (fBu_settle k1 n1 (b : Int) (fl : Int) X) fun v M => fBu_putInode_207 (a : Int) v M) = some (g, X') ∧ fR_write_271 (fd : Int) (us : Int) (if decide ((fl &&& 2) = 0) = true then 0 else 1) (a : Int) (b : Int) R = some ((e : Int), R') ∧ (∀ p, p ≠ 9 → R' p = R p) ∧ (∀ p, p ≠ 7 → p ≠ 8 → X' p = X p) ∧ (∀ k, k ≠ 7 → X' 7 k = X 7 k) ∧ ((g = 0 ∧ 64 < e ∧ e ≤ 80) ∨ (g = 1 ∧ (us ≤ e ∧ e ≤ 64) ∧ Im X' R' ∧ X' 7 7 = (e : Int) ∧ ∀ j, j < 16 * fd → j ≠ a + 2 → R' 9 j = R 9 j)) := by
  unfold fR_write_271
  by_cases b0 : b = 0
  · subst b0
    unfold fBu_settle fBu_putInode_207
    rw [meq_t (b := 0) ⟨by omega, by omega⟩ rI_0 (by omega), meq_t (b := 0) ⟨by omega, by omega⟩ rI_0 (by omega), mcn_t, meq_f rI_0 ⟨by decide, by decide⟩ (by decide), mwr_t ⟨by omega, by omega⟩, show ((a : Int) + 2).toNat = a + 2 by omega]
    refine ⟨1, _, us, R, rfl, rfl, fun _ _ => rfl, fun p _ h8 => st_ne h8, fun k hk => by rw [st_ne (by decide)], Or.inr ⟨rfl, ⟨by omega, by omega⟩, fun j hj => ?_, by rw [st_ne (by decide)]; exact h7, fun _ _ _ => rfl⟩⟩
    by_cases e : j = a + 2
    · rw [e, st_same, h0]; exact ⟨rfl, by omega, by omega⟩
    · rw [st_off e]; exact hI j hj
  · obtain ⟨v, X1, e, R', f1, f2, f3, f4⟩ := settle_v (k1 := k1) (n1 := n1) (fl := fl) (a := a) hfl hI hr hn ⟨by omega, hb⟩ hu h6 h7 ha
    rw [meq_f ⟨by omega, by omega⟩ rI_0 (by omega), f2, mcn_e f1]
    unfold fBu_putInode_207
    rcases f4 with ⟨rfl, g2, g3, g4⟩ | ⟨g1, g2, g3, g4, g5, g6, g7⟩
    · rw [meq_t ⟨by decide, by decide⟩ ⟨by decide, by decide⟩ rfl]
      subst g4
      exact ⟨0, X1, e, R', rfl, rfl, f3, fun _ _ _ => rfl, fun _ _ => rfl, Or.inl ⟨rfl, g2, g3⟩⟩
    · rw [meq_f ⟨by omega, by omega⟩ ⟨by decide, by decide⟩ (by omega), mwr_t ⟨by omega, by omega⟩, show ((a : Int) + 2).toNat = a + 2 by omega]
      exact ⟨1, _, e, R', rfl, rfl, f3, fun p a b => by rw [st_ne b]; exact g5 p a b, fun k hk => by rw [st_ne (by decide)]; exact g6 k hk, Or.inr ⟨rfl, g2, g3, by rw [st_ne (by decide)]; exact g4, g7⟩⟩
/-- the reference's tail loop -/
theorem tail_R {y2 y3 y4 y8 : Int} {sz a : Nat} (ha : a + 16 ≤ 1024) (hsz : sz ≤ 80) (ht : sz % 16 ≤ 12) : ∀ (k fu j : Nat) (M : Mm), j + k = sz % 16 → k < fu → ∃ M', fR_write_145 fu y2 y3 y4 (sz : Int) (a : Int) 1 y8 ((sz / 16 * 16 + j : Nat) : Int) M = fR_write_271 y2 y3 y4 (a : Int) y8 M' ∧ (∀ i, j ≤ i → i < sz % 16 → M' 9 (a + 4 + i) = M 10 (sz / 16 * 16 + i)) ∧ (∀ i, i < a + 4 + j ∨ a + 4 + sz % 16 ≤ i → M' 9 i = M 9 i) ∧ ∀ p, p ≠ 9 → M' p = M p
  | _, 0, _, _, _, hf => absurd hf (Nat.not_lt_zero _)
  | 0, fu + 1, j, M, hj, _ => by
    rw [fR_write_145]
    unfold fR_write_186
    rw [meq_t ⟨by decide, by decide⟩ ⟨by decide, by decide⟩ rfl, mlt_f ⟨by omega, by omega⟩ ⟨by omega, by omega⟩ (by omega), meq_f ⟨by decide, by decide⟩ ⟨by decide, by decide⟩ (by decide)]
    exact ⟨M, rfl, fun i h1 h2 => by omega, fun _ _ => rfl, fun _ _ => rfl⟩
  | k + 1, fu + 1, j, M, hj, hf => by
    rw [fR_write_145]
    rw [meq_t ⟨by decide, by decide⟩ ⟨by decide, by decide⟩ rfl, mlt_t ⟨by omega, by omega⟩ ⟨by omega, by omega⟩ (by omega), mrem_t ⟨by omega, by omega, by omega, by omega⟩, mrd_t ⟨by omega, by omega⟩, mwr_t ⟨by omega, by omega⟩, show (((sz / 16 * 16 + j : Nat) : Int)).toNat = sz / 16 * 16 + j by omega, show ((a : Int) + 4 + ((sz / 16 * 16 + j : Nat) : Int) % 16).toNat = a + 4 + j by omega, show ((sz / 16 * 16 + j : Nat) : Int) + 1 = ((sz / 16 * 16 + (j + 1) : Nat) : Int) by omega]
    obtain ⟨M', f1, f2, f3, f4⟩ := tail_R (y2 := y2) (y3 := y3) (y4 := y4) (y8 := y8) ha hsz ht k fu (j + 1) (st M 9 (a + 4 + j) (M 10 (sz / 16 * 16 + j))) (by omega) (by omega)
    refine ⟨M', f1, fun i h1 h2 => ?_, fun i hi => ?_, fun p hp => (f4 p hp).trans (st_ne hp)⟩
    · by_cases e : i = j
      · rw [e, f3 _ (by omega), st_same]
      · rw [f2 i (by omega) h2, st_ne (by decide)]
    · rw [f3 i (by omega), st_off (by omega)]
/-- the reference's ends -/
theorem ends_R {y2 y3 y4 : Int} {a c : Nat} (ha : a + 16 ≤ 1024) (hc : c ≤ 11) : ∀ (k fu j : Nat) (M : Mm), j + k = c → k < fu → ∃ M', fR_write_206 fu y2 y3 y4 (a : Int) (c : Int) (j : Int) M = fR_write_241 FU y2 y3 y4 (a : Int) (c : Int) 0 M' ∧ (∀ i, j ≤ i → i < c → M' 9 (a + 5 + i) = M 12 i) ∧ (∀ i, i < a + 5 + j ∨ a + 5 + c ≤ i → M' 9 i = M 9 i) ∧ ∀ p, p ≠ 9 → M' p = M p
  | _, 0, _, _, _, hf => absurd hf (Nat.not_lt_zero _)
  | 0, fu + 1, j, M, hj, _ => by
    rw [fR_write_206]
    rw [mlt_f ⟨by omega, by omega⟩ ⟨by omega, by omega⟩ (by omega)]
    exact ⟨M, rfl, fun i h1 h2 => by omega, fun _ _ => rfl, fun _ _ => rfl⟩
  | k + 1, fu + 1, j, M, hj, hf => by
    rw [fR_write_206]
    rw [mlt_t ⟨by omega, by omega⟩ ⟨by omega, by omega⟩ (by omega), mrd_t ⟨by omega, by omega⟩, mwr_t ⟨by omega, by omega⟩, show (((j : Nat) : Int)).toNat = j by omega, show ((a : Int) + 5 + (j : Int)).toNat = a + 5 + j by omega, show (j : Int) + 1 = ((j + 1 : Nat) : Int) by omega]
    obtain ⟨M', f1, f2, f3, f4⟩ := ends_R (y2 := y2) (y3 := y3) (y4 := y4) ha hc k fu (j + 1) (st M 9 (a + 5 + j) (M 12 j)) (by omega) (by omega)
    refine ⟨M', f1, fun i h1 h2 => ?_, fun i hi => ?_, fun p hp => (f4 p hp).trans (st_ne hp)⟩
    · by_cases e : i = j
      · rw [e, f3 _ (by omega), st_same]
      · rw [f2 i (by omega) h2, st_ne (by decide)]
    · rw [f3 i (by omega), st_off (by omega)]
/-- the reference's packed blocks become the row -/
theorem rows_R {y2 y3 y4 y6 : Int} {c : Nat} (hc : c ≤ 11) : ∀ (k fu j : Nat) (M : Mm), j + k = 16 * c → k < fu → (∀ i, i < j → M 10 i = M 11 i) → ∃ M', fR_write_241 fu y2 y3 y4 y6 (c : Int) (j : Int) M = fR_write_271 y2 y3 y4 y6 (c : Int) M' ∧ (∀ i, i < 16 * c → M' 10 i = M 11 i) ∧ ∀ p, p ≠ 10 → M' p = M p
  | _, 0, _, _, _, hf, _ => absurd hf (Nat.not_lt_zero _)
  | 0, fu + 1, j, M, hj, _, hi => by
    rw [fR_write_241]
    rw [mlt_f ⟨by omega, by omega⟩ ⟨by omega, by omega⟩ (by omega)]
    exact ⟨M, rfl, fun i h => hi i (by omega), fun _ _ => rfl⟩
  | k + 1, fu + 1, j, M, hj, hf, hi => by
    rw [fR_write_241]
    rw [mlt_t ⟨by omega, by omega⟩ ⟨by omega, by omega⟩ (by omega), mrd_t ⟨by omega, by omega⟩, mwr_t ⟨by omega, by omega⟩, show (((j : Nat) : Int)).toNat = j by omega, show (j : Int) + 1 = ((j + 1 : Nat) : Int) by omega]
    obtain ⟨M', f1, f2, f3⟩ := rows_R (y2 := y2) (y3 := y3) (y4 := y4) (y6 := y6) hc k fu (j + 1) (st M 10 j (M 11 j)) (by omega) (by omega) (fun i h => by
      rw [st_ne (k := 10) (k' := 11) (by decide)]
      by_cases e : i = j
      · rw [e, st_same]
      · rw [st_off e]; exact hi i (by omega))
    refine ⟨M', f1, fun i h => ?_, fun p hp => (f3 p hp).trans (st_ne hp)⟩
    rw [f2 i h, st_ne (by decide)]
end BB
