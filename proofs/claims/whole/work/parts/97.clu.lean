/-! Building: a cluster of the reference, all clusters on both sides -/
section B4
variable {M : Mm} {f : Nat → Int} {s a fr c : Nat}
theorem scan_R {n : Nat} (hn : n < 16) (hs : s ≤ 60) (hr : ∀ k, k < s → 0 ≤ f k ∧ f k ≤ 255) (ha : a ≤ s) (hfr : fr ≤ a) {M0 : Mm} (h3 : ∀ k, k < s → M0 3 (60 * n + k) = f k) (h4 : M0 4 n = (s : Int)) {K : Int → Int → Int → Int → Int → Mm → Option (Int × Mm)} {y4 : Int} : ∀ (k fu l : Nat) (M : Mm), l + k = 16 → k < fu → l ≤ 15 → a + l ≤ s → FdR M0 M → (mt f s (a + l) fr ≠ 0 → M 0 15 = (md f s (a + l) fr : Int)) → ∃ M', fR_packOne_73 K fu (n : Int) (fr : Int) y4 (a : Int) (l : Int) (mt f s (a + l) fr : Int) M = fR_packOne_136 K (n : Int) (fr : Int) y4 (a : Int) ((sc f s fr a k l : Nat) : Int) ((mt f s (a + sc f s fr a k l) fr : Nat) : Int) M' ∧ FdR M0 M' ∧ (mt f s (a + sc f s fr a k l) fr ≠ 0 → M' 0 15 = (md f s (a + sc f s fr a k l) fr : Int))
  | _, 0, _, _, _, hf, _, _, _, _ => absurd hf (Nat.not_lt_zero _)
  | 0, fu + 1, l, M, hl, _, h15, _, _, _ => by omega
  | k + 1, fu + 1, l, M, hl, hf, h15, hal, hF, h8 => by
    have hq := mt_r (f := f) (s := s) (a := a + l) (fr := fr)
    have e4 : M 4 n = (s : Int) := by rw [hF.1 4 (by decide)]; exact h4
    rw [fR_packOne_73]
    unfold sc
    by_cases c1 : mt f s (a + l) fr = 0
    · rw [meq_t ⟨by omega, by omega⟩ rI_0 (by omega)]
      by_cases c2 : l < 15
      · rw [mlt_t ⟨by omega, by omega⟩ ⟨by decide, by decide⟩ (by omega), mrd_t ⟨by omega, by omega⟩, show (((n : Nat) : Int)).toNat = n by omega, e4]
        by_cases c3 : a + l < s
        · rw [mlt_t ⟨by omega, by omega⟩ ⟨by omega, by omega⟩ (by omega), if_pos ⟨c1, c2, c3⟩, mrd_t ⟨by omega, by omega⟩, show (((n : Nat) : Int)).toNat = n by omega, e4]
          by_cases c4 : a + (l + 1) < s
          · obtain ⟨M1, e1, e2, e3⟩ := match_R (M := M) (a := a + (l + 1)) hn hs hr (by omega) (show fr ≤ a + (l + 1) by omega) (fun k hk => by rw [hF.1 3 (by decide)]; exact h3 k hk) e4
            rw [mlt_t ⟨by omega, by omega⟩ ⟨by omega, by omega⟩ (by omega), show (a : Int) + ((l : Int) + 1) = ((a + (l + 1) : Nat) : Int) by omega, mcn_e e1, show (l : Int) + 1 = ((l + 1 : Nat) : Int) by omega]
            exact scan_R hn hs hr ha hfr h3 h4 k fu (l + 1) M1 (by omega) (by omega) (by omega) (by omega) ⟨fun p hp => (e2.1 p hp).trans (hF.1 p hp), fun q hq => (e2.2 q hq).trans (hF.2 q hq)⟩ e3
          · have ez := mt_end (f := f) (s := s) (a := a + (l + 1)) (fr := fr) (by omega)
            have ih := scan_R hn hs hr ha hfr h3 h4 (K := K) (y4 := y4) k fu (l + 1) M (by omega) (by omega) (by omega) (by omega) hF (fun z => absurd ez z)
            rw [ez, show ((0 : Nat) : Int) = 0 from rfl] at ih
            rw [mlt_f ⟨by omega, by omega⟩ ⟨by omega, by omega⟩ (by omega), show (l : Int) + 1 = ((l + 1 : Nat) : Int) by omega]
            exact ih
        · rw [mlt_f ⟨by omega, by omega⟩ ⟨by omega, by omega⟩ (by omega), if_neg (fun z => c3 z.2.2)]
          exact ⟨M, rfl, hF, h8⟩
      · rw [mlt_f ⟨by omega, by omega⟩ ⟨by decide, by decide⟩ (by omega), if_neg (fun z => c2 z.2.1)]
        exact ⟨M, rfl, hF, h8⟩
    · rw [meq_f ⟨by omega, by omega⟩ rI_0 (by omega), if_neg (fun z => c1 z.1)]
      exact ⟨M, rfl, hF, h8⟩
theorem p44_0 {fu : Nat} {y1 y3 y4 y5 : Int} : fR_packOne_44 (fu + 1) y1 y3 y4 y5 0 M = some (y5, M) := by
  unfold fR_packOne_44
  rw [meq_t rI_0 rI_0 rfl]
theorem clu_R {nd : Nat} (hc : c ≤ 11) (hnd : nd < 16) (hs : s ≤ 60) (hr : ∀ k, k < s → 0 ≤ f k ∧ f k ≤ 255) : ∀ (n fu a : Nat) (o : List Int) (M : Mm), fr ≤ a → a ≤ s → o.length ≤ 16 → 17 ≤ n + o.length → n + 1 < fu → (∀ k, k < s → M 3 (60 * nd + k) = f k) → M 4 nd = (s : Int) → M 0 14 = (o.length : Int) → RC M c o → ∃ M', fR_packOne_44 fu (nd : Int) (fr : Int) ((16 * c : Nat) : Int) (a : Int) 1 M = some (((cl f s fr n a o).1 : Int), M') ∧ RC M' c (cl f s fr n a o).2 ∧ FtR c M M'
  | 0, _, _, o, _, _, _, h1, h2, _, _, _, _, _ => by omega
  | _, 0, _, _, _, _, _, _, _, hf, _, _, _, _ => absurd hf (Nat.not_lt_zero _)
  | n + 1, fu + 1, a, o, M, hfr, ha, ho, hn, hf, h3, h4, h14, hx => by
    rw [fR_packOne_44, cl_s]
    rw [meq_f (a := 1) ⟨by decide, by decide⟩ rI_0 (by decide), mrd_t ⟨by omega, by omega⟩, show (((nd : Nat) : Int)).toNat = nd by omega, h4]
    by_cases as : a < s
    · obtain ⟨M1, e1, e2, e3⟩ := match_R (M := M) (a := a) hnd hs hr (by omega) hfr h3 h4
      obtain ⟨M2, g1, g2, g3⟩ := scan_R (M0 := M) hnd hs hr (by omega) hfr h3 h4 (K := fR_packOne_44 fu) (y4 := ((16 * c : Nat) : Int)) 16 FU 0 M1 rfl (by unfold FU; omega) (by omega) (by omega) e2 e3
      have hsc := sc_r (f := f) (fr := fr) (show a ≤ s by omega) 16 0 (by omega) (by omega)
      have hsp := sc_pos (f := f) (fr := fr) as
      have hmt := mt_r (f := f) (s := s) (a := a + sc f s fr a 16 0) (fr := fr)
      rw [show ((0 : Nat) : Int) = 0 from rfl, Nat.add_zero] at g1
      have f14 : M2 0 14 = (o.length : Int) := (g2.2 14 (by decide)).trans h14
      have f3 : ∀ k, k < s → M2 3 (60 * nd + k) = f k := fun k hk => by rw [g2.1 3 (by decide)]; exact h3 k hk
      have f4 : M2 4 nd = (s : Int) := by rw [g2.1 4 (by decide)]; exact h4
      have fx : RC M2 c o := fun j hj => by rw [g2.1 11 (by decide)]; exact hx j hj
      have fr2 : FtR c M M2 := ⟨fun p a b => g2.1 p a, fun k a b => g2.2 k b, fun j hj => by rw [g2.1 11 (by decide)]⟩
      rw [mlt_t ⟨by omega, by omega⟩ ⟨by omega, by omega⟩ (by omega), mcn_e e1, g1]
      generalize sc f s fr a 16 0 = L at hsc hsp hmt g3 ⊢
      generalize mt f s (a + L) fr = m at hsp hmt g3 ⊢
      generalize md f s (a + L) fr = ds at hmt g3 ⊢
      obtain ⟨fv, rfl⟩ : ∃ fv, fu = fv + 1 := ⟨fu - 1, by omega⟩
      have e136 : fR_packOne_136 (fR_packOne_44 (fv + 1)) (nd : Int) (fr : Int) ((16 * c : Nat) : Int) (a : Int) (L : Int) (m : Int) M2 = fR_packOne_159 (fR_packOne_44 (fv + 1)) (nd : Int) (fr : Int) ((16 * c : Nat) : Int) (a : Int) (L : Int) (m : Int) (15 - (o.length : Int)) (L : Int) (if 0 < m then 1 else 0) M2 := by
        unfold fR_packOne_136
        rw [f14, show (16 : Int) - (o.length : Int) - 1 = 15 - (o.length : Int) by omega]
        by_cases cm : 0 < m
        · rw [mlt_t rI_0 ⟨by omega, by omega⟩ (by omega), if_pos cm]
        · rw [mlt_f rI_0 ⟨by omega, by omega⟩ (by omega), if_neg cm]
      rw [e136]
      unfold fR_packOne_159 fR_packOne_170
      by_cases cf : o.length + 1 + L + (if 0 < m then 1 else 0) ≤ 16
      · have ho16 : ¬ (s ≤ a ∨ 16 ≤ o.length) := by split at cf <;> omega
        obtain ⟨M3, t1, t2, t3, t5⟩ := tok_R (f := f) (a := a) (ds := ds) hc hs (l := L) (m := m) hnd (by omega) (by omega) f14 (fun z => g3 (by omega)) f3 fx cf
        have hlen := tokl_len (f := f) (a := a) (l := L) (m := m) (ds := ds) (o := o)
        have hge : o.length + 2 ≤ (tokl f a L m ds o).length := by rw [hlen]; split <;> omega
        have hle : (tokl f a L m ds o).length ≤ 16 := by rw [hlen]; exact cf
        rw [if_neg ho16, if_pos cf, mlt_f ⟨by omega, by omega⟩ ⟨by split <;> omega, by split <;> omega⟩ (by split at cf <;> split <;> omega), meq_f (a := 1) ⟨by decide, by decide⟩ rI_0 (by decide)]
        unfold fR_packOne_196
        rw [mlt_f ⟨by omega, by omega⟩ ⟨by decide, by decide⟩ (by omega), mcn_e t1, show (a : Int) + ((L : Int) + (m : Int)) = ((a + L + m : Nat) : Int) by omega]
        generalize tokl f a L m ds o = o' at t2 t3 hlen hge hle ⊢
        obtain ⟨M', q1, q2, q5⟩ := clu_R hc hnd hs hr n (fv + 1) (a + L + m) o' M3 (by omega) (by omega) hle (by omega) (by omega) (fun k hk => by rw [t5.1 3 (by decide) (by decide)]; exact f3 k hk) (by rw [t5.1 4 (by decide) (by decide)]; exact f4) t3 t2
        exact ⟨M', q1, q2, fr2.tr (t5.tr q5)⟩
      · rw [mlt_t ⟨by omega, by omega⟩ ⟨by split <;> omega, by split <;> omega⟩ (by split at cf <;> split <;> omega), meq_t rI_0 rI_0 rfl]
        unfold fR_packOne_191 fR_packOne_196
        by_cases o16 : 16 ≤ o.length
        · rw [if_pos (Or.inr o16), mlt_f ⟨by omega, by omega⟩ ⟨by omega, by omega⟩ (by omega), mlt_t ⟨by omega, by omega⟩ ⟨by decide, by decide⟩ (by omega), p44_0]
          exact ⟨M2, rfl, fx, fr2⟩
        · rw [if_neg (show ¬ (s ≤ a ∨ 16 ≤ o.length) by omega), if_neg cf]
          have hm1 : min L (15 - o.length) ≤ L := Nat.min_le_left _ _
          have hm2 : min L (15 - o.length) ≤ 15 - o.length := Nat.min_le_right _ _
          have key : ∀ y : Int, y = ((min L (15 - o.length) : Nat) : Int) → ∃ M', (mlt (y + 0) 1 (fR_packOne_44 (fv + 1) (nd : Int) (fr : Int) ((16 * c : Nat) : Int) (a : Int) 0 M2) (mcn (fR_token ((16 * c : Nat) : Int) (nd : Int) (a : Int) y 0 M2) fun _ M5 => fR_packOne_44 (fv + 1) (nd : Int) (fr : Int) ((16 * c : Nat) : Int) ((a : Int) + (y + 0)) 0 M5)) = some ((((if 0 < min L (15 - o.length) then (a + min L (15 - o.length), tokl f a (min L (15 - o.length)) 0 0 o) else (a, o)) : Nat × List Int).1 : Int), M') ∧ RC M' c ((if 0 < min L (15 - o.length) then (a + min L (15 - o.length), tokl f a (min L (15 - o.length)) 0 0 o) else (a, o)) : Nat × List Int).2 ∧ FtR c M M' := fun y hy => by
            subst hy
            generalize min L (15 - o.length) = k at hm1 hm2 ⊢
            by_cases ck : 0 < k
            · obtain ⟨M3, t1, t2, t3, t5⟩ := tok_R (f := f) (a := a) (ds := 0) hc hs (l := k) (m := 0) hnd (Or.inl rfl) (by omega) f14 (fun z => absurd z (by omega)) f3 fx (by rw [if_neg (by omega)]; omega)
              rw [show ((0 : Nat) : Int) = 0 from rfl] at t1
              rw [mlt_f ⟨by omega, by omega⟩ ⟨by decide, by decide⟩ (by omega), mcn_e t1, p44_0, if_pos ck]
              exact ⟨M3, by rw [show (a : Int) + ((k : Int) + 0) = ((a + k : Nat) : Int) by omega], t2, fr2.tr t5⟩
            · rw [mlt_t ⟨by omega, by omega⟩ ⟨by decide, by decide⟩ (by omega), p44_0, if_neg ck]
              exact ⟨M2, rfl, fx, fr2⟩
          by_cases cl' : (L : Int) < 15 - (o.length : Int)
          · rw [mlt_t ⟨by omega, by omega⟩ ⟨by omega, by omega⟩ cl']
            exact key _ (by omega)
          · rw [mlt_f ⟨by omega, by omega⟩ ⟨by omega, by omega⟩ cl']
            exact key _ (by omega)
    · rw [mlt_f ⟨by omega, by omega⟩ ⟨by omega, by omega⟩ (by omega), if_pos (Or.inl (by omega))]
      exact ⟨M, rfl, hx, FtR.rf⟩
/-- where clusters end, and what is in them -/
def aq (f : Nat → Int) (s : Nat) : Nat → Nat
  | 0 => 0
  | q + 1 => (cl f s (aq f s q) 17 (aq f s q) []).1
def bq (f : Nat → Int) (s q : Nat) : List Int := (cl f s (aq f s q) 17 (aq f s q) []).2
theorem cl_le : ∀ (n a : Nat) (o : List Int), a ≤ s → (cl f s fr n a o).1 ≤ s
  | 0, _, _, h => h
  | n + 1, a, o, h => by
    have hsc := sc_r (f := f) (fr := fr) h 16 0 (by omega) (by omega)
    have hmt := mt_r (f := f) (s := s) (a := a + sc f s fr a 16 0) (fr := fr)
    rw [cl_s]
    by_cases c1 : s ≤ a ∨ 16 ≤ o.length
    · rw [if_pos c1]; exact h
    · rw [if_neg c1]
      by_cases c2 : o.length + 1 + sc f s fr a 16 0 + (if 0 < mt f s (a + sc f s fr a 16 0) fr then 1 else 0) ≤ 16
      · rw [if_pos c2]; exact cl_le n _ _ (by omega)
      · rw [if_neg c2]
        by_cases c3 : 0 < min (sc f s fr a 16 0) (15 - o.length)
        · rw [if_pos c3]
          have : min (sc f s fr a 16 0) (15 - o.length) ≤ sc f s fr a 16 0 := Nat.min_le_left _ _
          show a + _ ≤ s
          omega
        · rw [if_neg c3]; exact h
theorem aq_le : ∀ q, aq f s q ≤ s
  | 0 => Nat.zero_le _
  | q + 1 => cl_le 17 _ _ (aq_le q)
theorem one_R {nd : Nat} (hc : c ≤ 11) (hnd : nd < 16) (hs : s ≤ 60) (hr : ∀ k, k < s → 0 ≤ f k ∧ f k ≤ 255) (hfr : fr ≤ s) (h3 : ∀ k, k < s → M 3 (60 * nd + k) = f k) (h4 : M 4 nd = (s : Int)) : ∃ M', fR_packOne (nd : Int) (c : Int) (fr : Int) M = some (((cl f s fr 17 fr []).1 : Int), M') ∧ RC M' c (cl f s fr 17 fr []).2 ∧ FtR c M M' := by
  have z9 : ∀ (k fu j : Nat) (Q : Mm), j + k = 16 → k < fu → FtR c M Q → (∀ i, i < j → Q 11 (16 * c + i) = 0) → ∃ Q', fR_packOne_9 fu (nd : Int) (fr : Int) ((16 * c : Nat) : Int) (j : Int) Q = fR_packOne_44 FU (nd : Int) (fr : Int) ((16 * c : Nat) : Int) (fr : Int) 1 (st Q' 0 14 0) ∧ FtR c M Q' ∧ ∀ i, i < 16 → Q' 11 (16 * c + i) = 0 := by
    intro k
    induction k with
    | zero =>
      intro fu j Q hj hf hF hz
      obtain ⟨fv, rfl⟩ : ∃ fv, fu = fv + 1 := ⟨fu - 1, by omega⟩
      rw [fR_packOne_9]
      rw [mlt_f ⟨by omega, by omega⟩ ⟨by decide, by decide⟩ (by omega), mput_t]
      exact ⟨Q, rfl, hF, fun i hi => hz i (by omega)⟩
    | succ k ih =>
      intro fu j Q hj hf hF hz
      obtain ⟨fv, rfl⟩ : ∃ fv, fu = fv + 1 := ⟨fu - 1, by omega⟩
      rw [fR_packOne_9]
      rw [mlt_t ⟨by omega, by omega⟩ ⟨by decide, by decide⟩ (by omega), mwr_t ⟨by omega, by omega⟩, show (((16 * c : Nat) : Int) + (j : Int)).toNat = 16 * c + j by omega, show (j : Int) + 1 = ((j + 1 : Nat) : Int) by omega]
      refine ih fv (j + 1) _ (by omega) (by omega) (hF.tr ⟨fun p a b => st_ne b, fun k a b => by rw [st_ne (by decide)], fun i hi => st_off (by omega)⟩) (fun i hi => ?_)
      by_cases e : i = j
      · rw [e, st_same]
      · rw [st_off (by omega)]; exact hz i (by omega)
  obtain ⟨Q, e1, e2, e3⟩ := z9 16 FU 0 M rfl (by unfold FU; omega) FtR.rf (fun i hi => absurd hi (Nat.not_lt_zero _))
  rw [show ((0 : Nat) : Int) = 0 from rfl] at e1
  have fQ : FtR c Q (st Q 0 14 0) := ⟨fun p a b => st_ne a, fun k a b => st_off a, fun i hi => by rw [st_ne (by decide)]⟩
  have fM := e2.tr fQ
  obtain ⟨M', g1, g2, g3⟩ := clu_R (fr := fr) hc hnd hs hr 17 FU fr [] (st Q 0 14 0) (Nat.le_refl _) hfr (by simp) (by simp) (by unfold FU; omega) (fun k hk => by rw [fM.1 3 (by decide) (by decide)]; exact h3 k hk) (by rw [fM.1 4 (by decide) (by decide)]; exact h4) (by rw [st_same]; rfl) (fun j hj => by rw [st_ne (by decide), e3 j hj]; rfl)
  unfold fR_packOne
  rw [show 16 * (c : Int) = ((16 * c : Nat) : Int) by omega, e1]
  exact ⟨M', g1, g2, fM.tr g3⟩
end B4
