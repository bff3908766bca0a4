/-! Building: a cluster, on both sides -/
def sc (f : Nat → Int) (s fr a : Nat) : Nat → Nat → Nat
  | 0, l => l
  | k + 1, l => if mt f s (a + l) fr = 0 ∧ l < 15 ∧ a + l < s then sc f s fr a k (l + 1) else l
theorem sc_r {f : Nat → Int} {s fr a : Nat} (ha : a ≤ s) : ∀ k l, l ≤ 15 → a + l ≤ s → l ≤ sc f s fr a k l ∧ sc f s fr a k l ≤ 15 ∧ a + sc f s fr a k l ≤ s
  | 0, l, h1, h2 => ⟨Nat.le_refl _, h1, h2⟩
  | k + 1, l, h1, h2 => by
    unfold sc
    by_cases c : mt f s (a + l) fr = 0 ∧ l < 15 ∧ a + l < s
    · rw [if_pos c]
      have := sc_r (f := f) (fr := fr) ha k (l + 1) (by omega) (by omega)
      omega
    · rw [if_neg c]; exact ⟨Nat.le_refl _, h1, h2⟩
def cl (f : Nat → Int) (s fr : Nat) : Nat → Nat → List Int → Nat × List Int
  | 0, a, o => (a, o)
  | n + 1, a, o =>
    if s ≤ a ∨ 16 ≤ o.length then (a, o)
    else if o.length + 1 + sc f s fr a 16 0 + (if 0 < mt f s (a + sc f s fr a 16 0) fr then 1 else 0) ≤ 16 then cl f s fr n (a + sc f s fr a 16 0 + mt f s (a + sc f s fr a 16 0) fr) (tokl f a (sc f s fr a 16 0) (mt f s (a + sc f s fr a 16 0) fr) (md f s (a + sc f s fr a 16 0) fr) o)
    else if 0 < min (sc f s fr a 16 0) (15 - o.length) then (a + min (sc f s fr a 16 0) (15 - o.length), tokl f a (min (sc f s fr a 16 0) (15 - o.length)) 0 0 o)
    else (a, o)
theorem cl_s (f : Nat → Int) (s fr n a : Nat) (o : List Int) : cl f s fr (n + 1) a o = if s ≤ a ∨ 16 ≤ o.length then (a, o)
    else if o.length + 1 + sc f s fr a 16 0 + (if 0 < mt f s (a + sc f s fr a 16 0) fr then 1 else 0) ≤ 16 then cl f s fr n (a + sc f s fr a 16 0 + mt f s (a + sc f s fr a 16 0) fr) (tokl f a (sc f s fr a 16 0) (mt f s (a + sc f s fr a 16 0) fr) (md f s (a + sc f s fr a 16 0) fr) o)
    else if 0 < min (sc f s fr a 16 0) (15 - o.length) then (a + min (sc f s fr a 16 0) (15 - o.length), tokl f a (min (sc f s fr a 16 0) (15 - o.length)) 0 0 o)
    else (a, o) := rfl
/-- a scan that is not at the end finds something -/
theorem sc_pos {f : Nat → Int} {s fr a : Nat} (ha : a < s) : 0 < sc f s fr a 16 0 + mt f s (a + sc f s fr a 16 0) fr := by
  by_cases c : mt f s (a + 0) fr = 0 ∧ (0 : Nat) < 15 ∧ a + 0 < s
  · have e : sc f s fr a 16 0 = sc f s fr a 15 1 := by
      show (if mt f s (a + 0) fr = 0 ∧ (0 : Nat) < 15 ∧ a + 0 < s then _ else _) = _
      rw [if_pos c]
    have := sc_r (f := f) (fr := fr) (show a ≤ s by omega) 15 1 (by omega) (by omega)
    omega
  · have e : sc f s fr a 16 0 = 0 := by
      show (if mt f s (a + 0) fr = 0 ∧ (0 : Nat) < 15 ∧ a + 0 < s then _ else _) = _
      rw [if_neg c]
    rw [e]
    have : ¬ mt f s (a + 0) fr = 0 := fun z => c ⟨z, by omega, by omega⟩
    omega
section B3
variable {M : Mm} {f : Nat → Int} {s a fr c : Nat}
/-- the class's scan -/
theorem scan_X (hs : s ≤ 60) (hr : ∀ k, k < s → 0 ≤ f k ∧ f k ≤ 255) (ha : a ≤ s) (hfr : fr ≤ a) {M0 : Mm} (h13 : ∀ k, k < s → M0 13 k = f k) (h3 : M0 12 3 = (s : Int)) (h5 : M0 12 5 = (fr : Int)) (h6 : M0 12 6 = (a : Int)) : ∀ (k fu l : Nat) (M : Mm), l + k = 16 → k < fu → l ≤ 15 → a + l ≤ s → FdX M0 M → M 12 8 = (md f s (a + l) fr : Int) → ∃ M', fPa_putNext_11 fu (l : Int) (mt f s (a + l) fr : Int) M = fPa_putNext_51 ((sc f s fr a k l : Nat) : Int) ((mt f s (a + sc f s fr a k l) fr : Nat) : Int) M' ∧ FdX M0 M' ∧ M' 12 8 = (md f s (a + sc f s fr a k l) fr : Int)
  | _, 0, _, _, _, hf, _, _, _, _ => absurd hf (Nat.not_lt_zero _)
  | 0, fu + 1, l, M, hl, _, h15, _, _, _ => by omega
  | k + 1, fu + 1, l, M, hl, hf, h15, hal, hF, h8 => by
    have hq := mt_r (f := f) (s := s) (a := a + l) (fr := fr)
    rw [fPa_putNext_11]
    unfold sc
    rw [(hF.2 6 (by decide)).trans h6, (hF.2 3 (by decide)).trans h3]
    by_cases c1 : mt f s (a + l) fr = 0
    · rw [meq_t ⟨by omega, by omega⟩ rI_0 (by omega)]
      by_cases c2 : l < 15
      · rw [mlt_t ⟨by omega, by omega⟩ ⟨by decide, by decide⟩ (by omega)]
        by_cases c3 : a + l < s
        · rw [mlt_t ⟨by omega, by omega⟩ ⟨by omega, by omega⟩ (by omega), if_pos ⟨c1, c2, c3⟩]
          obtain ⟨M1, e1, e2, e3⟩ := match_X (M := M) (a := a + (l + 1)) hs hr (by omega) (by omega) (fun k hk => by rw [hF.1 13 (by decide)]; exact h13 k hk) ((hF.2 3 (by decide)).trans h3) ((hF.2 5 (by decide)).trans h5)
          rw [show (a : Int) + ((l : Int) + 1) = ((a + (l + 1) : Nat) : Int) by omega, mcn_e e1, show (l : Int) + 1 = ((l + 1 : Nat) : Int) by omega]
          exact scan_X hs hr ha hfr h13 h3 h5 h6 k fu (l + 1) M1 (by omega) (by omega) (by omega) (by omega) ⟨fun p hp => (e2.1 p hp).trans (hF.1 p hp), fun q hq => (e2.2 q hq).trans (hF.2 q hq)⟩ e3
        · rw [mlt_f ⟨by omega, by omega⟩ ⟨by omega, by omega⟩ (by omega), if_neg (fun z => c3 z.2.2)]
          exact ⟨M, rfl, hF, h8⟩
      · rw [mlt_f ⟨by omega, by omega⟩ ⟨by decide, by decide⟩ (by omega), if_neg (fun z => c2 z.2.1)]
        exact ⟨M, rfl, hF, h8⟩
    · rw [meq_f ⟨by omega, by omega⟩ rI_0 (by omega), if_neg (fun z => c1 z.1)]
      exact ⟨M, rfl, hF, h8⟩
/-- the class's cluster from a token's beginning on -/
theorem clu_X (hc : c ≤ 10) (hs : s ≤ 60) (hr : ∀ k, k < s → 0 ≤ f k ∧ f k ≤ 255) : ∀ (n fu tk a : Nat) (o : List Int) (M : Mm), fr ≤ a → a < s → o.length < 16 → 2 * tk ≤ o.length → 17 ≤ n + o.length → n < fu → (∀ k, k < s → M 13 k = f k) → M 12 3 = (s : Int) → M 12 4 = (c : Int) → M 12 5 = (fr : Int) → M 12 6 = (a : Int) → M 12 7 = (o.length : Int) → XC M c o → ∃ M', fPa_packCluster_17 fu 1 (tk : Int) M = some (0, M') ∧ XC M' c (cl f s fr n a o).2 ∧ M' 12 6 = ((cl f s fr n a o).1 : Int) ∧ (cl f s fr n a o).1 ≤ s ∧ FtX c M M'
  | 0, _, _, _, o, _, _, _, h1, _, h2, _, _, _, _, _, _, _, _ => by omega
  | _, 0, _, _, _, _, _, _, _, _, _, hf, _, _, _, _, _, _, _ => absurd hf (Nat.not_lt_zero _)
  | n + 1, fu + 1, tk, a, o, M, hfr, ha, ho, htk, hn, hf, h13, h3, h4, h5, h6, h7, hx => by
    obtain ⟨M1, e1, e2, e3⟩ := match_X (M := M) (a := a) hs hr (by omega) hfr h13 h3 h5
    have h13' : ∀ k, k < s → M1 13 k = f k := fun k hk => by rw [e2.1 13 (by decide)]; exact h13 k hk
    obtain ⟨M2, g1, g2, g3⟩ := scan_X (M0 := M) hs hr (by omega) hfr h13 h3 h5 h6 16 FU 0 M1 rfl (by unfold FU; omega) (by omega) (by omega) e2 e3
    have hsc := sc_r (f := f) (fr := fr) (show a ≤ s by omega) 16 0 (by omega) (by omega)
    have hsp := sc_pos (f := f) (fr := fr) ha
    have hmt := mt_r (f := f) (s := s) (a := a + sc f s fr a 16 0) (fr := fr)
    rw [show ((0 : Nat) : Int) = 0 from rfl, Nat.add_zero] at g1
    have f6 : M2 12 6 = (a : Int) := (g2.2 6 (by decide)).trans h6
    have f7 : M2 12 7 = (o.length : Int) := (g2.2 7 (by decide)).trans h7
    have f4 : M2 12 4 = (c : Int) := (g2.2 4 (by decide)).trans h4
    have f3 : M2 12 3 = (s : Int) := (g2.2 3 (by decide)).trans h3
    have f5 : M2 12 5 = (fr : Int) := (g2.2 5 (by decide)).trans h5
    have f13 : ∀ k, k < s → M2 13 k = f k := fun k hk => by rw [g2.1 13 (by decide)]; exact h13 k hk
    have fx : XC M2 c o := fun j hj => by rw [g2.1 14 (by decide)]; exact hx j hj
    have fr2 : FtX c M M2 := ⟨fun p a b => g2.1 p a, fun k a b d => g2.2 k d, fun j hj => by rw [g2.1 14 (by decide)]⟩
    rw [fPa_packCluster_17, cl_s]
    unfold fPa_putNext
    rw [if_neg (show ¬ (s ≤ a ∨ 16 ≤ o.length) by omega), mlt_t ⟨by omega, by omega⟩ ⟨by decide, by decide⟩ (by omega), meq_f (a := 1) ⟨by decide, by decide⟩ rI_0 (by decide), h6, mcn_e e1, g1]
    generalize sc f s fr a 16 0 = L at hsc hsp hmt g3 ⊢
    generalize mt f s (a + L) fr = m at hsp hmt ⊢
    generalize md f s (a + L) fr = ds at hmt g3 ⊢
    have e51 : fPa_putNext_51 (L : Int) (m : Int) M2 = fPa_putNext_71 (L : Int) (m : Int) (15 - (o.length : Int)) (L : Int) (if 0 < m then 1 else 0) M2 := by
      unfold fPa_putNext_51
      rw [f7, show (16 : Int) - (o.length : Int) - 1 = 15 - (o.length : Int) by omega]
      by_cases cm : 0 < m
      · rw [mlt_t rI_0 ⟨by omega, by omega⟩ (by omega), if_pos cm]
      · rw [mlt_f rI_0 ⟨by omega, by omega⟩ (by omega), if_neg cm]
    have stop : ∀ M3, fPa_packCluster_17 fu 0 ((tk : Int) + 1) M3 = some (0, M3) := fun M3 => by
      obtain ⟨fv, rfl⟩ : ∃ fv, fu = fv + 1 := ⟨fu - 1, by omega⟩
      unfold fPa_packCluster_17
      by_cases q : (tk : Int) + 1 < 16
      · rw [mlt_t ⟨by omega, by omega⟩ ⟨by decide, by decide⟩ q, meq_t rI_0 rI_0 rfl]
      · rw [mlt_f ⟨by omega, by omega⟩ ⟨by decide, by decide⟩ q]
    rw [e51]
    unfold fPa_putNext_71
    by_cases cf : o.length + 1 + L + (if 0 < m then 1 else 0) ≤ 16
    · obtain ⟨M3, t1, t2, t3, t4, t5⟩ := putT_X (f := f) (a := a) (ds := ds) hc hs (l := L) (m := m) (by omega) (by omega) f4 f6 f7 (fun _ => g3) f13 fx cf
      have hlen := tokl_len (f := f) (a := a) (l := L) (m := m) (ds := ds) (o := o)
      have ci : ((if 0 < m then 1 else 0 : Nat) : Int) = (if 0 < m then 1 else 0 : Int) := by split <;> rfl
      rw [if_pos cf, mlt_f ⟨by omega, by omega⟩ ⟨by split <;> omega, by split <;> omega⟩ (by split at cf <;> split <;> omega), mcn_e t1, mcn_t, meq_f (a := 1) ⟨by decide, by decide⟩ rI_0 (by decide), t4, t5.2.1 3 (by decide) (by decide) (by decide), f3, t3]
      have hge : o.length + 2 ≤ (tokl f a L m ds o).length := by rw [hlen]; split <;> omega
      have hle : (tokl f a L m ds o).length ≤ 16 := by rw [hlen]; exact cf
      generalize tokl f a L m ds o = o' at t2 t3 hlen hge hle ⊢
      have fin : (s ≤ a + L + m ∨ 16 ≤ o'.length) → ∃ M', some ((0 : Int), M3) = some (0, M') ∧ XC M' c (cl f s fr n (a + L + m) o').2 ∧ M' 12 6 = ((cl f s fr n (a + L + m) o').1 : Int) ∧ (cl f s fr n (a + L + m) o').1 ≤ s ∧ FtX c M M' := fun z => by
        have ecl : cl f s fr n (a + L + m) o' = (a + L + m, o') := by
          cases n with
          | zero => rfl
          | succ n => rw [cl_s, if_pos z]
        rw [ecl]
        exact ⟨M3, rfl, t2, t4, by omega, fr2.tr t5⟩
      by_cases ca : a + L + m < s
      · rw [mlt_t ⟨by omega, by omega⟩ ⟨by omega, by omega⟩ (by omega)]
        by_cases cb : o'.length < 16
        · rw [mlt_t ⟨by omega, by omega⟩ ⟨by decide, by decide⟩ (by omega), show (tk : Int) + 1 = ((tk + 1 : Nat) : Int) by omega]
          obtain ⟨M', q1, q2, q3, q4, q5⟩ := clu_X hc hs hr n fu (tk + 1) (a + L + m) o' M3 (by omega) ca cb (by omega) (by omega) (by omega) (fun k hk => by rw [t5.1 13 (by decide) (by decide)]; exact f13 k hk) ((t5.2.1 3 (by decide) (by decide) (by decide)).trans f3) ((t5.2.1 4 (by decide) (by decide) (by decide)).trans f4) ((t5.2.1 5 (by decide) (by decide) (by decide)).trans f5) t4 t3 t2
          exact ⟨M', q1, q2, q3, q4, fr2.tr (t5.tr q5)⟩
        · rw [mlt_f ⟨by omega, by omega⟩ ⟨by decide, by decide⟩ (by omega), stop]
          exact fin (Or.inr (by omega))
      · rw [mlt_f ⟨by omega, by omega⟩ ⟨by omega, by omega⟩ (by omega), stop]
        exact fin (Or.inl (by omega))
    · have hmn : (if 15 - (o.length : Int) < (L : Int) then 15 - (o.length : Int) else (L : Int)) = ((min L (15 - o.length) : Nat) : Int) := by split <;> omega
      have hm1 : min L (15 - o.length) ≤ L := Nat.min_le_left _ _
      have hm2 : min L (15 - o.length) ≤ 15 - o.length := Nat.min_le_right _ _
      rw [if_neg cf, mlt_t ⟨by omega, by omega⟩ ⟨by split <;> omega, by split <;> omega⟩ (by split at cf <;> split <;> omega), mmin_t ⟨⟨by omega, by omega⟩, ⟨by omega, by omega⟩⟩, hmn]
      generalize min L (15 - o.length) = k at hm1 hm2 ⊢
      by_cases ck : 0 < k
      · obtain ⟨M3, t1, t2, t3, t4, t5⟩ := putT_X (f := f) (a := a) (ds := 0) hc hs (l := k) (m := 0) (Or.inl rfl) (by omega) f4 f6 f7 (fun z => absurd z (by omega)) f13 fx (by rw [if_neg (by omega)]; omega)
        rw [show ((0 : Nat) : Int) = 0 from rfl] at t1
        rw [mlt_t rI_0 ⟨by omega, by omega⟩ (by omega), if_pos ck, mcn_e t1, mcn_t, meq_t rI_0 rI_0 rfl, stop]
        exact ⟨M3, rfl, t2, t4, by show a + k ≤ s; omega, fr2.tr t5⟩
      · rw [mlt_f rI_0 ⟨by omega, by omega⟩ (by omega), if_neg ck, mcn_t, meq_t rI_0 rI_0 rfl, stop]
        exact ⟨M2, rfl, fx, f6, by show a ≤ s; omega, fr2⟩
end B3
