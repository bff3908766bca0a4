/-! Unpacking: what it gives, and how the class does it -/
def lits (d : Nat → Int) (a : Nat) : Nat → List Int → List Int
  | 0, l => l
  | n + 1, l => lits d (a + 1) n (l ++ [d a])
def cpy (ds : Nat) : Nat → List Int → List Int
  | 0, l => l
  | n + 1, l => cpy ds n (l ++ [l.getD (l.length - ds) 0])
def uzM (d : Nat → Int) (b w : Nat) (K : Nat → List Int → Option (List Int)) (nx t : Nat) (l : List Int) : Option (List Int) :=
  if t % 16 = 0 ∨ w ≤ l.length then K nx l
  else if 16 ≤ nx ∨ (d (b + nx)).toNat = 0 ∨ l.length < (d (b + nx)).toNat then none
  else K (nx + 1) (cpy (d (b + nx)).toNat (min (t % 16 + 2) (w - l.length)) l)
def uz (d : Nat → Int) (b w : Nat) : Nat → Nat → List Int → Option (List Int)
  | 0, _, _ => none
  | n + 1, nx, l =>
    if w ≤ l.length then some l
    else if 16 ≤ nx ∨ d (b + nx) = 0 then none
    else if 16 < nx + 1 + min ((d (b + nx)).toNat / 16) (w - l.length) then none
    else uzM d b w (uz d b w n) (nx + 1 + min ((d (b + nx)).toNat / 16) (w - l.length)) (d (b + nx)).toNat (lits d (b + nx + 1) (min ((d (b + nx)).toNat / 16) (w - l.length)) l)
theorem uz_s (d : Nat → Int) (b w n nx : Nat) (l : List Int) : uz d b w (n + 1) nx l = if w ≤ l.length then some l else if 16 ≤ nx ∨ d (b + nx) = 0 then none else if 16 < nx + 1 + min ((d (b + nx)).toNat / 16) (w - l.length) then none else uzM d b w (uz d b w n) (nx + 1 + min ((d (b + nx)).toNat / 16) (w - l.length)) (d (b + nx)).toNat (lits d (b + nx + 1) (min ((d (b + nx)).toNat / 16) (w - l.length)) l) := rfl
theorem lits_len (d : Nat → Int) : ∀ (n a : Nat) (l : List Int), (lits d a n l).length = l.length + n
  | 0, _, _ => rfl
  | n + 1, a, l => by unfold lits; rw [lits_len d n]; simp; omega
theorem cpy_len (ds : Nat) : ∀ (n : Nat) (l : List Int), (cpy ds n l).length = l.length + n
  | 0, _ => rfl
  | n + 1, l => by unfold cpy; rw [cpy_len ds n]; simp; omega
theorem gd_app (l : List Int) (v : Int) (k : Nat) (hk : k ≤ l.length) : (l ++ [v]).getD k 0 = if k = l.length then v else l.getD k 0 := by
  by_cases h : k = l.length
  · subst h; simp
  · rw [if_neg h, List.getD_eq_getElem?_getD, List.getD_eq_getElem?_getD, List.getElem?_append_left (by omega)]
def Cs (M0 M : Mm) (l : List Int) (nx : Nat) : Prop := (M 24 3 = (l.length : Int) ∧ M 24 4 = (nx : Int) ∧ ∀ k, k < l.length → M 25 k = l.getD k 0) ∧ ∀ p, p ≠ 24 → p ≠ 25 → M p = M0 p
theorem Cs.app {M0 M : Mm} {l : List Int} {nx : Nat} (h : Cs M0 M l nx) (v : Int) : Cs M0 (st (st M 25 l.length v) 24 3 (st M 25 l.length v 24 3 + 1)) (l ++ [v]) nx := by
  obtain ⟨⟨c1, c2, c3⟩, c4⟩ := h
  refine ⟨⟨by simp [st, c1], by simp [st, c2], fun q hq => ?_⟩, fun p h24 h25 => by rw [st_ne h24, st_ne h25]; exact c4 p h24 h25⟩
  have hq' : q ≤ l.length := by simp at hq; omega
  rw [gd_app _ _ _ hq']
  by_cases e : q = l.length
  · rw [if_pos e]; simp [st, e]
  · rw [if_neg e]; simp [st, e]; exact c3 q (by omega)
theorem Cs.nxt {M0 M : Mm} {l : List Int} {nx : Nat} (h : Cs M0 M l nx) : Cs M0 (st M 24 4 (M 24 4 + 1)) l (nx + 1) := by
  obtain ⟨⟨c1, c2, c3⟩, c4⟩ := h
  exact ⟨⟨by rw [st_off (by decide)]; exact c1, by rw [st_same, c2]; omega, fun q hq => by rw [st_ne (by decide)]; exact c3 q hq⟩, fun p h24 h25 => by rw [st_ne h24]; exact c4 p h24 h25⟩
section U1
variable {d : Nat → Int} {M0 M : Mm} {b w : Nat}
theorem takeL_v (hd : M0 17 = d) (hb : b + 16 ≤ 1024) (y : Int) : ∀ (k fu : Nat) (j : Int) (l : List Int) (nx : Nat) (M : Mm), Cs M0 M l nx → nx + k ≤ 16 → l.length + k ≤ 255 → k < fu → y = j + k → 0 ≤ j → j + k < 1000 → ∃ M', fCl_takeLiterals_16 17 1024 fu (b : Int) y j M = some (1, M') ∧ Cs M0 M' (lits d (b + nx) k l) (nx + k)
  | _, 0, _, _, _, _, _, _, _, hf, _, _, _ => absurd hf (Nat.not_lt_zero _)
  | 0, fu + 1, j, l, nx, M, hc, _, _, _, hy, _, _ => by
    unfold fCl_takeLiterals_16
    rw [mlt_f ⟨by omega, by omega⟩ ⟨by omega, by omega⟩ (by omega)]
    exact ⟨M, rfl, hc⟩
  | k + 1, fu + 1, j, l, nx, M, hc, h1, h2, hf, hy, h0, h9 => by
    have hn := (hc.app (d (b + nx))).nxt
    obtain ⟨⟨c1, c2, c3⟩, c4⟩ := hc
    unfold fCl_takeLiterals_16 lits
    have e17 : M 17 = d := (c4 17 (by decide) (by decide)).trans hd
    rw [mlt_t ⟨by omega, by omega⟩ ⟨by omega, by omega⟩ (by omega), c2, mrd_t ⟨by omega, by omega⟩, c1, mwr_t ⟨by omega, by omega⟩, mput_t, mput_t, e17, show ((b : Int) + (nx : Int)).toNat = b + nx by omega, show (((l.length : Nat) : Int)).toNat = l.length by omega, show nx + (k + 1) = nx + 1 + k by omega, show b + nx + 1 = b + (nx + 1) by omega]
    exact takeL_v hd hb y k fu (j + 1) _ _ _ hn (by omega) (by simp; omega) (by omega) (by omega) (by omega) (by omega)
theorem takeM_v {ds : Nat} (y : Int) : ∀ (k fu : Nat) (j : Int) (l : List Int) (nx : Nat) (M : Mm), Cs M0 M l nx → 1 ≤ ds → ds ≤ l.length → l.length + k ≤ 255 → k < fu → y = j + k → 0 ≤ j → j + k < 1000 → ∃ M', fCl_takeMatch_50 17 1024 fu y (ds : Int) j M = some (1, M') ∧ Cs M0 M' (cpy ds k l) nx
  | _, 0, _, _, _, _, _, _, _, _, hf, _, _, _ => absurd hf (Nat.not_lt_zero _)
  | 0, fu + 1, j, l, nx, M, hc, _, _, _, _, hy, _, _ => by
    unfold fCl_takeMatch_50
    rw [mlt_f ⟨by omega, by omega⟩ ⟨by omega, by omega⟩ (by omega)]
    exact ⟨M, rfl, hc⟩
  | k + 1, fu + 1, j, l, nx, M, hc, hs, h1, h2, hf, hy, h0, h9 => by
    have hn := hc.app (l.getD (l.length - ds) 0)
    obtain ⟨⟨c1, c2, c3⟩, c4⟩ := hc
    unfold fCl_takeMatch_50 cpy
    rw [mlt_t ⟨by omega, by omega⟩ ⟨by omega, by omega⟩ (by omega), c1, mrd_t ⟨by omega, by omega⟩, mwr_t ⟨by omega, by omega⟩, mput_t, show ((l.length : Int) - (ds : Int)).toNat = l.length - ds by omega, c3 _ (by omega), show (((l.length : Nat) : Int)).toNat = l.length by omega]
    exact takeM_v y k fu (j + 1) _ _ _ hn hs (by simp; omega) (by simp; omega) (by omega) (by omega) (by omega) (by omega)
/-- one token -/
theorem token_v (h : Db d) (hd : M0 17 = d) (hb : b + 16 ≤ 1024) (hw : w ≤ 255) (l : List Int) (nx : Nat) (hc : Cs M0 M l nx) (hl : l.length < w) (hx : nx ≤ 16) (n : Nat) : ∃ (g : Int) (M' : Mm), fCl_takeToken 17 1024 (b : Int) (w : Int) M = some (g, M') ∧ (∀ p, p ≠ 24 → p ≠ 25 → M' p = M0 p) ∧ ((g = 0 ∧ uz d b w (n + 1) nx l = none) ∨ (g = 1 ∧ ∃ l' nx', Cs M0 M' l' nx' ∧ nx < nx' ∧ nx' ≤ 16 ∧ l'.length ≤ w ∧ uz d b w (n + 1) nx l = uz d b w n nx' l')) := by
  have hc0 := hc
  obtain ⟨⟨c1, c2, c3⟩, c4⟩ := hc
  have e17 : M 17 = d := (c4 17 (by decide) (by decide)).trans hd
  rw [uz_s]
  unfold fCl_takeToken
  rw [if_neg (by omega), c2]
  by_cases a : nx < 16
  · have q := h (b + nx) (by omega)
    rw [mlt_t ⟨by omega, by omega⟩ ⟨by decide, by decide⟩ (by omega), mrd_t ⟨by omega, by omega⟩, e17, show ((b : Int) + (nx : Int)).toNat = b + nx by omega]
    by_cases z : d (b + nx) = 0
    · rw [meq_t (rB q) rI_0 z, if_pos (Or.inr z)]
      exact ⟨0, M, rfl, c4, Or.inl ⟨rfl, rfl⟩⟩
    · rw [meq_f (rB q) rI_0 z, if_neg (fun y => y.elim (by omega) z), mrd_t ⟨by omega, by omega⟩, e17, show ((b : Int) + (nx : Int)).toNat = b + nx by omega, mput_t, mshr_t ⟨rB q, by omega, by omega⟩, st_off (by decide), c1, show d (b + nx) / 2 ^ (4 : Int).toNat = d (b + nx) / 16 from rfl, mmin_t ⟨⟨by omega, by omega⟩, ⟨by omega, by omega⟩⟩]
      have hm : (if (w : Int) - (l.length : Int) < d (b + nx) / 16 then (w : Int) - (l.length : Int) else d (b + nx) / 16) = ((min ((d (b + nx)).toNat / 16) (w - l.length) : Nat) : Int) := by split <;> omega
      rw [hm]
      have hk : min ((d (b + nx)).toNat / 16) (w - l.length) ≤ w - l.length := Nat.min_le_right _ _
      generalize min ((d (b + nx)).toNat / 16) (w - l.length) = k at hk ⊢
      have hc1 : Cs M0 (st M 24 4 ((nx : Int) + 1)) l (nx + 1) := by have := hc0.nxt; rw [c2] at this; exact this
      unfold fCl_takeLiterals
      rw [hc1.1.2.1]
      by_cases f16 : 16 < nx + 1 + k
      · rw [mlt_t ⟨by decide, by decide⟩ ⟨by omega, by omega⟩ (by omega), mcn_t, meq_t rI_0 rI_0 rfl, if_pos f16]
        exact ⟨0, _, rfl, hc1.2, Or.inl ⟨rfl, rfl⟩⟩
      · obtain ⟨M2, e2, hc2⟩ := takeL_v hd hb (k : Int) k FU 0 l (nx + 1) _ hc1 (by omega) (by omega) (by unfold FU; omega) (by omega) (by omega) (by omega)
        have hlen := lits_len d k (b + (nx + 1)) l
        rw [mlt_f ⟨by decide, by decide⟩ ⟨by omega, by omega⟩ (by omega), mcn_e e2, meq_f ⟨by decide, by decide⟩ rI_0 (by decide), if_neg f16, show b + nx + 1 = b + (nx + 1) by omega, show nx + 1 + k = nx + 1 + k from rfl]
        generalize lits d (b + (nx + 1)) k l = l1 at hlen hc2 ⊢
        unfold uzM
        by_cases m0 : d (b + nx) % 16 = 0
        · rw [meq_t ⟨by omega, by omega⟩ rI_0 m0, if_pos (Or.inl (by omega))]
          exact ⟨1, M2, rfl, hc2.2, Or.inr ⟨rfl, l1, nx + 1 + k, hc2, by omega, by omega, by omega, rfl⟩⟩
        · rw [meq_f ⟨by omega, by omega⟩ rI_0 m0, hc2.1.1]
          by_cases f : l1.length < w
          · rw [mlt_t ⟨by omega, by omega⟩ ⟨by omega, by omega⟩ (by omega), if_neg (by omega), mmin_t ⟨⟨by omega, by omega⟩, ⟨by omega, by omega⟩⟩]
            have hm2 : (if (w : Int) - (l1.length : Int) < d (b + nx) % 16 + 2 then (w : Int) - (l1.length : Int) else d (b + nx) % 16 + 2) = ((min ((d (b + nx)).toNat % 16 + 2) (w - l1.length) : Nat) : Int) := by split <;> omega
            rw [hm2]
            have hk2 : min ((d (b + nx)).toNat % 16 + 2) (w - l1.length) ≤ w - l1.length := Nat.min_le_right _ _
            generalize min ((d (b + nx)).toNat % 16 + 2) (w - l1.length) = k2 at hk2 ⊢
            unfold fCl_takeMatch
            have e172 : M2 17 = d := (hc2.2 17 (by decide) (by decide)).trans hd
            rw [hc2.1.2.1]
            by_cases g16 : 16 ≤ nx + 1 + k
            · rw [mlt_f ⟨by omega, by omega⟩ ⟨by decide, by decide⟩ (by omega), mcn_t, meq_t rI_0 rI_0 rfl, if_pos (Or.inl g16)]
              exact ⟨0, _, rfl, hc2.2, Or.inl ⟨rfl, rfl⟩⟩
            · have q2 := h (b + (nx + 1 + k)) (by omega)
              have hc3 : Cs M0 (st M2 24 4 (((nx + 1 + k : Nat) : Int) + 1)) l1 (nx + 1 + k + 1) := by have := hc2.nxt; rw [hc2.1.2.1] at this; exact this
              rw [mlt_t ⟨by omega, by omega⟩ ⟨by decide, by decide⟩ (by omega), mrd_t ⟨by omega, by omega⟩, mput_t, e172, show ((b : Int) + ((nx + 1 + k : Nat) : Int)).toNat = b + (nx + 1 + k) by omega]
              by_cases z2 : d (b + (nx + 1 + k)) = 0
              · rw [meq_t (rB q2) rI_0 z2, mcn_t, meq_t rI_0 rI_0 rfl, if_pos (Or.inr (Or.inl (by omega)))]
                exact ⟨0, _, rfl, hc3.2, Or.inl ⟨rfl, rfl⟩⟩
              · rw [meq_f (rB q2) rI_0 z2, hc3.1.1]
                by_cases z3 : (l1.length : Int) < d (b + (nx + 1 + k))
                · rw [mlt_t ⟨by omega, by omega⟩ (rB q2) z3, mcn_t, meq_t rI_0 rI_0 rfl, if_pos (Or.inr (Or.inr (by omega)))]
                  exact ⟨0, _, rfl, hc3.2, Or.inl ⟨rfl, rfl⟩⟩
                · obtain ⟨M4, e4, hc4⟩ := takeM_v (ds := (d (b + (nx + 1 + k))).toNat) (k2 : Int) k2 FU 0 l1 (nx + 1 + k + 1) _ hc3 (by omega) (by omega) (by omega) (by unfold FU; omega) (by omega) (by omega) (by omega)
                  rw [show (((d (b + (nx + 1 + k))).toNat : Nat) : Int) = d (b + (nx + 1 + k)) by omega] at e4
                  have hlen4 := cpy_len (d (b + (nx + 1 + k))).toNat k2 l1
                  rw [mlt_f ⟨by omega, by omega⟩ (rB q2) z3, mcn_e e4, meq_f ⟨by decide, by decide⟩ rI_0 (by decide), if_neg (by omega)]
                  exact ⟨1, M4, rfl, hc4.2, Or.inr ⟨rfl, _, _, hc4, by omega, by omega, by omega, rfl⟩⟩
          · rw [mlt_f ⟨by omega, by omega⟩ ⟨by omega, by omega⟩ (by omega), if_pos (Or.inr (by omega))]
            exact ⟨1, M2, rfl, hc2.2, Or.inr ⟨rfl, l1, nx + 1 + k, hc2, by omega, by omega, by omega, rfl⟩⟩
  · rw [mlt_f ⟨by omega, by omega⟩ ⟨by decide, by decide⟩ (by omega), if_pos (Or.inl (by omega))]
    exact ⟨0, M, rfl, c4, Or.inl ⟨rfl, rfl⟩⟩
/-- what unpacking into the spare cluster leaves -/
def Uf (M0 M : Mm) (g : Int) (o : Option (List Int)) (w : Nat) : Prop := (∀ p, p ≠ 24 → p ≠ 25 → M p = M0 p) ∧ ((o = none ∧ g = 0) ∨ ∃ l, o = some l ∧ g = 1 ∧ l.length = w ∧ M 24 3 = (l.length : Int) ∧ ∀ k, k < l.length → M 25 k = l.getD k 0)
theorem fill_v (h : Db d) (hd : M0 17 = d) (hb : b + 16 ≤ 1024) (hw : w ≤ 255) : ∀ (n fu : Nat) (l : List Int) (nx tk : Nat) (M : Mm), Cs M0 M l nx → l.length ≤ w → nx ≤ 16 → 17 ≤ n + nx → tk ≤ nx → n < fu → ∃ (g : Int) (M' : Mm), fCl_fill_38 17 1024 fu (b : Int) (w : Int) 1 (tk : Int) M = some (g, M') ∧ Uf M0 M' g (uz d b w n nx l) w
  | _, 0, _, _, _, _, _, _, _, _, _, hf => absurd hf (Nat.not_lt_zero _)
  | 0, fu + 1, _, nx, _, _, _, _, h1, h2, _, _ => by omega
  | n + 1, fu + 1, l, nx, tk, M, hc, hl, hx, hn, ht, hf => by
    unfold fCl_fill_38
    rw [mlt_f ⟨by decide, by decide⟩ ⟨by omega, by omega⟩ (by omega), meq_f ⟨by decide, by decide⟩ rI_0 (by decide), hc.1.1]
    by_cases a : l.length < w
    · obtain ⟨g, M', e1, e2, e3⟩ := token_v h hd hb hw l nx hc a hx n
      rw [mlt_t ⟨by omega, by omega⟩ ⟨by omega, by omega⟩ (by omega), mcn_e e1]
      rcases e3 with ⟨rfl, e4⟩ | ⟨rfl, l', nx', e4, e5, e6, e7, e8⟩
      · rw [e4]
        obtain ⟨fv, rfl⟩ : ∃ fv, fu = fv + 1 := ⟨fu - 1, by omega⟩
        unfold fCl_fill_38
        refine ⟨0, M', ?_, e2, Or.inl ⟨rfl, rfl⟩⟩
        rw [mz_t (by omega)]
        by_cases q : 16 < (tk : Int) + 1
        · rw [mlt_t ⟨by decide, by decide⟩ ⟨by omega, by omega⟩ q]
        · rw [mlt_f ⟨by decide, by decide⟩ ⟨by omega, by omega⟩ q, meq_t rI_0 rI_0 rfl]
      · rw [e8, show (tk : Int) + 1 = ((tk + 1 : Nat) : Int) by omega]
        exact fill_v h hd hb hw n fu l' nx' (tk + 1) M' e4 e7 e6 (by omega) (by omega) (by omega)
    · rw [mlt_f ⟨by omega, by omega⟩ ⟨by omega, by omega⟩ (by omega), mz_t (by omega)]
      refine ⟨1, M, rfl, hc.2, Or.inr ⟨l, ?_, rfl, by omega, hc.1.1, hc.1.2.2⟩⟩
      unfold uz
      rw [if_pos (by omega)]
end U1
