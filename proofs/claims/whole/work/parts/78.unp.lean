/-! Unpacking: the reference's side -/
def Rs (M0 M : Mm) (l : List Int) : Prop := (∀ k, k < l.length → M 15 k = l.getD k 0) ∧ ∀ p, p ≠ 15 → M p = M0 p
def Vf (M0 M : Mm) (g : Int) (o : Option (List Int)) (w : Nat) : Prop := (∀ p, p ≠ 15 → M p = M0 p) ∧ ((o = none ∧ g = 0) ∨ ∃ l, o = some l ∧ g = 1 ∧ l.length = w ∧ ∀ k, k < l.length → M 15 k = l.getD k 0)
theorem Rs.app {M0 M : Mm} {l : List Int} (h : Rs M0 M l) (v : Int) : Rs M0 (st M 15 l.length v) (l ++ [v]) := by
  obtain ⟨c3, c4⟩ := h
  refine ⟨fun q hq => ?_, fun p h15 => by rw [st_ne h15]; exact c4 p h15⟩
  have hq' : q ≤ l.length := by simp at hq; omega
  rw [gd_app _ _ _ hq']
  by_cases e : q = l.length
  · rw [if_pos e]; simp [st, e]
  · rw [if_neg e]; simp [st, e]; exact c3 q (by omega)
section U2
variable {d : Nat → Int} {M0 M : Mm} {b w : Nat}
theorem un_0 {fu : Nat} {y3 y4 y5 y6 y7 y8 : Int} : fR_unpack_43 (fu + 1) y3 y4 y5 y6 y7 y8 0 M = some (0, M) := by
  unfold fR_unpack_43
  rw [meq_t rI_0 rI_0 rfl, mz_t (by omega)]
theorem un_w {fu nx mn : Nat} {y7 y8 : Int} (h : w ≤ mn) (hm : mn ≤ 255) : fR_unpack_43 (fu + 1) (b : Int) (w : Int) (nx : Int) (mn : Int) y7 y8 1 M = some (1, M) := by
  unfold fR_unpack_43
  rw [meq_f ⟨by decide, by decide⟩ rI_0 (by decide), mlt_f ⟨by omega, by omega⟩ ⟨by omega, by omega⟩ (by omega), mz_t (by omega)]
theorem un_16 {fu nx mn : Nat} {y7 y8 : Int} (h : mn < w) (hw : w ≤ 255) (hx : 16 ≤ nx) (hx' : nx ≤ 100) : fR_unpack_43 (fu + 1 + 1) (b : Int) (w : Int) (nx : Int) (mn : Int) y7 y8 1 M = some (0, M) := by
  unfold fR_unpack_43
  rw [meq_f ⟨by decide, by decide⟩ rI_0 (by decide), mlt_t ⟨by omega, by omega⟩ ⟨by omega, by omega⟩ (by omega), mlt_f ⟨by omega, by omega⟩ ⟨by decide, by decide⟩ (by omega)]
  unfold fR_unpack_67 fR_unpack_87 fR_unpack_136 fR_unpack_164
  rw [meq_t rI_0 rI_0 rfl, meq_t rI_0 rI_0 rfl, meq_t rI_0 rI_0 rfl, meq_t rI_0 rI_0 rfl, un_0]
/-- a byte is there -/
theorem un_b {fu nx mn : Nat} {y7 y8 : Int} (hd : M 13 = d) (hb : b + 16 ≤ 1024) (h : mn < w) (hw : w ≤ 255) (hx : nx < 16) : fR_unpack_43 (fu + 1) (b : Int) (w : Int) (nx : Int) (mn : Int) y7 y8 1 M = fR_unpack_87 (fR_unpack_43 fu) (b : Int) (w : Int) (nx : Int) (mn : Int) y7 y8 1 (d (b + nx)) M := by
  rw [fR_unpack_43]
  rw [meq_f ⟨by decide, by decide⟩ rI_0 (by decide), mlt_t ⟨by omega, by omega⟩ ⟨by omega, by omega⟩ (by omega), mlt_t ⟨by omega, by omega⟩ ⟨by decide, by decide⟩ (by omega)]
  unfold fR_unpack_67
  rw [meq_f ⟨by decide, by decide⟩ rI_0 (by decide), mrd_t ⟨by omega, by omega⟩, hd, show ((b : Int) + (nx : Int)).toNat = b + nx by omega]
theorem un_lit {fu nx k : Nat} {l : List Int} {y8 : Int} (hd : M 13 = d) (hb : b + 16 ≤ 1024) (h : l.length < w) (hw : w ≤ 255) (hx : nx < 16) (hk : k < 1000) : fR_unpack_43 (fu + 1) (b : Int) (w : Int) (nx : Int) (l.length : Int) ((k + 1 : Nat) : Int) y8 1 M = fR_unpack_43 fu (b : Int) (w : Int) ((nx + 1 : Nat) : Int) ((l ++ [d (b + nx)]).length : Int) (k : Int) y8 1 (st M 15 l.length (d (b + nx))) := by
  rw [un_b hd hb h hw hx]
  unfold fR_unpack_87 fR_unpack_136
  rw [meq_f ⟨by decide, by decide⟩ rI_0 (by decide), meq_f ⟨by omega, by omega⟩ rI_0 (by omega), meq_f ⟨by decide, by decide⟩ rI_0 (by decide), mlt_t rI_0 ⟨by omega, by omega⟩ (by omega), mwr_t ⟨by omega, by omega⟩, show ((k + 1 : Nat) : Int) + (-1) = (k : Int) by omega, show (((l.length : Nat) : Int)).toNat = l.length by omega, show ((l ++ [d (b + nx)]).length : Int) = (l.length : Int) + 1 by simp, show ((nx + 1 : Nat) : Int) = (nx : Int) + 1 by omega]
theorem un_L1 (hd : M0 13 = d) (hb : b + 16 ≤ 1024) (hw : w ≤ 255) {ma : Int} (P : Option (Int × Mm) → Prop) : ∀ (m k fu : Nat) (l : List Int) (nx : Nat) (M : Mm), Rs M0 M l → m ≤ k → k < 1000 → l.length + m ≤ w → nx + m ≤ 16 → 19 ≤ fu + nx → (∀ (fu' : Nat) (M' : Mm), Rs M0 M' (lits d (b + nx) m l) → 19 ≤ fu' + (nx + m) → P (fR_unpack_43 fu' (b : Int) (w : Int) ((nx + m : Nat) : Int) ((l.length + m : Nat) : Int) ((k - m : Nat) : Int) ma 1 M')) → P (fR_unpack_43 fu (b : Int) (w : Int) (nx : Int) (l.length : Int) (k : Int) ma 1 M)
  | 0, k, fu, l, nx, M, hr, _, _, _, _, hf, hc => hc fu M hr hf
  | m + 1, k, fu, l, nx, M, hr, hk, hk9, hl, hx, hf, hc => by
    obtain ⟨fv, rfl⟩ : ∃ fv, fu = fv + 1 := ⟨fu - 1, by omega⟩
    obtain ⟨j, rfl⟩ : ∃ j, k = j + 1 := ⟨k - 1, by omega⟩
    have e13 : M 13 = d := (hr.2 13 (by decide)).trans hd
    rw [un_lit e13 hb (by omega) hw (by omega) (by omega)]
    refine un_L1 hd hb hw P m j fv _ (nx + 1) _ (hr.app _) (by omega) (by omega) (by simp; omega) (by omega) (by omega) (fun fu' M' h1 h2 => ?_)
    have := hc fu' M' (by unfold lits; exact h1) (by omega)
    rw [show nx + 1 + m = nx + (m + 1) by omega, show (l ++ [d (b + nx)]).length + m = l.length + (m + 1) by simp; omega, show j - m = j + 1 - (m + 1) by omega]
    exact this
theorem un_L2 (hd : M0 13 = d) (hb : b + 16 ≤ 1024) (hw : w ≤ 255) {ma : Int} : ∀ (m k fu : Nat) (l : List Int) (nx : Nat) (M : Mm), Rs M0 M l → m ≤ k → k < 1000 → l.length + m ≤ w → nx ≤ 16 → 16 < nx + m → 19 ≤ fu + nx → ∃ M', fR_unpack_43 fu (b : Int) (w : Int) (nx : Int) (l.length : Int) (k : Int) ma 1 M = some (0, M') ∧ ∀ p, p ≠ 15 → M' p = M0 p
  | 0, _, _, _, nx, _, _, _, _, _, h1, h2, _ => by omega
  | m + 1, k, fu, l, nx, M, hr, hk, hk9, hl, hx, hx', hf => by
    obtain ⟨fv, rfl⟩ : ∃ fv, fu = fv + 1 + 1 := ⟨fu - 2, by omega⟩
    obtain ⟨j, rfl⟩ : ∃ j, k = j + 1 := ⟨k - 1, by omega⟩
    by_cases a : nx = 16
    · exact ⟨M, un_16 (by omega) hw (by omega) (by omega), hr.2⟩
    · have e13 : M 13 = d := (hr.2 13 (by decide)).trans hd
      rw [un_lit e13 hb (by omega) hw (by omega) (by omega)]
      exact un_L2 hd hb hw m j (fv + 1) _ (nx + 1) _ (hr.app _) (by omega) (by omega) (by simp; omega) (by omega) (by omega) (by omega)
theorem un_cp {ds : Nat} {K : Int → Int → Int → Int → Int → Int → Int → Mm → Option (Int × Mm)} {y3 y5 y7 : Int} (hw : w ≤ 255) (P : Option (Int × Mm) → Prop) {m : Nat} (hm : m < 1000) : ∀ (k fu j : Nat) (l : List Int) (M : Mm), Rs M0 M l → 1 ≤ ds → ds ≤ l.length → l.length + k ≤ w → j + k ≤ m + 2 → (j + k = m + 2 ∨ l.length + k = w) → k < fu → (∀ M', Rs M0 M' (cpy ds k l) → P (K y3 (w : Int) y5 ((l.length + k : Nat) : Int) y7 0 1 M')) → P (fR_unpack_191 K fu y3 (w : Int) y5 (l.length : Int) y7 (m : Int) 1 (ds : Int) (j : Int) M)
  | _, 0, _, _, _, _, _, _, _, _, _, hf, _ => absurd hf (Nat.not_lt_zero _)
  | 0, fu + 1, j, l, M, hr, h1, h2, h3, h4, h5, _, hc => by
    unfold fR_unpack_191
    rw [meq_f ⟨by decide, by decide⟩ rI_0 (by decide)]
    by_cases a : j < m + 2
    · rw [mlt_t ⟨by omega, by omega⟩ ⟨by omega, by omega⟩ (by omega), mlt_f ⟨by omega, by omega⟩ ⟨by omega, by omega⟩ (by omega)]
      exact hc M hr
    · rw [mlt_f ⟨by omega, by omega⟩ ⟨by omega, by omega⟩ (by omega)]
      exact hc M hr
  | k + 1, fu + 1, j, l, M, hr, h1, h2, h3, h4, h5, hf, hc => by
    unfold fR_unpack_191
    rw [meq_f ⟨by decide, by decide⟩ rI_0 (by decide), mlt_t ⟨by omega, by omega⟩ ⟨by omega, by omega⟩ (by omega), mlt_t ⟨by omega, by omega⟩ ⟨by omega, by omega⟩ (by omega), mrd_t ⟨by omega, by omega⟩, mwr_t ⟨by omega, by omega⟩, show ((l.length : Int) - (ds : Int)).toNat = l.length - ds by omega, hr.1 _ (by omega), show (((l.length : Nat) : Int)).toNat = l.length by omega, show (l.length : Int) + 1 = ((l ++ [l.getD (l.length - ds) 0]).length : Int) by simp, show (j : Int) + 1 = ((j + 1 : Nat) : Int) by omega]
    refine un_cp hw P hm k fu (j + 1) _ _ (hr.app _) h1 (by simp; omega) (by simp; omega) (by omega) (by simp; omega) (by omega) (fun M' h => ?_)
    have := hc M' (by unfold cpy; exact h)
    rw [show (l ++ [l.getD (l.length - ds) 0]).length + k = l.length + (k + 1) by simp; omega]
    exact this
theorem un_v (h : Db d) (hd : M0 13 = d) (hb : b + 16 ≤ 1024) (hw : w ≤ 255) : ∀ (n fu : Nat) (l : List Int) (nx : Nat) (M : Mm), Rs M0 M l → l.length ≤ w → nx ≤ 16 → 17 ≤ n + nx → 19 ≤ fu + nx → ∃ (g : Int) (M' : Mm), fR_unpack_43 fu (b : Int) (w : Int) (nx : Int) (l.length : Int) 0 0 1 M = some (g, M') ∧ Vf M0 M' g (uz d b w n nx l) w
  | 0, _, _, nx, _, _, _, h1, h2, _ => by omega
  | n + 1, fu, l, nx, M, hr, hl, hx, hn, hf => by
    obtain ⟨fv, rfl⟩ : ∃ fv, fu = fv + 1 + 1 := ⟨fu - 2, by omega⟩
    have e13 : M 13 = d := (hr.2 13 (by decide)).trans hd
    rw [uz_s]
    by_cases a : w ≤ l.length
    · rw [if_pos a, un_w a (by omega)]
      exact ⟨1, M, rfl, hr.2, Or.inr ⟨l, rfl, rfl, by omega, hr.1⟩⟩
    · rw [if_neg a]
      by_cases x16 : 16 ≤ nx
      · rw [if_pos (Or.inl x16), un_16 (by omega) hw x16 (by omega)]
        exact ⟨0, M, rfl, hr.2, Or.inl ⟨rfl, rfl⟩⟩
      · have q := h (b + nx) (by omega)
        rw [un_b e13 hb (by omega) hw (by omega)]
        unfold fR_unpack_87
        rw [meq_f ⟨by decide, by decide⟩ rI_0 (by decide), meq_t rI_0 rI_0 rfl, meq_t rI_0 rI_0 rfl, mdiv_t ⟨by omega, by omega, by omega, by omega⟩, mrem_t ⟨by omega, by omega, by omega, by omega⟩]
        by_cases z : d (b + nx) = 0
        · rw [mlt_f rI_0 (rB q) (by omega), if_pos (Or.inr z), un_0]
          exact ⟨0, M, rfl, hr.2, Or.inl ⟨rfl, rfl⟩⟩
        · rw [mlt_t rI_0 (rB q) (by omega), if_neg (fun y => y.elim x16 z), show (nx : Int) + 1 = ((nx + 1 : Nat) : Int) by omega, show d (b + nx) / 16 = (((d (b + nx)).toNat / 16 : Nat) : Int) by omega, show d (b + nx) % 16 = (((d (b + nx)).toNat % 16 : Nat) : Int) by omega]
          have hk1 : min ((d (b + nx)).toNat / 16) (w - l.length) ≤ w - l.length := Nat.min_le_right _ _
          have hk2 : min ((d (b + nx)).toNat / 16) (w - l.length) ≤ (d (b + nx)).toNat / 16 := Nat.min_le_left _ _
          have hk3 : min ((d (b + nx)).toNat / 16) (w - l.length) = (d (b + nx)).toNat / 16 ∨ min ((d (b + nx)).toNat / 16) (w - l.length) = w - l.length := by omega
          generalize min ((d (b + nx)).toNat / 16) (w - l.length) = k at hk1 hk2 hk3 ⊢
          by_cases f16 : 16 < nx + 1 + k
          · rw [if_pos f16]
            obtain ⟨M', g1, g2⟩ := un_L2 hd hb hw (ma := (((d (b + nx)).toNat % 16 : Nat) : Int)) k ((d (b + nx)).toNat / 16) (fv + 1) l (nx + 1) M hr hk2 (by omega) (by omega) (by omega) f16 (by omega)
            exact ⟨0, M', g1, g2, Or.inl ⟨rfl, rfl⟩⟩
          · rw [if_neg f16]
            refine un_L1 hd hb hw (fun q => ∃ (g : Int) (M' : Mm), q = some (g, M') ∧ Vf M0 M' g _ w) k ((d (b + nx)).toNat / 16) (fv + 1) l (nx + 1) M hr hk2 (by omega) (by omega) (by omega) (by omega) (fun fu' M' hr' hf' => ?_)
            have hlen := lits_len d k (b + (nx + 1)) l
            rw [show b + nx + 1 = b + (nx + 1) by omega, ← hlen]
            generalize lits d (b + (nx + 1)) k l = l1 at hlen hr' ⊢
            have e13' : M' 13 = d := (hr'.2 13 (by decide)).trans hd
            obtain ⟨fw, rfl⟩ : ∃ fw, fu' = fw + 1 + 1 := ⟨fu' - 2, by omega⟩
            unfold uzM
            by_cases f : w ≤ l1.length
            · rw [if_pos (Or.inr f), un_w f (by omega)]
              obtain ⟨nn, rfl⟩ : ∃ nn, n = nn + 1 := ⟨n - 1, by omega⟩
              refine ⟨1, M', rfl, hr'.2, Or.inr ⟨l1, ?_, rfl, by omega, hr'.1⟩⟩
              rw [uz_s, if_pos f]
            · have ek : (d (b + nx)).toNat / 16 - k = 0 := by omega
              rw [ek]
              by_cases m0 : (d (b + nx)).toNat % 16 = 0
              · rw [if_pos (Or.inl m0), m0]
                exact un_v h hd hb hw n (fw + 1 + 1) l1 (nx + 1 + k) M' hr' (by omega) (by omega) (by omega) (by omega)
              · rw [if_neg (fun y => y.elim m0 f)]
                by_cases g16 : 16 ≤ nx + 1 + k
                · rw [if_pos (Or.inl g16), un_16 (by omega) hw g16 (by omega)]
                  exact ⟨0, M', rfl, hr'.2, Or.inl ⟨rfl, rfl⟩⟩
                · have q2 := h (b + (nx + 1 + k)) (by omega)
                  rw [un_b e13' hb (by omega) hw (by omega)]
                  unfold fR_unpack_87 fR_unpack_136 fR_unpack_164
                  rw [meq_f ⟨by decide, by decide⟩ rI_0 (by decide), meq_t (b := 0) ⟨by omega, by omega⟩ rI_0 (by omega), meq_f ⟨by omega, by omega⟩ rI_0 (by omega), meq_f ⟨by decide, by decide⟩ rI_0 (by decide), mlt_f (a := 0) rI_0 ⟨by omega, by omega⟩ (by omega), meq_f ⟨by decide, by decide⟩ rI_0 (by decide)]
                  have e191 : ∀ M'', fR_unpack_191 (fR_unpack_43 (fw + 1)) FU (b : Int) (w : Int) (((nx + 1 + k : Nat) : Int) + 1) (l1.length : Int) ((0 : Nat) : Int) (((d (b + nx)).toNat % 16 : Nat) : Int) 0 (d (b + (nx + 1 + k))) 0 M'' = some (0, M'') := fun M'' => by
                    rw [show FU = 1999 + 1 from rfl, fR_unpack_191]
                    rw [meq_t rI_0 rI_0 rfl, un_0]
                  by_cases z2 : (d (b + (nx + 1 + k))).toNat = 0
                  · rw [mlt_f rI_0 (rB q2) (by omega), e191, if_pos (Or.inr (Or.inl z2))]
                    exact ⟨0, M', rfl, hr'.2, Or.inl ⟨rfl, rfl⟩⟩
                  · rw [mlt_t rI_0 (rB q2) (by omega)]
                    by_cases z3 : l1.length < (d (b + (nx + 1 + k))).toNat
                    · rw [mlt_t ⟨by omega, by omega⟩ (rB q2) (by omega), e191, if_pos (Or.inr (Or.inr z3))]
                      exact ⟨0, M', rfl, hr'.2, Or.inl ⟨rfl, rfl⟩⟩
                    · rw [mlt_f ⟨by omega, by omega⟩ (rB q2) (by omega), if_neg (by omega)]
                      have hm1 : min ((d (b + nx)).toNat % 16 + 2) (w - l1.length) ≤ w - l1.length := Nat.min_le_right _ _
                      have hm2 : min ((d (b + nx)).toNat % 16 + 2) (w - l1.length) ≤ (d (b + nx)).toNat % 16 + 2 := Nat.min_le_left _ _
                      have hm3 : min ((d (b + nx)).toNat % 16 + 2) (w - l1.length) = (d (b + nx)).toNat % 16 + 2 ∨ min ((d (b + nx)).toNat % 16 + 2) (w - l1.length) = w - l1.length := by omega
                      generalize min ((d (b + nx)).toNat % 16 + 2) (w - l1.length) = k2 at hm1 hm2 hm3 ⊢
                      rw [show d (b + (nx + 1 + k)) = (((d (b + (nx + 1 + k))).toNat : Nat) : Int) by omega]
                      generalize (d (b + (nx + 1 + k))).toNat = ds at z2 z3 ⊢
                      refine un_cp hw (fun q => ∃ (g : Int) (M' : Mm), q = some (g, M') ∧ Vf M0 M' g _ w) (m := (d (b + nx)).toNat % 16) (by omega) k2 FU 0 l1 M' hr' (by omega) (by omega) (by omega) (by omega) (by omega) (by unfold FU; omega) (fun M'' hr'' => ?_)
                      have hlen2 := cpy_len ds k2 l1
                      rw [← hlen2, show ((nx + 1 + k : Nat) : Int) + 1 = ((nx + 1 + k + 1 : Nat) : Int) by omega, Int.toNat_natCast]
                      exact un_v h hd hb hw n (fw + 1) _ (nx + 1 + k + 1) M'' hr'' (by omega) (by omega) (by omega) (by omega)
end U2
