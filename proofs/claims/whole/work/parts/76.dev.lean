/-! stat, find: both sides alike -/
def Sm (cs : List Nat) (fx : Mm → Option (Nat × Int × Mm)) (fr : Mm → Option (Int × Mm)) (X R : Mm) : Prop := ∃ (c : Nat) (v v' : Int), fx X = some (c, v, X) ∧ (c = 0 ∨ c ∈ cs) ∧ (c = 0 → rI v ∧ v' = v) ∧ fr R = some (v', st R 0 0 (wrc cs c))
theorem MY.code {M : Mm} {d : Nat → Int} {sl us c : Int} {bg : Nat → Int} (h : MY M d sl us bg) : MY (st M 0 0 c) d sl us bg := by
  obtain ⟨h1, h2, h3, h4⟩ := h
  exact ⟨by rw [st_ne (by decide)]; exact h1, by rw [st_off (by decide)]; exact h2, by rw [st_off (by decide)]; exact h3, fun i hi => by rw [st_ne (by decide)]; exact h4 i hi⟩
section D5
variable {d : Nat → Int} {X R M : Mm} {i : Nat} {sl us : Int} {bg : Nat → Int} {x w : Int}
theorem inode_vX (h : Ok d sl us bg) (hM : MX M d sl us bg) (hm : M 16 2 = 1) (hx : rI x) : fX_demandInode x M = some (if In sl bg x then 0 else 3, 0, M) := by
  unfold fX_demandInode fX_demandMounted
  rw [hm, meq_f ⟨by decide, by decide⟩ rI_0 (by decide), mcx_t, mcn_e (isInode_vX h hM hx)]
  by_cases a : In sl bg x
  · rw [if_pos a, meq_f ⟨by decide, by decide⟩ rI_0 (by decide), if_pos a]
  · rw [if_neg a, meq_t rI_0 rI_0 rfl, if_neg a]
theorem inode_uX (hm : M 16 2 = 0) : fX_demandInode x M = some (2, 0, M) := by
  unfold fX_demandInode fX_demandMounted
  rw [hm, meq_t rI_0 rI_0 rfl, mcx_x rfl (fun z => nomatch (show (2 : Nat) = 0 from z))]
theorem rB {v : Int} (h : 0 ≤ v ∧ v ≤ 255) : rI v := ⟨by omega, by omega⟩
theorem stat_m (h : Ok d sl us bg) (hX : MX X d sl us bg) (hR : MY R d sl us bg) (hm : X 16 2 = 1) (hm' : R 0 17 = 1) (hx : rI x) (hw : rI w) : Sm [2, 3, 1] (fX_stat x w) (fR_stat x w) X R := by
  have r1 : rI 1 := ⟨by decide, by decide⟩
  have n1 : ¬ (1 : Int) = 0 := by decide
  unfold Sm fX_stat fR_stat
  rw [hm', meq_f r1 rI_0 n1, mcn_e (isInode_vR h hR hx)]
  by_cases a : In sl bg x
  · obtain ⟨i, e1, e2, e3, e4⟩ := In.nat h a
    have hb := badX h hX a
    have hb' := badR h (hR.code (c := 0)) a
    have hR' := hR.code (c := 0)
    rw [mcx_e (by rw [inode_vX h hX hm hx, if_pos a]), if_pos a, meq_f r1 rI_0 n1]
    unfold fR_stat_33
    have e3R : fR_stat_38 x w 3 R = some (0, st R 0 0 3) := by
      unfold fR_stat_38
      rw [mput_t, st_same, mlt_t rI_0 ⟨by decide, by decide⟩ (by decide)]
    by_cases w0 : w < 0
    · rw [mlt_t hw rI_0 w0, meq_f hw rI_0 (by omega), meq_f hw r1 (by omega), meq_f hw ⟨by decide, by decide⟩ (by omega), meq_f hw ⟨by decide, by decide⟩ (by omega), meq_f hw ⟨by decide, by decide⟩ (by omega), meq_f hw ⟨by decide, by decide⟩ (by omega)]
      exact ⟨1, 0, 0, rfl, Or.inr (by decide), fun z => absurd z (by decide), e3R⟩
    · rw [mlt_f hw rI_0 w0]
      by_cases w5 : 5 < w
      · rw [mlt_t ⟨by decide, by decide⟩ hw w5, meq_f hw rI_0 (by omega), meq_f hw r1 (by omega), meq_f hw ⟨by decide, by decide⟩ (by omega), meq_f hw ⟨by decide, by decide⟩ (by omega), meq_f hw ⟨by decide, by decide⟩ (by omega), meq_f hw ⟨by decide, by decide⟩ (by omega)]
        exact ⟨1, 0, 0, rfl, Or.inr (by decide), fun z => absurd z (by decide), e3R⟩
      · rw [mlt_f ⟨by decide, by decide⟩ hw w5]
        unfold fR_stat_38
        rw [mput_t, st_same, mlt_f rI_0 rI_0 (by decide)]
        rw [e2] at hb hb'
        subst e1
        rcases (show w = 0 ∨ w = 1 ∨ w = 2 ∨ w = 3 ∨ w = 4 ∨ w = 5 by omega) with rfl | rfl | rfl | rfl | rfl | rfl
        · simp (disch := omega) only [↓mlt_t, ↓mlt_f, ↓meq_t, ↓meq_f, ↓mrd_t, ↓mwr_t, ↓mput_t, ↓mdiv_t, ↓mrem_t, ↓mcn_t, ↓mcx_t, ↓mz_t, ↓mpuz_t, ↓mwz_t, ↓mshr_t, ↓mcp_t]
          rw [mcn_e (kind_vX h.1 hX.1 e3), mcn_e (tag_vR h.1 hR'.1 e3 (Or.inl rfl)), if_pos rfl]
          exact ⟨0, _, _, rfl, Or.inl rfl, fun _ => ⟨by have := h.1.kn_ e3; exact ⟨by omega, by omega⟩, rfl⟩, rfl⟩
        · simp (disch := omega) only [↓mlt_t, ↓mlt_f, ↓meq_t, ↓meq_f, ↓mrd_t, ↓mwr_t, ↓mput_t, ↓mdiv_t, ↓mrem_t, ↓mcn_t, ↓mcx_t, ↓mz_t, ↓mpuz_t, ↓mwz_t, ↓mshr_t, ↓mcp_t]
          rw [mcn_e (lay_vX h.1 hX.1 e3), mcn_e (tag_vR h.1 hR'.1 e3 (Or.inr rfl)), if_neg (by decide)]
          exact ⟨0, _, _, rfl, Or.inl rfl, fun _ => ⟨by have := h.1.ly_ e3; exact ⟨by omega, by omega⟩, rfl⟩, rfl⟩
        · simp (disch := omega) only [↓mlt_t, ↓mlt_f, ↓meq_t, ↓meq_f, ↓mrd_t, ↓mwr_t, ↓mput_t, ↓mdiv_t, ↓mrem_t, ↓mcn_t, ↓mcx_t, ↓mz_t, ↓mpuz_t, ↓mwz_t, ↓mshr_t, ↓mcp_t]
          rw [mcn_e (size_vX hX.1 e3), mcn_e (size_vR hR'.1 e3)]
          exact ⟨0, _, _, rfl, Or.inl rfl, fun _ => ⟨rB (h.1.sz_ e3), rfl⟩, rfl⟩
        · simp (disch := omega) only [↓mlt_t, ↓mlt_f, ↓meq_t, ↓meq_f, ↓mrd_t, ↓mwr_t, ↓mput_t, ↓mdiv_t, ↓mrem_t, ↓mcn_t, ↓mcx_t, ↓mz_t, ↓mpuz_t, ↓mwz_t, ↓mshr_t, ↓mcp_t]
          rw [mcn_e (count_vX hX.1 e3), hR'.1, show (16 + 8 * (i : Int) + 3).toNat = 16 + 8 * i + 3 by omega]
          exact ⟨0, _, _, rfl, Or.inl rfl, fun _ => ⟨rB (h.1 _ (by omega)), rfl⟩, rfl⟩
        · simp (disch := omega) only [↓mlt_t, ↓mlt_f, ↓meq_t, ↓meq_f, ↓mrd_t, ↓mwr_t, ↓mput_t, ↓mdiv_t, ↓mrem_t, ↓mcn_t, ↓mcx_t, ↓mz_t, ↓mpuz_t, ↓mwz_t, ↓mshr_t, ↓mcp_t]
          rw [mcn_e (first_vX hX.1 e3), mcn_e (first_vR hR'.1 e3)]
          exact ⟨0, _, _, rfl, Or.inl rfl, fun _ => ⟨rB (h.1.fb_ e3), rfl⟩, rfl⟩
        · simp (disch := omega) only [↓mlt_t, ↓mlt_f, ↓meq_t, ↓meq_f, ↓mrd_t, ↓mwr_t, ↓mput_t, ↓mdiv_t, ↓mrem_t, ↓mcn_t, ↓mcx_t, ↓mz_t, ↓mpuz_t, ↓mwz_t, ↓mshr_t, ↓mcp_t]
          rw [mcn_e hb, mcn_e hb']
          by_cases bb : Bad d sl us i
          · rw [if_pos bb, meq_f r1 rI_0 n1, meq_f r1 rI_0 n1]
            exact ⟨0, _, _, rfl, Or.inl rfl, fun _ => ⟨r1, rfl⟩, rfl⟩
          · rw [if_neg bb, meq_t rI_0 rI_0 rfl, meq_t rI_0 rI_0 rfl]
            exact ⟨0, _, _, rfl, Or.inl rfl, fun _ => ⟨rI_0, rfl⟩, rfl⟩
  · rw [mcx_x (by rw [inode_vX h hX hm hx, if_neg a]) (fun z => nomatch (show (3 : Nat) = 0 from z)), if_neg a, meq_t rI_0 rI_0 rfl]
    unfold fR_stat_38
    rw [mput_t, st_same, mlt_t rI_0 ⟨by decide, by decide⟩ (by decide)]
    exact ⟨3, 0, 0, rfl, Or.inr (by decide), fun z => absurd z (by decide), rfl⟩
theorem stat_u (hm : X 16 2 = 0) (hm' : R 0 17 = 0) : Sm [2, 3, 1] (fX_stat x w) (fR_stat x w) X R := by
  unfold Sm fX_stat fR_stat
  rw [hm', meq_t rI_0 rI_0 rfl, mcx_x (inode_uX hm) (fun z => nomatch (show (2 : Nat) = 0 from z))]
  unfold fR_stat_38
  rw [mput_t, st_same, mlt_t rI_0 ⟨by decide, by decide⟩ (by decide)]
  exact ⟨2, 0, 0, rfl, Or.inr (by decide), fun z => absurd z (by decide), rfl⟩
/-- looking a name up -/
def lk (d : Nat → Int) (i : Nat) (nm : Int) : Nat → Nat → Nat → Int
  | 0, _, _ => -1
  | n + 1, f, t => if f < t then (if bt d i (3 * ((f + t) / 2)) = nm then bt d i (3 * ((f + t) / 2) + 1) else if nm < bt d i (3 * ((f + t) / 2)) then lk d i nm n f ((f + t) / 2) else lk d i nm n ((f + t) / 2 + 1) t) else -1
theorem lk_r (h : Ok d sl us bg) (hg : Go d sl us bg (i : Int)) (hl : ¬ ly d i = 2) (nm : Int) : ∀ (n f t : Nat), (3 * t : Int) ≤ sz d i → -1 ≤ lk d i nm n f t ∧ lk d i nm n f t ≤ 255
  | 0, _, _, _ => ⟨Int.le_refl _, by unfold lk; decide⟩
  | n + 1, f, t, ht => by
    unfold lk
    by_cases a : f < t
    · rw [if_pos a]
      by_cases b : bt d i (3 * ((f + t) / 2)) = nm
      · rw [if_pos b]
        have := bt_r h hg hl (k := 3 * ((f + t) / 2) + 1) (by omega)
        omega
      · rw [if_neg b]
        by_cases c : nm < bt d i (3 * ((f + t) / 2))
        · rw [if_pos c]; exact lk_r h hg hl nm n _ _ (by omega)
        · rw [if_neg c]; exact lk_r h hg hl nm n _ _ (by omega)
    · rw [if_neg a]; decide
theorem look_vX (h : Ok d sl us bg) (hM : MX M d sl us bg) (hg : Go d sl us bg (i : Int)) (hl : ¬ ly d i = 2) {nm : Int} (hn : rI nm) : ∀ (n fu f t lo : Nat), t - f ≤ n → n < fu → lo + n ≤ 254 → f ≤ 85 → t ≤ 85 → (3 * t : Int) ≤ sz d i → fDe_lookUp_14 fu (i : Int) nm (f : Int) (t : Int) (lo : Int) M = some (lk d i nm n f t, M)
  | _, 0, _, _, _, _, hf, _, _, _, _ => absurd hf (Nat.not_lt_zero _)
  | 0, fu + 1, f, t, lo, h0, _, hlo, h84, h85, ht => by
    unfold fDe_lookUp_14 lk
    rw [mlt_t ⟨by omega, by omega⟩ ⟨by decide, by decide⟩ (by omega), mlt_f ⟨by omega, by omega⟩ ⟨by omega, by omega⟩ (by omega)]
  | n + 1, fu + 1, f, t, lo, h0, hf, hlo, h84, h85, ht => by
    unfold fDe_lookUp_14 lk
    rw [mlt_t ⟨by omega, by omega⟩ ⟨by decide, by decide⟩ (by omega)]
    by_cases a : f < t
    · have q := bt_r h hg hl (k := 3 * ((f + t) / 2)) (by omega)
      rw [mlt_t ⟨by omega, by omega⟩ ⟨by omega, by omega⟩ (by omega), if_pos a, mdiv_t ⟨by omega, by omega, by omega, by omega⟩, show ((f : Int) + (t : Int)) / 2 = (((f + t) / 2 : Nat) : Int) by omega, mcn_e (data_vX h hM hg hl (k := 3 * ((f + t) / 2)) (by omega) (by omega))]
      by_cases b : bt d i (3 * ((f + t) / 2)) = nm
      · rw [meq_t (rB q) hn b, if_pos b, mcn_e (data_vX h hM hg hl (k := 3 * ((f + t) / 2) + 1) (by omega) (by omega))]
      · rw [meq_f (rB q) hn b, if_neg b]
        by_cases c : nm < bt d i (3 * ((f + t) / 2))
        · rw [mlt_t hn (rB q) c, if_pos c, show (lo : Int) + 1 = ((lo + 1 : Nat) : Int) by omega]
          exact look_vX h hM hg hl hn n fu _ _ _ (by omega) (by omega) (by omega) (by omega) (by omega) (by omega)
        · rw [mlt_f hn (rB q) c, if_neg c, show (lo : Int) + 1 = ((lo + 1 : Nat) : Int) by omega, show (((f + t) / 2 : Nat) : Int) + 1 = (((f + t) / 2 + 1 : Nat) : Int) by omega]
          exact look_vX h hM hg hl hn n fu _ _ _ (by omega) (by omega) (by omega) (by omega) (by omega) (by omega)
    · rw [mlt_f ⟨by omega, by omega⟩ ⟨by omega, by omega⟩ (by omega), if_neg a]
theorem look_vR (h : Ok d sl us bg) (hM : MY M d sl us bg) (hg : Go d sl us bg (i : Int)) (hl : ¬ ly d i = 2) {nm : Int} (hn : rI nm) : ∀ (n fu f t : Nat), t - f ≤ n → n + 1 < fu → f ≤ 85 → t ≤ 85 → (3 * t : Int) ≤ sz d i → fR_search_14 fu (i : Int) nm (f : Int) (t : Int) (-1) M = some (lk d i nm n f t, M)
  | _, 0, _, _, _, hf, _, _, _ => absurd hf (Nat.not_lt_zero _)
  | 0, fu + 1, f, t, h0, _, h84, h85, ht => by
    unfold fR_search_14 lk
    rw [meq_t ⟨by decide, by decide⟩ ⟨by decide, by decide⟩ rfl, mlt_f ⟨by omega, by omega⟩ ⟨by omega, by omega⟩ (by omega)]
  | n + 1, fu + 1, f, t, h0, hf, h84, h85, ht => by
    unfold fR_search_14 lk
    rw [meq_t ⟨by decide, by decide⟩ ⟨by decide, by decide⟩ rfl]
    by_cases a : f < t
    · have q := bt_r h hg hl (k := 3 * ((f + t) / 2)) (by omega)
      rw [mlt_t ⟨by omega, by omega⟩ ⟨by omega, by omega⟩ (by omega), if_pos a, mdiv_t ⟨by omega, by omega, by omega, by omega⟩, show ((f : Int) + (t : Int)) / 2 = (((f + t) / 2 : Nat) : Int) by omega, mcn_e (byte_vR h hM hg hl (k := 3 * ((f + t) / 2)) (by omega) (by omega))]
      unfold fR_search_66 fR_search_81
      by_cases b : bt d i (3 * ((f + t) / 2)) = nm
      · have q2 := bt_r h hg hl (k := 3 * ((f + t) / 2) + 1) (by omega)
        rw [meq_t (rB q) hn b, if_pos b, mcn_e (byte_vR h hM hg hl (k := 3 * ((f + t) / 2) + 1) (by omega) (by omega)), mlt_f hn (rB q) (by omega), mlt_f (rB q) hn (by omega)]
        obtain ⟨fv, rfl⟩ : ∃ fv, fu = fv + 1 := ⟨fu - 1, by omega⟩
        unfold fR_search_14
        rw [meq_f (rB q2) ⟨by decide, by decide⟩ (by omega)]
      · rw [meq_f (rB q) hn b, if_neg b]
        by_cases c : nm < bt d i (3 * ((f + t) / 2))
        · rw [mlt_t hn (rB q) c, mlt_f (rB q) hn (by omega), if_pos c]
          exact look_vR h hM hg hl hn n fu _ _ (by omega) (by omega) (by omega) (by omega) (by omega)
        · rw [mlt_f hn (rB q) c, mlt_t (rB q) hn (by omega), if_neg c, show (((f + t) / 2 : Nat) : Int) + 1 = (((f + t) / 2 + 1 : Nat) : Int) by omega]
          exact look_vR h hM hg hl hn n fu _ _ (by omega) (by omega) (by omega) (by omega) (by omega)
    · rw [mlt_f ⟨by omega, by omega⟩ ⟨by omega, by omega⟩ (by omega), if_neg a]
/-- the whole lookup -/
def lks (d : Nat → Int) (i : Nat) (nm : Int) : Int := lk d i nm 85 0 (sz d i / 3).toNat
theorem lookUp_v (h : Ok d sl us bg) (hM : MX M d sl us bg) (hg : Go d sl us bg (i : Int)) (hl : ¬ ly d i = 2) {nm : Int} (hn : rI nm) : fDe_lookUp (i : Int) nm M = some (lks d i nm, M) := by
  obtain ⟨j, e1, e2, e3, e4⟩ := In.nat h hg.1
  have q := h.1.sz_ (i := i) (by omega)
  unfold fDe_lookUp lks
  rw [mcn_e (size_vX hM.1 (by omega)), mdiv_t ⟨by omega, by omega, by omega, by omega⟩]
  have := look_vX h hM hg hl hn 85 FU 0 (sz d i / 3).toNat 0 (by omega) (by unfold FU; omega) (by omega) (by omega) (by omega) (by omega)
  rw [show (((sz d i / 3).toNat : Nat) : Int) = sz d i / 3 by omega] at this
  exact this
theorem search_v (h : Ok d sl us bg) (hM : MY M d sl us bg) (hg : Go d sl us bg (i : Int)) (hl : ¬ ly d i = 2) {nm : Int} (hn : rI nm) : fR_search (i : Int) nm M = some (lks d i nm, M) := by
  obtain ⟨j, e1, e2, e3, e4⟩ := In.nat h hg.1
  have q := h.1.sz_ (i := i) (by omega)
  unfold fR_search lks
  rw [mcn_e (size_vR hM.1 (by omega)), mdiv_t ⟨by omega, by omega, by omega, by omega⟩]
  have := look_vR h hM hg hl hn 85 FU 0 (sz d i / 3).toNat (by omega) (by unfold FU; omega) (by omega) (by omega) (by omega)
  rw [show (((sz d i / 3).toNat : Nat) : Int) = sz d i / 3 by omega] at this
  exact this
theorem lks_r (h : Ok d sl us bg) (hg : Go d sl us bg (i : Int)) (hl : ¬ ly d i = 2) (nm : Int) : -1 ≤ lks d i nm ∧ lks d i nm ≤ 255 := by
  obtain ⟨j, e1, e2, e3, e4⟩ := In.nat h hg.1
  have q := h.1.sz_ (i := i) (by omega)
  exact lk_r h hg hl nm 85 0 _ (by omega)
/-- a good directory or link is not packed -/
theorem Go.np (hg : Go d sl us bg (i : Int)) (hk : ¬ kn d i = 1) : ¬ ly d i = 2 := fun z => hg.2 (Or.inr (Or.inr (Or.inr (Or.inr (Or.inl ⟨z, Or.inl hk⟩)))))
theorem find_m (h : Ok d sl us bg) (hX : MX X d sl us bg) (hR : MY R d sl us bg) (hm : X 16 2 = 1) (hm' : R 0 17 = 1) (hx : rI x) (hw : rI w) : Sm [2, 3, 1] (fX_find x w) (fR_find x w) X R := by
  have r1 : rI 1 := ⟨by decide, by decide⟩
  have n1 : ¬ (1 : Int) = 0 := by decide
  unfold Sm fX_find fR_find
  rw [hm', meq_f r1 rI_0 n1, mcn_e (isInode_vR h hR hx)]
  have e50 : ∀ z : Int, 0 < z → z < 10 → fR_find_50 x w z R = some (0, st R 0 0 z) := fun z h0 h1 => by
    unfold fR_find_50
    rw [mput_t, st_same, mlt_t rI_0 ⟨by omega, by omega⟩ h0]
  by_cases a : In sl bg x
  · obtain ⟨i, e1, e2, e3, e4⟩ := In.nat h a
    have hb' := badR h hR a
    rw [e2] at hb'
    have qk := h.1.kn_ e3
    subst e1
    rw [mcx_e (by rw [inode_vX h hX hm hx, if_pos a]), if_pos a, meq_f r1 rI_0 n1, mcn_e (kind_vX h.1 hX.1 e3), mcn_e (tag_vR h.1 hR.1 e3 (Or.inl rfl)), if_pos rfl]
    by_cases k0 : kn d i = 0
    · rw [meq_t ⟨by omega, by omega⟩ rI_0 k0, meq_t ⟨by omega, by omega⟩ rI_0 k0, mcn_e hb']
      by_cases bb : Bad d sl us i
      · rw [if_pos bb, meq_f r1 rI_0 n1, mcx_x (by rw [good_vX h hX hx, if_neg (fun z => z.2 bb)]) (fun z => nomatch (show (2 : Nat) = 0 from z)), e50 1 (by decide) (by decide)]
        exact ⟨2, 0, 0, rfl, Or.inr (by decide), fun z => absurd z (by decide), rfl⟩
      · have hg : Go d sl us bg (i : Int) := ⟨a, bb⟩
        have hl := hg.np (by omega)
        have hr := lks_r h hg hl w
        rw [if_neg bb, meq_t rI_0 rI_0 rfl, mcx_e (by rw [good_vX h hX hx, if_pos hg]), mcn_e (lookUp_v h hX hg hl hw)]
        unfold fR_find_50
        rw [mput_t, st_same, mlt_f rI_0 rI_0 (by decide), mcn_e (search_v h (hR.code (c := 0)) hg hl hw)]
        exact ⟨0, _, _, rfl, Or.inl rfl, fun _ => ⟨⟨by omega, by omega⟩, rfl⟩, rfl⟩
    · rw [meq_f ⟨by omega, by omega⟩ rI_0 k0, meq_f ⟨by omega, by omega⟩ rI_0 k0, e50 3 (by decide) (by decide)]
      exact ⟨1, 0, 0, rfl, Or.inr (by decide), fun z => absurd z (by decide), rfl⟩
  · rw [mcx_x (by rw [inode_vX h hX hm hx, if_neg a]) (fun z => nomatch (show (3 : Nat) = 0 from z)), if_neg a, meq_t rI_0 rI_0 rfl, e50 2 (by decide) (by decide)]
    exact ⟨3, 0, 0, rfl, Or.inr (by decide), fun z => absurd z (by decide), rfl⟩
theorem find_u (hm : X 16 2 = 0) (hm' : R 0 17 = 0) : Sm [2, 3, 1] (fX_find x w) (fR_find x w) X R := by
  unfold Sm fX_find fR_find
  rw [hm', meq_t rI_0 rI_0 rfl, mcx_x (inode_uX hm) (fun z => nomatch (show (2 : Nat) = 0 from z))]
  unfold fR_find_50
  rw [mput_t, st_same, mlt_t rI_0 ⟨by decide, by decide⟩ (by decide)]
  exact ⟨2, 0, 0, rfl, Or.inr (by decide), fun z => absurd z (by decide), rfl⟩
end D5
