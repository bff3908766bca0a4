/-! mount: both sides alike -/
def nx (d : Nat → Int) (sl : Int) : Nat → Int
  | 0 => 0
  | i + 1 => if (i : Int) = nx d sl i ∧ (i : Int) + 1 + lg d i ≤ sl then (i : Int) + 1 + lg d i else nx d sl i
def bgf (d : Nat → Int) (sl : Int) (i : Nat) : Int := if (i : Int) = nx d sl i ∧ (i : Int) + 1 + lg d i ≤ sl then 1 else 0
def ctf (d : Nat → Int) (sl : Int) : Nat → Int
  | 0 => 0
  | i + 1 => ctf d sl i + bgf d sl i
section Q2
variable {d : Nat → Int} {X R M : Mm} {sl : Int}
theorem lg_r (i : Nat) : 0 ≤ lg d i ∧ lg d i ≤ 1 := by unfold lg; omega
theorem bg_r (i : Nat) : bgf d sl i = 0 ∨ bgf d sl i = 1 := by unfold bgf; split <;> simp
theorem ct_r : ∀ i : Nat, 0 ≤ ctf d sl i ∧ ctf d sl i ≤ i
  | 0 => ⟨Int.le_refl _, Int.le_refl _⟩
  | i + 1 => by
    have := ct_r i
    have h := bg_r (d := d) (sl := sl) i
    unfold ctf
    omega
theorem nx_r : ∀ i : Nat, 0 ≤ nx d sl i ∧ nx d sl i ≤ i + 1
  | 0 => ⟨Int.le_refl _, by unfold nx; omega⟩
  | i + 1 => by
    have := nx_r i
    have := lg_r (d := d) i
    unfold nx
    split <;> omega
theorem ct_s (hs : sl ≤ 126) : ∀ k : Nat, ctf d sl (126 + k) = ctf d sl 126
  | 0 => rfl
  | k + 1 => by
    have := lg_r (d := d) (126 + k)
    have hb : bgf d sl (126 + k) = 0 := by unfold bgf; rw [if_neg (by omega)]
    show ctf d sl (126 + k) + bgf d sl (126 + k) = _
    rw [hb, ct_s hs k]
    omega
theorem mark_X (h : Db d) (hs : 0 ≤ sl ∧ sl ≤ 126) : ∀ (n fu i : Nat) (M : Mm), i + n = 126 → n < fu → M 17 = d → M 16 3 = sl → M 16 5 = ctf d sl i → (∀ j, j < i → M 18 j = bgf d sl j) → ∃ M', fDe_markInodes_9 fu (nx d sl i) (i : Int) M = some (0, M') ∧ (∀ j, j < 126 → M' 18 j = bgf d sl j) ∧ M' 16 5 = ctf d sl 126 ∧ (∀ p, p ≠ 16 → p ≠ 18 → M' p = M p) ∧ ∀ k, k ≠ 5 → M' 16 k = M 16 k
  | _, 0, _, _, _, hf, _, _, _, _ => absurd hf (Nat.not_lt_zero _)
  | 0, fu + 1, i, M, hi, _, h17, h3, h5, h18 => by
    have ei : i = 126 := by omega
    subst ei
    unfold fDe_markInodes_9
    rw [mlt_f ⟨by omega, by omega⟩ ⟨by decide, by decide⟩ (by omega)]
    exact ⟨M, rfl, h18, h5, fun _ _ _ => rfl, fun _ _ => rfl⟩
  | n + 1, fu + 1, i, M, hi, hf, h17, h3, h5, h18 => by
    have qn := nx_r (d := d) (sl := sl) i
    have qg := lg_r (d := d) i
    have qc := ct_r (d := d) (sl := sl) i
    rw [fDe_markInodes_9]
    have key : ∀ z1 : Int, z1 = 1 + lg d i → ∃ M', fDe_markInodes_29 (fDe_markInodes_9 fu) (nx d sl i) (i : Int) (i : Int) z1 M = some (0, M') ∧ (∀ j, j < 126 → M' 18 j = bgf d sl j) ∧ M' 16 5 = ctf d sl 126 ∧ (∀ p, p ≠ 16 → p ≠ 18 → M' p = M p) ∧ ∀ k, k ≠ 5 → M' 16 k = M 16 k := fun z1 hz => by
      have e18 : ∀ (v : Int) (Q : Mm), v = bgf d sl i → (∀ j, Q 18 j = st M 18 i v 18 j) → ∀ j, j < i + 1 → Q 18 j = bgf d sl j := fun v Q hv hQ j hj => by
        rw [hQ]
        by_cases e : j = i
        · rw [e, st_same]; exact hv
        · rw [st_off e]; exact h18 j (by omega)
      have e53 : ¬ ((i : Int) = nx d sl i ∧ (i : Int) + 1 + lg d i ≤ sl) → ∀ y3 : Int, ∃ M', fDe_markInodes_54 (fDe_markInodes_9 fu) (nx d sl i) (i : Int) y3 (i : Int) 0 M = some (0, M') ∧ (∀ j, j < 126 → M' 18 j = bgf d sl j) ∧ M' 16 5 = ctf d sl 126 ∧ (∀ p, p ≠ 16 → p ≠ 18 → M' p = M p) ∧ ∀ k, k ≠ 5 → M' 16 k = M 16 k := fun hn y3 => by
        have hb : bgf d sl i = 0 := by unfold bgf; rw [if_neg hn]
        have hx : nx d sl (i + 1) = nx d sl i := by show (if _ then _ else _) = _; rw [if_neg hn]
        obtain ⟨M', f1, f2, f3, f4, f5⟩ := mark_X h hs n fu (i + 1) (st M 18 i 0) (by omega) (by omega) (by rw [st_ne (by decide)]; exact h17) (by rw [st_ne (by decide)]; exact h3) (by rw [st_ne (by decide), h5]; show _ = ctf d sl i + bgf d sl i; rw [hb]; omega) (e18 0 _ hb.symm (fun j => rfl))
        rw [hx] at f1
        unfold fDe_markInodes_54
        rw [mwz_t ⟨⟨by omega, by omega⟩, by omega, by omega⟩, mrd_t ⟨by omega, by omega⟩, show (((i : Nat) : Int)).toNat = i by omega, st_same, meq_t rI_0 rI_0 rfl, show (i : Int) + 1 = ((i + 1 : Nat) : Int) by omega]
        refine ⟨M', f1, f2, f3, fun p a b => ?_, fun k a => ?_⟩
        · rw [f4 p a b, st_ne b]
        · rw [f5 k a, st_ne (by decide)]
      unfold fDe_markInodes_29 fDe_markInodes_53
      by_cases a : (i : Int) = nx d sl i
      · rw [meq_t ⟨by omega, by omega⟩ ⟨by omega, by omega⟩ a, h3]
        by_cases b : sl < (i : Int) + z1
        · rw [mlt_t ⟨by omega, by omega⟩ ⟨by omega, by omega⟩ b]
          exact e53 (by omega) _
        · rw [mlt_f ⟨by omega, by omega⟩ ⟨by omega, by omega⟩ b]
          have hy : (i : Int) = nx d sl i ∧ (i : Int) + 1 + lg d i ≤ sl := ⟨a, by omega⟩
          have hb : bgf d sl i = 1 := by unfold bgf; rw [if_pos hy]
          have hx : nx d sl (i + 1) = (i : Int) + 1 + lg d i := by show (if _ then _ else _) = _; rw [if_pos hy]
          obtain ⟨M', f1, f2, f3, f4, f5⟩ := mark_X h hs n fu (i + 1) (st (st M 18 i 1) 16 5 (st M 18 i 1 16 5 + 1)) (by omega) (by omega) (by rw [st_ne (by decide), st_ne (by decide)]; exact h17) (by rw [st_off (by decide), st_ne (by decide)]; exact h3) (by rw [st_same, st_ne (by decide), h5]; show _ = ctf d sl i + bgf d sl i; rw [hb]) (e18 1 _ hb.symm (fun j => by rw [st_ne (by decide)]))
          rw [hx] at f1
          unfold fDe_markInodes_54
          rw [mwz_t ⟨⟨by omega, by omega⟩, by omega, by omega⟩, mrd_t ⟨by omega, by omega⟩, show (((i : Nat) : Int)).toNat = i by omega, st_same, meq_f ⟨by decide, by decide⟩ rI_0 (by decide), mput_t, show (i : Int) + z1 = (i : Int) + 1 + lg d i by omega, show (i : Int) + 1 = ((i + 1 : Nat) : Int) by omega]
          rw [show (i : Int) + 1 = ((i + 1 : Nat) : Int) by omega] at f1
          refine ⟨M', f1, f2, f3, fun p a b => ?_, fun k a => ?_⟩
          · rw [f4 p a b, st_ne a, st_ne b]
          · rw [f5 k a, st_off a, st_ne (by decide)]
      · rw [meq_f ⟨by omega, by omega⟩ ⟨by omega, by omega⟩ a]
        exact e53 (fun z => a z.1) _
    rw [mlt_t ⟨by omega, by omega⟩ ⟨by decide, by decide⟩ (by omega), mcn_e (isLong_vX h h17 (by omega))]
    by_cases g0 : lg d i = 0
    · rw [meq_t ⟨by omega, by omega⟩ rI_0 g0]
      exact key 1 (by omega)
    · rw [meq_f ⟨by omega, by omega⟩ rI_0 g0]
      exact key 2 (by omega)
theorem mark_R (h : Db d) (hs : 0 ≤ sl ∧ sl ≤ 126) : ∀ (n fu i : Nat) (rn : Int) (M : Mm), i + n = 256 → n < fu → M 13 = d → M 0 18 = sl → (∀ j, j < i → M 14 j = bgf d sl j) → ((rn = nx d sl i ∧ (i : Int) ≤ rn) ∨ (nx d sl i < (i : Int) ∧ sl < rn)) → (0 ≤ rn ∧ rn ≤ 300) → ∃ M', fR_mount_83 fu (ctf d sl i) rn (i : Int) M = some (ctf d sl 256, M') ∧ (∀ j, j < 256 → M' 14 j = bgf d sl j) ∧ ∀ p, p ≠ 14 → M' p = M p
  | _, 0, _, _, _, _, hf, _, _, _, _, _ => absurd hf (Nat.not_lt_zero _)
  | 0, fu + 1, i, rn, M, hi, _, h13, h18, h14, _, _ => by
    have ei : i = 256 := by omega
    subst ei
    unfold fR_mount_83
    rw [mlt_f ⟨by omega, by omega⟩ ⟨by decide, by decide⟩ (by omega)]
    exact ⟨M, rfl, h14, fun _ _ => rfl⟩
  | n + 1, fu + 1, i, rn, M, hi, hf, h13, h18, h14, hinv, hrn => by
    have qn := nx_r (d := d) (sl := sl) i
    have qg := lg_r (d := d) i
    have qc := ct_r (d := d) (sl := sl) i
    rw [fR_mount_83]
    have key : ∀ z0 : Int, ((i : Int) < sl → z0 = 1 + lg d i) → (¬ (i : Int) < sl → z0 = 1) → ∃ M', fR_mount_118 (fR_mount_83 fu) (ctf d sl i) rn (i : Int) z0 M = some (ctf d sl 256, M') ∧ (∀ j, j < 256 → M' 14 j = bgf d sl j) ∧ ∀ p, p ≠ 14 → M' p = M p := fun z0 hz1 hz2 => by
      have hz : z0 = 1 ∨ z0 = 2 := by by_cases c : (i : Int) < sl <;> omega
      have step : ∀ z2 : Int, z2 = bgf d sl i → ∃ M', fR_mount_146 (fR_mount_83 fu) (ctf d sl i) rn (i : Int) z0 (i : Int) z2 M = some (ctf d sl 256, M') ∧ (∀ j, j < 256 → M' 14 j = bgf d sl j) ∧ ∀ p, p ≠ 14 → M' p = M p := fun z2 hz2' => by
        have hb := bg_r (d := d) (sl := sl) i
        have hb' : bgf d sl i = if (i : Int) = nx d sl i ∧ (i : Int) + 1 + lg d i ≤ sl then 1 else 0 := rfl
        have hx : nx d sl (i + 1) = if (i : Int) = nx d sl i ∧ (i : Int) + 1 + lg d i ≤ sl then (i : Int) + 1 + lg d i else nx d sl i := rfl
        have hinv' : ((if (i : Int) = rn then (i : Int) + z0 else rn) = nx d sl (i + 1) ∧ ((i + 1 : Nat) : Int) ≤ (if (i : Int) = rn then (i : Int) + z0 else rn)) ∨ (nx d sl (i + 1) < ((i + 1 : Nat) : Int) ∧ sl < (if (i : Int) = rn then (i : Int) + z0 else rn)) := by
          by_cases c : (i : Int) = nx d sl i ∧ (i : Int) + 1 + lg d i ≤ sl
          · rw [if_pos c] at hx
            by_cases c2 : (i : Int) = rn
            · rw [if_pos c2]; omega
            · rw [if_neg c2]; omega
          · rw [if_neg c] at hx
            by_cases c2 : (i : Int) = rn
            · rw [if_pos c2]
              by_cases c3 : (i : Int) < sl <;> omega
            · rw [if_neg c2]; omega
        have ih := mark_R h hs n fu (i + 1) (if (i : Int) = rn then (i : Int) + z0 else rn) (st M 14 i z2) (by omega) (by omega) (by rw [st_ne (by decide)]; exact h13) (by rw [st_ne (by decide)]; exact h18) (fun j hj => by
          by_cases e : j = i
          · rw [e, st_same]; exact hz2'
          · rw [st_off e]; exact h14 j (by omega)) hinv' (by split <;> omega)
        obtain ⟨M', f1, f2, f3⟩ := ih
        have e160 : fR_mount_160 (fR_mount_83 fu) (ctf d sl i) (i : Int) (if (i : Int) = rn then (i : Int) + z0 else rn) (st M 14 i z2) = some (ctf d sl 256, M') := by
          unfold fR_mount_160
          rw [mrd_t ⟨by omega, by omega⟩, show (((i : Nat) : Int)).toNat = i by omega, st_same, show (i : Int) + 1 = ((i + 1 : Nat) : Int) by omega]
          have ec : ctf d sl (i + 1) = ctf d sl i + z2 := by rw [hz2']; rfl
          rw [ec] at f1
          rcases (show z2 = 0 ∨ z2 = 1 by omega) with rfl | rfl
          · rw [meq_t rI_0 rI_0 rfl]; exact f1
          · rw [meq_f (a := 1) ⟨by decide, by decide⟩ rI_0 (by decide)]; exact f1
        unfold fR_mount_146
        rw [mwz_t ⟨⟨by omega, by omega⟩, by omega, by omega⟩, show (((i : Nat) : Int)).toNat = i by omega]
        refine ⟨M', ?_, f2, fun p a => (f3 p a).trans (st_ne a)⟩
        by_cases c2 : (i : Int) = rn
        · rw [if_pos c2] at e160
          rw [meq_t ⟨by omega, by omega⟩ ⟨by omega, by omega⟩ c2]; exact e160
        · rw [if_neg c2] at e160
          rw [meq_f ⟨by omega, by omega⟩ ⟨by omega, by omega⟩ c2]; exact e160
      unfold fR_mount_118 fR_mount_145
      have hbv : bgf d sl i = if (i : Int) = rn ∧ (i : Int) + z0 ≤ sl then 1 else 0 := by
        unfold bgf
        by_cases c : (i : Int) = nx d sl i ∧ (i : Int) + 1 + lg d i ≤ sl
        · rw [if_pos c, if_pos (by omega)]
        · rw [if_neg c, if_neg (by by_cases c3 : (i : Int) < sl <;> omega)]
      by_cases a : (i : Int) = rn
      · rw [meq_t ⟨by omega, by omega⟩ ⟨by omega, by omega⟩ a, h18]
        by_cases b : sl < (i : Int) + z0
        · rw [mlt_t ⟨by omega, by omega⟩ ⟨by omega, by omega⟩ b]
          exact step 0 (by rw [hbv, if_neg (by omega)])
        · rw [mlt_f ⟨by omega, by omega⟩ ⟨by omega, by omega⟩ b]
          exact step 1 (by rw [hbv, if_pos (by omega)])
      · rw [meq_f ⟨by omega, by omega⟩ ⟨by omega, by omega⟩ a]
        exact step 0 (by rw [hbv, if_neg (by omega)])
    rw [mlt_t ⟨by omega, by omega⟩ ⟨by decide, by decide⟩ (by omega), h18]
    by_cases c : (i : Int) < sl
    · have q := h (16 + 8 * i) (by omega)
      rw [mlt_t ⟨by omega, by omega⟩ ⟨by omega, by omega⟩ c, mrd_t ⟨by omega, by omega⟩, h13, show (16 + 8 * (i : Int)).toNat = 16 + 8 * i by omega, mrem_t ⟨by omega, by omega, by omega, by omega⟩]
      exact key _ (fun _ => rfl) (fun z => absurd c z)
    · rw [mlt_f ⟨by omega, by omega⟩ ⟨by omega, by omega⟩ c]
      exact key 1 (fun z => absurd z c) (fun _ => rfl)
end Q2
