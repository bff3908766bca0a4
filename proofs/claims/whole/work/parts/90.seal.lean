/-! seal; is the header right? -/
section Q1
variable {d : Nat → Int} {X R M : Mm}
theorem mb_ {P : Prop} (a b : Nat) (h : b < 256) (k : (a * 256 ||| b) = a * 256 + b → P) : P := k (by
  have := Nat.two_pow_add_eq_or_of_lt (i := 8) (b := b) h a
  rw [show (2 ^ 8 : Nat) = 256 from rfl] at this
  rw [Nat.mul_comm a 256]
  exact this.symm)
theorem put_X {k0 : Nat} (hM : M k0 = d) (hd : ∀ i, i < 14 → 0 ≤ d i ∧ d i ≤ 255) : fX_putHeaderCheck k0 1024 M = some (0, st (st M k0 14 ((crc d 14 0 65535 / 256 : Nat) : Int)) k0 15 ((crc d 14 0 65535 % 256 : Nat) : Int)) := by
  have hl := crc_lt (d := d) 14 0 65535 (by decide)
  unfold fX_putHeaderCheck
  rw [mcn_e (check_X hM hd)]
  generalize crc d 14 0 65535 = c at hl ⊢
  rw [mshr_t ⟨⟨by omega, by omega⟩, by omega, by omega⟩, mwr_t ⟨by omega, by omega⟩, mwr_t ⟨by omega, by omega⟩, show (c : Int) / 2 ^ (8 : Int).toNat = ((c / 256 : Nat) : Int) by show (c : Int) / 256 = _; omega, show (c : Int) % 256 = ((c % 256 : Nat) : Int) by omega]
  rfl
theorem o_seal : Oss Rl fX_seal fR_seal := fun X R h => by
  have hd := h.2.2.1
  have hl := crc_lt (d := R 13) 14 0 65535 (by decide)
  have eX := put_X (M := X) (k0 := 17) h.2.1 (fun i hi => hd i (by omega))
  have e13 : st R 0 0 0 13 = R 13 := st_ne (by decide)
  have eR := check_R (M := st R 0 0 0) e13 (fun i hi => hd i (by omega))
  unfold fX_seal fDe_renewCheck fR_seal
  rw [mcn_e eX, mpuz_t ⟨by omega, by omega⟩, mcn_t, mput_t, mcn_e eR]
  generalize crc (R 13) 14 0 65535 = c at hl ⊢
  rw [mdiv_t ⟨by omega, by omega, by omega, by omega⟩, mwr_t ⟨by omega, by omega⟩, mrem_t ⟨by omega, by omega, by omega, by omega⟩, mwr_t ⟨by omega, by omega⟩, mpuz_t ⟨by omega, by omega⟩, show (c : Int) / 256 = ((c / 256 : Nat) : Int) by omega, show (c : Int) % 256 = ((c % 256 : Nat) : Int) by omega, show (14 : Int).toNat = 14 from rfl, show (15 : Int).toNat = 15 from rfl]
  refine ⟨_, _, _, _, rfl, rfl, h.un (c := 0) (fun p a b => ?_) (fun p a b => ?_) ?_ ?_ ?_ st_same st_same⟩
  · rw [st_ne (by omega), st_ne (by omega), st_ne (by omega)]
  · rw [st_ne (by omega), st_ne (by omega), st_ne (by omega), st_ne (by omega)]
  · rw [st_off (by decide), st_ne (by decide), st_ne (by decide), st_off (by decide)]
  · rw [st_ne (k := 16) (by decide), st_ne (k := 0) (k' := 13) (by decide)]
    funext k
    by_cases e : k = 15
    · rw [e, st_same, st_same]
    · rw [st_off e, st_off e]
      by_cases e' : k = 14
      · rw [e', st_same, st_same]
      · rw [st_off e', st_off e', e13, h.2.1]
  · rw [st_ne (k := 0) (k' := 13) (by decide)]
    intro k hk
    by_cases e : k = 15
    · rw [e, st_same]; omega
    · rw [st_off e]
      by_cases e' : k = 14
      · rw [e', st_same]; omega
      · rw [st_off e', e13]; exact hd k hk
abbrev Hr (d : Nat → Int) : Prop := (d 0 = 225 ∧ d 1 = 245 ∧ 256 * d 14 + d 15 = ((crc d 14 0 65535 : Nat) : Int)) ∧ (d 2 ≤ 7 ∧ 1 ≤ d 4 ∧ d 4 ≤ 64 ∧ 1 ≤ d 3) ∧ 1 + (d 3 + 1) / 2 ≤ d 4
theorem right_X (hM : M 17 = d) (h : Db d) : fDe_isHeaderRight M = some (if Hr d then 1 else 0, M) := by
  have hl := crc_lt (d := d) 14 0 65535 (by decide)
  have q0 := h 0 (by omega)
  have q1 := h 1 (by omega)
  have q2 := h 2 (by omega)
  have q3 := h 3 (by omega)
  have q4 := h 4 (by omega)
  have q14 := h 14 (by omega)
  have q15 := h 15 (by omega)
  have eC := check_X (M := M) hM (fun i hi => h i (by omega))
  have t0 : (0 : Int).toNat = 0 := rfl
  have t1 : (1 : Int).toNat = 1 := rfl
  have t2 : (2 : Int).toNat = 2 := rfl
  have t3 : (3 : Int).toNat = 3 := rfl
  have t4 : (4 : Int).toNat = 4 := rfl
  have t14 : (14 : Int).toNat = 14 := rfl
  have t15 : (15 : Int).toNat = 15 := rfl
  unfold fDe_isHeaderRight
  rw [mrd_t ⟨by omega, by omega⟩, hM, t0]
  by_cases a0 : d 0 = 225
  · rw [meq_t (rB q0) ⟨by decide, by decide⟩ a0, mrd_t ⟨by omega, by omega⟩, hM, t1]
    by_cases a1 : d 1 = 245
    · rw [meq_t (rB q1) ⟨by decide, by decide⟩ a1, mrd_t ⟨by omega, by omega⟩, mrd_t ⟨by omega, by omega⟩, hM, t14, t15, mlor_t ⟨by omega, by omega, by omega, by omega⟩, mcn_e eC]
      refine mb_ (d 14).toNat (d 15).toNat (by omega) (fun e => ?_)
      rw [show (d 14 * 256).toNat = (d 14).toNat * 256 by omega, e, show (((d 14).toNat * 256 + (d 15).toNat : Nat) : Int) = 256 * d 14 + d 15 by omega]
      by_cases a2 : 256 * d 14 + d 15 = ((crc d 14 0 65535 : Nat) : Int)
      · rw [meq_t ⟨by omega, by omega⟩ ⟨by omega, by omega⟩ a2, mrd_t ⟨by omega, by omega⟩, hM, t2]
        by_cases a3 : 7 < d 2
        · rw [mlt_t ⟨by decide, by decide⟩ (rB q2) a3, if_neg (by omega)]
        · rw [mlt_f ⟨by decide, by decide⟩ (rB q2) a3, mrd_t ⟨by omega, by omega⟩, hM, t4]
          by_cases a4 : d 4 < 1
          · rw [mlt_t (rB q4) ⟨by decide, by decide⟩ a4, if_neg (by omega)]
          · rw [mlt_f (rB q4) ⟨by decide, by decide⟩ a4, mrd_t ⟨by omega, by omega⟩, hM, t4]
            by_cases a5 : 64 < d 4
            · rw [mlt_t ⟨by decide, by decide⟩ (rB q4) a5, if_neg (by omega)]
            · rw [mlt_f ⟨by decide, by decide⟩ (rB q4) a5, mrd_t ⟨by omega, by omega⟩, hM, t3]
              by_cases a6 : d 3 < 1
              · rw [mlt_t (rB q3) ⟨by decide, by decide⟩ a6, if_neg (by omega)]
              · rw [mlt_f (rB q3) ⟨by decide, by decide⟩ a6, mrd_t ⟨by omega, by omega⟩, hM, t3, mcn_e (behind_vX ⟨by omega, by omega⟩), mrd_t ⟨by omega, by omega⟩, hM, t4]
                by_cases a7 : d 4 < 1 + (d 3 + 1) / 2
                · rw [mlt_t (rB q4) ⟨by omega, by omega⟩ a7, if_neg (by omega)]
                · rw [mlt_f (rB q4) ⟨by omega, by omega⟩ a7, if_pos ⟨⟨a0, a1, a2⟩, by omega, by omega⟩]
      · rw [meq_f ⟨by omega, by omega⟩ ⟨by omega, by omega⟩ a2, if_neg (fun z => a2 z.1.2.2)]
    · rw [meq_f (rB q1) ⟨by decide, by decide⟩ a1, if_neg (fun z => a1 z.1.2.1)]
  · rw [meq_f (rB q0) ⟨by decide, by decide⟩ a0, if_neg (fun z => a0 z.1.1)]
theorem right_R (hM : M 13 = d) (h : Db d) : fR_isRight M = some (if Hr d then 1 else 0, M) := by
  have hl := crc_lt (d := d) 14 0 65535 (by decide)
  have q0 := h 0 (by omega)
  have q1 := h 1 (by omega)
  have q2 := h 2 (by omega)
  have q3 := h 3 (by omega)
  have q4 := h 4 (by omega)
  have q14 := h 14 (by omega)
  have q15 := h 15 (by omega)
  have eC := check_R (M := M) hM (fun i hi => h i (by omega))
  have t0 : (0 : Int).toNat = 0 := rfl
  have t1 : (1 : Int).toNat = 1 := rfl
  have t2 : (2 : Int).toNat = 2 := rfl
  have t3 : (3 : Int).toNat = 3 := rfl
  have t4 : (4 : Int).toNat = 4 := rfl
  have t14 : (14 : Int).toNat = 14 := rfl
  have t15 : (15 : Int).toNat = 15 := rfl
  have e103 : ∀ y z : Int, (y = 0 ∨ y = 1) → (z = 0 ∨ z = 1) → fR_isRight_103 y z M = some (if y = 1 ∧ z = 1 ∧ 1 + (d 3 + 1) / 2 ≤ d 4 then 1 else 0, M) := fun y z hy hz => by
    unfold fR_isRight_103
    rcases hy with rfl | rfl
    · rw [meq_t rI_0 rI_0 rfl, if_neg (by omega)]
    · rw [meq_f (a := 1) ⟨by decide, by decide⟩ rI_0 (by decide)]
      rcases hz with rfl | rfl
      · rw [meq_t rI_0 rI_0 rfl, if_neg (by omega)]
      · rw [meq_f (a := 1) ⟨by decide, by decide⟩ rI_0 (by decide), mrd_t ⟨by omega, by omega⟩, hM, t3, mdiv_t ⟨by omega, by omega, by omega, by omega⟩, mrd_t ⟨by omega, by omega⟩, hM, t4]
        by_cases a7 : d 4 < 1 + (d 3 + 1) / 2
        · rw [mlt_t (rB q4) ⟨by omega, by omega⟩ a7, if_neg (by omega)]
        · rw [mlt_f (rB q4) ⟨by omega, by omega⟩ a7, if_pos ⟨rfl, rfl, by omega⟩]
  have e57 : ∀ y : Int, (y = 0 ∨ y = 1) → fR_isRight_57 y M = some (if y = 1 ∧ (d 2 ≤ 7 ∧ 1 ≤ d 4 ∧ d 4 ≤ 64 ∧ 1 ≤ d 3) ∧ 1 + (d 3 + 1) / 2 ≤ d 4 then 1 else 0, M) := fun y hy => by
    unfold fR_isRight_57 fR_isRight_102
    rw [e103 y 0 hy (Or.inl rfl), e103 y 1 hy (Or.inr rfl), if_neg (fun z => nomatch (show (0 : Int) = 1 from z.2.1)), mrd_t ⟨by omega, by omega⟩, hM, t2]
    by_cases a3 : d 2 < 8
    · rw [mlt_t (rB q2) ⟨by decide, by decide⟩ a3, mrd_t ⟨by omega, by omega⟩, hM, t4]
      by_cases a4 : 0 < d 4
      · rw [mlt_t rI_0 (rB q4) a4, mrd_t ⟨by omega, by omega⟩, hM, t4]
        by_cases a5 : 64 < d 4
        · rw [mlt_t ⟨by decide, by decide⟩ (rB q4) a5, if_neg (by omega)]
        · rw [mlt_f ⟨by decide, by decide⟩ (rB q4) a5, mrd_t ⟨by omega, by omega⟩, hM, t3]
          by_cases a6 : 0 < d 3
          · rw [mlt_t rI_0 (rB q3) a6]
            by_cases c : y = 1 ∧ (1 : Int) = 1 ∧ 1 + (d 3 + 1) / 2 ≤ d 4
            · rw [if_pos c, if_pos ⟨c.1, by omega, c.2.2⟩]
            · rw [if_neg c, if_neg (fun z => c ⟨z.1, rfl, z.2.2⟩)]
          · rw [mlt_f rI_0 (rB q3) a6, if_neg (by omega)]
      · rw [mlt_f rI_0 (rB q4) a4, if_neg (by omega)]
    · rw [mlt_f (rB q2) ⟨by decide, by decide⟩ a3, if_neg (by omega)]
  unfold fR_isRight fR_isRight_56
  have e570 : fR_isRight_57 0 M = some (0, M) := by rw [e57 0 (Or.inl rfl), if_neg (fun z => nomatch (show (0 : Int) = 1 from z.1))]
  rw [e570, mrd_t ⟨by omega, by omega⟩, hM, t0]
  by_cases a0 : d 0 = 225
  · rw [meq_t (rB q0) ⟨by decide, by decide⟩ a0, mrd_t ⟨by omega, by omega⟩, hM, t1]
    by_cases a1 : d 1 = 245
    · rw [meq_t (rB q1) ⟨by decide, by decide⟩ a1, mrd_t ⟨by omega, by omega⟩, mrd_t ⟨by omega, by omega⟩, hM, t14, t15, mcn_e eC, e570, e57 1 (Or.inr rfl)]
      by_cases a2 : 256 * d 14 + d 15 = ((crc d 14 0 65535 : Nat) : Int)
      · rw [meq_t ⟨by omega, by omega⟩ ⟨by omega, by omega⟩ a2]
        by_cases c : (1 : Int) = 1 ∧ (d 2 ≤ 7 ∧ 1 ≤ d 4 ∧ d 4 ≤ 64 ∧ 1 ≤ d 3) ∧ 1 + (d 3 + 1) / 2 ≤ d 4
        · rw [if_pos c, if_pos ⟨⟨a0, a1, a2⟩, c.2.1, c.2.2⟩]
        · rw [if_neg c, if_neg (fun z => c ⟨rfl, z.2.1, z.2.2⟩)]
      · rw [meq_f ⟨by omega, by omega⟩ ⟨by omega, by omega⟩ a2, if_neg (fun z => a2 z.1.2.2)]
    · rw [meq_f (rB q1) ⟨by decide, by decide⟩ a1, if_neg (fun z => a1 z.1.2.1)]
  · rw [meq_f (rB q0) ⟨by decide, by decide⟩ a0, if_neg (fun z => a0 z.1.1)]
end Q1
