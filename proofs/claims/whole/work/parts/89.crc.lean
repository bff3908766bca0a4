/-! The header's check: bytewise and bitwise alike -/
def xst (x : Nat) : Nat := ((2 * x) ^^^ (if x < 32768 then 0 else 4129)) % 65536
def rst (c t : Nat) : Nat := if c / 32768 = t then 2 * c % 65536 else (2 * c % 65536) ^^^ 4129
def xs : Nat → Nat → Nat
  | 0, x => x
  | r + 1, x => xs r (xst x)
def rb (b : Nat) : Nat → Nat → Nat
  | 0, c => c
  | r + 1, c => rb b r (rst c (b / 2 ^ r % 2))
theorem xor2 (a b : Nat) : 2 * (a ^^^ b) = (2 * a) ^^^ (2 * b) := by
  have h := Nat.shiftLeft_xor_distrib (a := a) (b := b) (i := 1)
  simp only [Nat.shiftLeft_eq, Nat.pow_one] at h
  rw [Nat.mul_comm 2 (a ^^^ b), Nat.mul_comm 2 a, Nat.mul_comm 2 b]
  exact h
theorem xmod (a b : Nat) : (a ^^^ b) % 65536 = (a % 65536) ^^^ (b % 65536) := Nat.xor_mod_two_pow (n := 16)
theorem xdiv (a b : Nat) : (a ^^^ b) / 32768 = (a / 32768) ^^^ (b / 32768) := Nat.xor_div_two_pow (n := 15)
theorem xlt {a b : Nat} (ha : a < 65536) (hb : b < 65536) : a ^^^ b < 65536 := Nat.xor_lt_two_pow (n := 16) ha hb
theorem xst_eq {c y : Nat} (hc : c < 65536) (hy : y < 65536) : xst (c ^^^ y) = rst c (y / 32768) ^^^ (2 * y % 65536) := by
  have hx := xlt hc hy
  have hd := xdiv c y
  unfold xst rst
  have c1 : c / 32768 = 0 ∨ c / 32768 = 1 := by omega
  have y1 : y / 32768 = 0 ∨ y / 32768 = 1 := by omega
  by_cases e : c / 32768 = y / 32768
  · rw [if_pos e]
    have : (c ^^^ y) / 32768 = 0 := by rw [hd, e, Nat.xor_self]
    rw [if_pos (by omega), Nat.xor_zero, xor2, xmod]
  · rw [if_neg e]
    have : (c ^^^ y) / 32768 = 1 := by
      rw [hd]
      rcases c1 with c1 | c1
      · rw [c1, show y / 32768 = 1 by omega]
        rfl
      · rw [c1, show y / 32768 = 0 by omega]
        rfl
    rw [if_neg (by omega), xmod, xor2, xmod, show 4129 % 65536 = 4129 from rfl, Nat.xor_assoc, Nat.xor_assoc, Nat.xor_comm 4129]
theorem rst_lt {c t : Nat} : rst c t < 65536 := by
  unfold rst
  split
  · omega
  · exact xlt (by omega) (by omega)
theorem xs_rb {b : Nat} (hb : b < 256) : ∀ (r c : Nat), r ≤ 8 → c < 65536 → xs r (c ^^^ (b * 2 ^ (16 - r) % 65536)) = rb b r c
  | 0, c, _, _ => by
    unfold xs rb
    rw [show b * 2 ^ (16 - 0) % 65536 = 0 by show b * 65536 % 65536 = 0; omega, Nat.xor_zero]
  | r + 1, c, hr, hc => by
    unfold xs rb
    have hy : b * 2 ^ (16 - (r + 1)) % 65536 < 65536 := Nat.mod_lt _ (by decide)
    have h1 : b * 2 ^ (16 - (r + 1)) % 65536 / 32768 = b / 2 ^ r % 2 ∧ 2 * (b * 2 ^ (16 - (r + 1)) % 65536) % 65536 = b * 2 ^ (16 - r) % 65536 := by
      rcases (show r = 0 ∨ r = 1 ∨ r = 2 ∨ r = 3 ∨ r = 4 ∨ r = 5 ∨ r = 6 ∨ r = 7 by omega) with rfl | rfl | rfl | rfl | rfl | rfl | rfl | rfl
      · show b * 32768 % 65536 / 32768 = b / 1 % 2 ∧ 2 * (b * 32768 % 65536) % 65536 = b * 65536 % 65536; omega
      · show b * 16384 % 65536 / 32768 = b / 2 % 2 ∧ 2 * (b * 16384 % 65536) % 65536 = b * 32768 % 65536; omega
      · show b * 8192 % 65536 / 32768 = b / 4 % 2 ∧ 2 * (b * 8192 % 65536) % 65536 = b * 16384 % 65536; omega
      · show b * 4096 % 65536 / 32768 = b / 8 % 2 ∧ 2 * (b * 4096 % 65536) % 65536 = b * 8192 % 65536; omega
      · show b * 2048 % 65536 / 32768 = b / 16 % 2 ∧ 2 * (b * 2048 % 65536) % 65536 = b * 4096 % 65536; omega
      · show b * 1024 % 65536 / 32768 = b / 32 % 2 ∧ 2 * (b * 1024 % 65536) % 65536 = b * 2048 % 65536; omega
      · show b * 512 % 65536 / 32768 = b / 64 % 2 ∧ 2 * (b * 512 % 65536) % 65536 = b * 1024 % 65536; omega
      · show b * 256 % 65536 / 32768 = b / 128 % 2 ∧ 2 * (b * 256 % 65536) % 65536 = b * 512 % 65536; omega
    rw [xst_eq hc hy, h1.1, h1.2]
    exact xs_rb hb r _ (by omega) rst_lt
theorem rb_lt {b : Nat} : ∀ (r c : Nat), c < 65536 → rb b r c < 65536
  | 0, _, h => h
  | r + 1, c, _ => by unfold rb; exact rb_lt r _ rst_lt
def crc (d : Nat → Int) : Nat → Nat → Nat → Nat
  | 0, _, c => c
  | n + 1, i, c => crc d n (i + 1) (rb (d i).toNat 8 c)
theorem crc_lt {d : Nat → Int} : ∀ (n i c : Nat), c < 65536 → crc d n i c < 65536
  | 0, _, _, h => h
  | n + 1, i, c, h => by unfold crc; exact crc_lt n _ _ (rb_lt 8 c h)
section Z1
variable {d : Nat → Int} {M : Mm} {k0 : Nat}
theorem hc22 {n0 : Nat} {K5 : Int → Int → Mm → Option (Int × Mm)} {y2 : Int} : ∀ (r fu x j : Nat), j + r = 8 → r < fu → x < 65536 → fX_headerCheck_22 k0 n0 K5 fu (x : Int) y2 (j : Int) M = K5 ((xs r x : Nat) : Int) (y2 + 1) M
  | _, 0, _, _, _, hf, _ => absurd hf (Nat.not_lt_zero _)
  | 0, fu + 1, x, j, hj, _, _ => by
    unfold fX_headerCheck_22 xs
    rw [mlt_f ⟨by omega, by omega⟩ ⟨by decide, by decide⟩ (by omega)]
  | r + 1, fu + 1, x, j, hj, hf, hx => by
    rw [fX_headerCheck_22]
    unfold fX_headerCheck_44 xs
    have hl : xst x < 65536 := Nat.mod_lt _ (by decide)
    rw [mlt_t ⟨by omega, by omega⟩ ⟨by decide, by decide⟩ (by omega)]
    by_cases e : x < 32768
    · rw [mlt_t ⟨by omega, by omega⟩ ⟨by decide, by decide⟩ (by omega), mlxor_t ⟨by omega, by omega, by omega, by omega⟩, show ((x : Int) * 2).toNat = 2 * x by omega, show (0 : Int).toNat = 0 from rfl, show (((2 * x ^^^ 0 : Nat) : Int)) % 65536 = ((xst x : Nat) : Int) by unfold xst; rw [if_pos e]; omega, show (j : Int) + 1 = ((j + 1 : Nat) : Int) by omega]
      exact hc22 r fu (xst x) (j + 1) (by omega) (by omega) hl
    · rw [mlt_f ⟨by omega, by omega⟩ ⟨by decide, by decide⟩ (by omega), mlxor_t ⟨by omega, by omega, by omega, by omega⟩, show ((x : Int) * 2).toNat = 2 * x by omega, show (4129 : Int).toNat = 4129 from rfl, show (((2 * x ^^^ 4129 : Nat) : Int)) % 65536 = ((xst x : Nat) : Int) by unfold xst; rw [if_neg e]; omega, show (j : Int) + 1 = ((j + 1 : Nat) : Int) by omega]
      exact hc22 r fu (xst x) (j + 1) (by omega) (by omega) hl
theorem hc5 (hM : M k0 = d) (hd : ∀ i, i < 14 → 0 ≤ d i ∧ d i ≤ 255) : ∀ (n fu c i : Nat), i + n = 14 → n < fu → c < 65536 → fX_headerCheck_5 k0 1024 fu (c : Int) (i : Int) M = some (((crc d n i c : Nat) : Int), M)
  | _, 0, _, _, _, hf, _ => absurd hf (Nat.not_lt_zero _)
  | 0, fu + 1, c, i, hi, _, _ => by
    unfold fX_headerCheck_5 crc
    rw [mlt_f ⟨by omega, by omega⟩ ⟨by decide, by decide⟩ (by omega)]
  | n + 1, fu + 1, c, i, hi, hf, hc => by
    have q := hd i (by omega)
    rw [fX_headerCheck_5]
    unfold crc
    have e1 : c ^^^ ((d i).toNat * 2 ^ (16 - 8) % 65536) = c ^^^ (d i * 256).toNat := by
      rw [show (d i).toNat * 2 ^ (16 - 8) % 65536 = (d i * 256).toNat by show (d i).toNat * 256 % 65536 = _; omega]
    have hl : c ^^^ (d i * 256).toNat < 65536 := xlt hc (by omega)
    rw [mlt_t ⟨by omega, by omega⟩ ⟨by decide, by decide⟩ (by omega), mrd_t ⟨by omega, by omega⟩, hM, show (((i : Nat) : Int)).toNat = i by omega, mlxor_t ⟨by omega, by omega, by omega, by omega⟩, show (((c : Nat) : Int)).toNat = c by omega]
    have := hc22 (k0 := k0) (n0 := 1024) (K5 := fX_headerCheck_5 k0 1024 fu) (y2 := (i : Int)) (M := M) 8 FU (c ^^^ (d i * 256).toNat) 0 rfl (by unfold FU; omega) hl
    rw [show ((0 : Nat) : Int) = 0 from rfl] at this
    rw [this, ← e1, xs_rb (by omega) 8 c (by omega) hc, show (i : Int) + 1 = ((i + 1 : Nat) : Int) by omega]
    exact hc5 hM hd n fu _ (i + 1) (by omega) (by omega) (rb_lt 8 c hc)
theorem check_X (hM : M k0 = d) (hd : ∀ i, i < 14 → 0 ≤ d i ∧ d i ≤ 255) : fX_headerCheck k0 1024 M = some (((crc d 14 0 65535 : Nat) : Int), M) := hc5 hM hd 14 FU 65535 0 rfl (by unfold FU; omega) (by omega)
theorem rc8 (hM : M 13 = d) {i : Nat} (hi : i < 14) (hd : 0 ≤ d i ∧ d i ≤ 255) : ∀ (r fu c : Nat), r ≤ 8 → c < 65536 → fR_check1_5 (fu + r) 112 (c : Int) ((8 * i + (8 - r) : Nat) : Int) M = fR_check1_5 fu 112 ((rb (d i).toNat r c : Nat) : Int) ((8 * (i + 1) : Nat) : Int) M
  | 0, fu, c, _, _ => rfl
  | r + 1, fu, c, hr, hc => by
    have ih := rc8 hM hi hd r fu (rst c ((d i).toNat / 2 ^ r % 2)) (by omega) rst_lt
    rw [show fu + (r + 1) = (fu + r) + 1 by omega, fR_check1_5]
    unfold rb
    rw [mlt_t ⟨by omega, by omega⟩ ⟨by decide, by decide⟩ (by omega), mdiv_t ⟨by omega, by omega, by omega, by omega⟩, mrd_t ⟨by omega, by omega⟩, hM, show (((8 * i + (8 - (r + 1)) : Nat) : Int) / 8).toNat = i by omega, mrem_t ⟨by omega, by omega, by omega, by omega⟩, show 7 - ((8 * i + (8 - (r + 1)) : Nat) : Int) % 8 = (r : Int) by omega, mshr_t ⟨rB hd, by omega, by omega⟩, mshr_t ⟨⟨by omega, by omega⟩, by omega, by omega⟩, show (((r : Nat) : Int)).toNat = r by omega, show (c : Int) / 2 ^ (15 : Int).toNat = ((c / 32768 : Nat) : Int) by show (c : Int) / 32768 = _; omega]
    have eb : d i / 2 ^ r % 2 = (((d i).toNat / 2 ^ r % 2 : Nat) : Int) := by
      rcases (show r = 0 ∨ r = 1 ∨ r = 2 ∨ r = 3 ∨ r = 4 ∨ r = 5 ∨ r = 6 ∨ r = 7 by omega) with rfl | rfl | rfl | rfl | rfl | rfl | rfl | rfl
      · show d i / 1 % 2 = (((d i).toNat / 1 % 2 : Nat) : Int); omega
      · show d i / 2 % 2 = (((d i).toNat / 2 % 2 : Nat) : Int); omega
      · show d i / 4 % 2 = (((d i).toNat / 4 % 2 : Nat) : Int); omega
      · show d i / 8 % 2 = (((d i).toNat / 8 % 2 : Nat) : Int); omega
      · show d i / 16 % 2 = (((d i).toNat / 16 % 2 : Nat) : Int); omega
      · show d i / 32 % 2 = (((d i).toNat / 32 % 2 : Nat) : Int); omega
      · show d i / 64 % 2 = (((d i).toNat / 64 % 2 : Nat) : Int); omega
      · show d i / 128 % 2 = (((d i).toNat / 128 % 2 : Nat) : Int); omega
    rw [eb]
    have ht : (d i).toNat / 2 ^ r % 2 < 2 := Nat.mod_lt _ (by decide)
    generalize (d i).toNat / 2 ^ r % 2 = t at ih ht ⊢
    unfold fR_check1_45
    rw [show ((8 * i + (8 - (r + 1)) : Nat) : Int) + 1 = ((8 * i + (8 - r) : Nat) : Int) by omega]
    unfold rst at ih ⊢
    by_cases e : c / 32768 = t
    · rw [if_pos e] at ih ⊢
      rw [meq_t ⟨by omega, by omega⟩ ⟨by omega, by omega⟩ (by omega), meq_t rI_0 rI_0 rfl, show 2 * (c : Int) % 65536 = ((2 * c % 65536 : Nat) : Int) by omega]
      exact ih
    · rw [if_neg e] at ih ⊢
      rw [meq_f ⟨by omega, by omega⟩ ⟨by omega, by omega⟩ (by omega), meq_f ⟨by decide, by decide⟩ rI_0 (by decide), mlxor_t ⟨by omega, by omega, by omega, by omega⟩, show (2 * (c : Int) % 65536).toNat = 2 * c % 65536 by omega, show (4129 : Int).toNat = 4129 from rfl]
      exact ih
theorem rc_n (hM : M 13 = d) (hd : ∀ i, i < 14 → 0 ≤ d i ∧ d i ≤ 255) : ∀ (n fu c i : Nat), i + n = 14 → 8 * n < fu → c < 65536 → fR_check1_5 fu 112 (c : Int) ((8 * i : Nat) : Int) M = some (((crc d n i c : Nat) : Int), M)
  | 0, fu, c, i, hi, hf, _ => by
    obtain ⟨fv, rfl⟩ : ∃ fv, fu = fv + 1 := ⟨fu - 1, by omega⟩
    unfold fR_check1_5 crc
    rw [mlt_f ⟨by omega, by omega⟩ ⟨by decide, by decide⟩ (by omega)]
  | n + 1, fu, c, i, hi, hf, hc => by
    obtain ⟨fv, rfl⟩ : ∃ fv, fu = fv + 8 := ⟨fu - 8, by omega⟩
    have := rc8 hM (by omega) (hd i (by omega)) 8 fv c (by omega) hc
    rw [show 8 * i + (8 - 8) = 8 * i by omega] at this
    unfold crc
    rw [this]
    exact rc_n hM hd n fv _ (i + 1) (by omega) (by omega) (rb_lt 8 c hc)
theorem check_R (hM : M 13 = d) (hd : ∀ i, i < 14 → 0 ≤ d i ∧ d i ≤ 255) : fR_check1 112 M = some (((crc d 14 0 65535 : Nat) : Int), M) := rc_n hM hd 14 FU 65535 0 rfl (by unfold FU; omega) (by omega)
end Z1
