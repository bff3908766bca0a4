/-! The mirror's words: memories by place and index; an operation that the machine would not do so gives none -/
abbrev Mm : Type := Nat → Nat → Int
def FU : Nat := 2000
abbrev rI (a : Int) : Prop := -2147483648 ≤ a ∧ a < 2147483648
def oI (z : Int) : Int32 := Int32.ofInt z
def st (M : Mm) (k i : Nat) (v : Int) : Mm := fun k' i' => if k' = k ∧ i' = i then v else M k' i'
def mlt {ρ : Type} (a b : Int) (t f : Option ρ) : Option ρ := if rI a ∧ rI b then (if a < b then t else f) else none
def meq {ρ : Type} (a b : Int) (t f : Option ρ) : Option ρ := if rI a ∧ rI b then (if a = b then t else f) else none
def mdiv {ρ : Type} (a b : Int) (K : Int → Option ρ) : Option ρ := if 0 ≤ a ∧ a < 2147483648 ∧ 0 < b ∧ b < 2147483648 then K (a / b) else none
def mrem {ρ : Type} (a b : Int) (K : Int → Option ρ) : Option ρ := if 0 ≤ a ∧ a < 2147483648 ∧ 0 < b ∧ b < 2147483648 then K (a % b) else none
def mland {ρ : Type} (a b : Int) (K : Int → Option ρ) : Option ρ := if 0 ≤ a ∧ a < 2147483648 ∧ 0 ≤ b ∧ b < 2147483648 then K ((a.toNat &&& b.toNat : Nat) : Int) else none
def mlor {ρ : Type} (a b : Int) (K : Int → Option ρ) : Option ρ := if 0 ≤ a ∧ a < 2147483648 ∧ 0 ≤ b ∧ b < 2147483648 then K ((a.toNat ||| b.toNat : Nat) : Int) else none
def mlxor {ρ : Type} (a b : Int) (K : Int → Option ρ) : Option ρ := if 0 ≤ a ∧ a < 2147483648 ∧ 0 ≤ b ∧ b < 2147483648 then K ((a.toNat ^^^ b.toNat : Nat) : Int) else none
def mshr {ρ : Type} (a b : Int) (K : Int → Option ρ) : Option ρ := if rI a ∧ 0 ≤ b ∧ b < 32 then K (a / 2 ^ b.toNat) else none
def mushr {ρ : Type} (a b : Int) (K : Int → Option ρ) : Option ρ := if 0 ≤ b ∧ b < 32 then K (a % 4294967296 / 2 ^ b.toNat) else none
def mmin {ρ : Type} (a b : Int) (K : Int → Option ρ) : Option ρ := if rI a ∧ rI b then K (if b < a then b else a) else none
def mz {ρ : Type} (v : Int) (t : Option ρ) : Option ρ := if 0 ≤ v ∧ v < 2 then t else none
def mrd {ρ : Type} (M : Mm) (k n : Nat) (i : Int) (K : Int → Option ρ) : Option ρ := if 0 ≤ i ∧ i < n then K (M k i.toNat) else none
def mwr {ρ : Type} (M : Mm) (k n : Nat) (i v : Int) (K : Mm → Option ρ) : Option ρ := if 0 ≤ i ∧ i < n then K (st M k i.toNat v) else none
def mwz {ρ : Type} (M : Mm) (k n : Nat) (i v : Int) (K : Mm → Option ρ) : Option ρ := if (0 ≤ i ∧ i < n) ∧ 0 ≤ v ∧ v < 2 then K (st M k i.toNat v) else none
def mput {ρ : Type} (M : Mm) (k i : Nat) (v : Int) (K : Mm → Option ρ) : Option ρ := K (st M k i v)
def mpuz {ρ : Type} (M : Mm) (k i : Nat) (v : Int) (K : Mm → Option ρ) : Option ρ := if 0 ≤ v ∧ v < 2 then K (st M k i v) else none
def cpM (M : Mm) (ks kd : Nat) (sp dp n : Nat) : Mm := fun k' i' => if k' = kd ∧ dp ≤ i' ∧ i' < dp + n then M ks (sp + (i' - dp)) else M k' i'
def mcp {ρ : Type} (M : Mm) (ks ns : Nat) (sp : Int) (kd nd : Nat) (dp n : Int) (K : Mm → Option ρ) : Option ρ :=
  if 0 ≤ sp ∧ 0 ≤ dp ∧ 0 ≤ n ∧ sp + n ≤ ns ∧ dp + n ≤ nd then K (cpM M ks kd sp.toNat dp.toNat n.toNat) else none
def fiM (M : Mm) (k n : Nat) (v : Int) : Mm := fun k' i' => if k' = k ∧ i' < n then v else M k' i'
def mfill {ρ : Type} (M : Mm) (k n : Nat) (v : Int) (K : Mm → Option ρ) : Option ρ := K (fiM M k n v)
def mcn {ρ : Type} (q : Option (Int × Mm)) (K : Int → Mm → Option ρ) : Option ρ := match q with
  | none => none
  | some u => K u.1 u.2
def mcx (q : Option (Nat × Int × Mm)) (K : Int → Mm → Option (Nat × Int × Mm)) : Option (Nat × Int × Mm) := match q with
  | none => none
  | some u => if u.1 = 0 then K u.2.1 u.2.2 else some u
theorem st_ne {M : Mm} {k i k' : Nat} {v : Int} (h : k' ≠ k) : st M k i v k' = M k' := by
  funext j; unfold st; rw [if_neg (fun q => h q.1)]
theorem st_same {M : Mm} {k i : Nat} {v : Int} : st M k i v k i = v := by unfold st; rw [if_pos ⟨rfl, rfl⟩]
theorem st_off {M : Mm} {k i j : Nat} {v : Int} (h : j ≠ i) : st M k i v k j = M k j := by unfold st; rw [if_neg (fun q => h q.2)]
/-! numbers -/
theorem oI_add (a b : Int) : oI (a + b) = oI a + oI b := Int32.ofInt_add a b
theorem oI_sub (a b : Int) : oI (a - b) = oI a - oI b := Int32.ofInt_sub a b
theorem oI_mul (a b : Int) : oI (a * b) = oI a * oI b := Int32.ofInt_mul a b
theorem oI_int {a : Int} (h : rI a) : (oI a).toInt = a := Int32.toInt_ofInt_of_le (by have := h.1; omega) (by have := h.2; omega)
theorem oI_lt {a b : Int} (ha : rI a) (hb : rI b) : oI a < oI b ↔ a < b := by rw [Int32.lt_iff_toInt_lt, oI_int ha, oI_int hb]
theorem oI_le {a b : Int} (ha : rI a) (hb : rI b) : oI a ≤ oI b ↔ a ≤ b := by rw [Int32.le_iff_toInt_le, oI_int ha, oI_int hb]
theorem oI_eq {a b : Int} (ha : rI a) (hb : rI b) : oI a = oI b ↔ a = b := by rw [← Int32.toInt_inj, oI_int ha, oI_int hb]
theorem oI_0 : oI 0 = 0 := rfl
theorem rI_0 : rI 0 := ⟨by decide, by decide⟩
theorem oI_nat (n : Nat) : oI (n : Int) = nI n := Int32.ofInt_eq_ofNat
theorem oI_cl {i : Int} (h0 : 0 ≤ i) (h : i < 2147483648) : (oI i).toNatClampNeg = i.toNat := Int32.toNatClampNeg_ofInt_of_le (by omega) (by omega)
theorem oI_in {i : Int} {n : Nat} (h0 : 0 ≤ i) (h : i < n) (hn : n < 2147483648) : vp_in (oI i) n := by
  have hr : rI i := ⟨by omega, by omega⟩
  rw [vp_in_iff, oI_int hr]; exact ⟨h0, h⟩
theorem oI_div {a b : Int} (h0 : 0 ≤ a) (h1 : a < 2147483648) (h2 : 0 < b) (h3 : b < 2147483648) : oI a / oI b = oI (a / b) := by
  obtain ⟨n, rfl⟩ := Int.eq_ofNat_of_zero_le h0
  obtain ⟨d, rfl⟩ := Int.eq_ofNat_of_zero_le (Int.le_of_lt h2)
  have e : ((n : Int) / (d : Int)) = ((n / d : Nat) : Int) := (Int.natCast_ediv n d).symm
  rw [e, oI_nat, oI_nat, oI_nat]
  exact pk_div (by omega) (by omega) (by omega)
theorem oI_rem {a b : Int} (h0 : 0 ≤ a) (h1 : a < 2147483648) (h2 : 0 < b) (h3 : b < 2147483648) : oI a - oI a / oI b * oI b = oI (a % b) := by
  rw [oI_div h0 h1 h2 h3, ← oI_mul, ← oI_sub, Int.emod_def, Int.mul_comm]
theorem oI_8 {n : Int} (h : -128 ≤ n ∧ n < 128) : (Int8.ofInt n).toInt32 = oI n := by
  rw [← Int32.toInt_inj, Int8.toInt_toInt32, oI_int ⟨by omega, by omega⟩]
  exact Int8.toInt_ofInt_of_le (by omega) (by omega)
theorem oI_16 {n : Int} (h : -32768 ≤ n ∧ n < 32768) : (Int16.ofInt n).toInt32 = oI n := by
  rw [← Int32.toInt_inj, Int16.toInt_toInt32, oI_int ⟨by omega, by omega⟩]
  exact Int16.toInt_ofInt_of_le (by omega) (by omega)
theorem oI_tn (x : Int) : (oI x).toBitVec.toNat = (x % 4294967296).toNat := by
  show (BitVec.ofInt 32 x).toNat = _
  rw [BitVec.toNat_ofInt]
  rfl
theorem oI_msk (x : Int) (k : Nat) (hk : k ≤ 31) {b : Int} (hb : b = 2 ^ k - 1) : oI x &&& oI b = oI (x % 2 ^ k) := by
  have hp : (2 : Int) ^ k = ((2 ^ k : Nat) : Int) := by rw [Int.natCast_pow]; rfl
  have h1 : 1 ≤ 2 ^ k := Nat.one_le_two_pow
  have h2 : 2 ^ k ≤ 2 ^ 31 := Nat.pow_le_pow_right (by decide) hk
  have hm : (oI b).toBitVec.toNat = 2 ^ k - 1 := by
    rw [oI_tn, hb, hp]
    omega
  rw [pk_and (oI x) k hm, ← oI_nat, oI_tn, hp]
  congr 1
  have hd : (2 ^ k) ∣ 4294967296 := by
    have h3 : (4294967296 : Nat) = 2 ^ k * 2 ^ (32 - k) := by rw [← Nat.pow_add, Nat.add_sub_cancel' (Nat.le_trans hk (by decide))]
    exact ⟨_, h3⟩
  have e1 : (x % 4294967296) % ((2 ^ k : Nat) : Int) = x % ((2 ^ k : Nat) : Int) := Int.emod_emod_of_dvd x (show ((2 ^ k : Nat) : Int) ∣ ((4294967296 : Nat) : Int) from Int.natCast_dvd_natCast.mpr hd)
  rw [← e1, Int.natCast_emod, Int.toNat_of_nonneg (Int.emod_nonneg _ (by decide))]
theorem an1 (x : Int) : oI x &&& oI 1 = oI (x % 2) := oI_msk x 1 (by decide) rfl
theorem an3 (x : Int) : oI x &&& oI 3 = oI (x % 4) := oI_msk x 2 (by decide) rfl
theorem an7 (x : Int) : oI x &&& oI 7 = oI (x % 8) := oI_msk x 3 (by decide) rfl
theorem an15 (x : Int) : oI x &&& oI 15 = oI (x % 16) := oI_msk x 4 (by decide) rfl
theorem an255 (x : Int) : oI x &&& oI 255 = oI (x % 256) := oI_msk x 8 (by decide) rfl
theorem an65535 (x : Int) : oI x &&& oI 65535 = oI (x % 65536) := oI_msk x 16 (by decide) rfl
theorem oI_land {a b : Int} (h0 : 0 ≤ a) (h1 : 0 ≤ b) : oI a &&& oI b = oI ((a.toNat &&& b.toNat : Nat) : Int) := by
  obtain ⟨n, rfl⟩ := Int.eq_ofNat_of_zero_le h0
  obtain ⟨d, rfl⟩ := Int.eq_ofNat_of_zero_le h1
  rw [oI_nat, oI_nat, oI_nat, Int.toNat_natCast, Int.toNat_natCast]
  apply Int32.toBitVec_inj.1
  show BitVec.ofNat 32 n &&& BitVec.ofNat 32 d = BitVec.ofNat 32 (n &&& d)
  apply BitVec.eq_of_getLsbD_eq
  intro i hi
  simp [hi]
theorem oI_lor {a b : Int} (h0 : 0 ≤ a) (h1 : 0 ≤ b) : oI a ||| oI b = oI ((a.toNat ||| b.toNat : Nat) : Int) := by
  obtain ⟨n, rfl⟩ := Int.eq_ofNat_of_zero_le h0
  obtain ⟨d, rfl⟩ := Int.eq_ofNat_of_zero_le h1
  rw [oI_nat, oI_nat, oI_nat, Int.toNat_natCast, Int.toNat_natCast]
  apply Int32.toBitVec_inj.1
  show BitVec.ofNat 32 n ||| BitVec.ofNat 32 d = BitVec.ofNat 32 (n ||| d)
  apply BitVec.eq_of_getLsbD_eq
  intro i hi
  simp [hi]
theorem oI_lxor {a b : Int} (h0 : 0 ≤ a) (h1 : 0 ≤ b) : oI a ^^^ oI b = oI ((a.toNat ^^^ b.toNat : Nat) : Int) := by
  obtain ⟨n, rfl⟩ := Int.eq_ofNat_of_zero_le h0
  obtain ⟨d, rfl⟩ := Int.eq_ofNat_of_zero_le h1
  rw [oI_nat, oI_nat, oI_nat, Int.toNat_natCast, Int.toNat_natCast]
  apply Int32.toBitVec_inj.1
  show BitVec.ofNat 32 n ^^^ BitVec.ofNat 32 d = BitVec.ofNat 32 (n ^^^ d)
  apply BitVec.eq_of_getLsbD_eq
  intro i hi
  simp [hi]
theorem sh_n : ∀ n, n < 32 → ((nI n &&& 31).toBitVec.smod 32).toNat = n := by decide +kernel
theorem sh_u : ∀ n, n < 32 → (((nI n).toUInt32 &&& Int32.toUInt32 31).toBitVec % 32).toNat = n := by decide +kernel
theorem oI_shl (x : Int) (k : Nat) (hk : k < 32) {b : Int} (hb : b = (k : Int)) : oI x <<< (oI b &&& 31) = oI (x * 2 ^ k) := by
  subst hb
  apply Int32.toBitVec_inj.mp
  apply BitVec.eq_of_toNat_eq
  have hp : (2 : Int) ^ k = ((2 ^ k : Nat) : Int) := by rw [Int.natCast_pow]; rfl
  rw [pk_shl _ _ k (by rw [oI_nat]; exact sh_n k hk), oI_tn, oI_tn, hp]
  generalize 2 ^ k = z
  apply Int.ofNat_inj.mp
  rw [Int.natCast_emod, Int.natCast_mul, Int.toNat_of_nonneg (Int.emod_nonneg _ (by decide)), Int.toNat_of_nonneg (Int.emod_nonneg _ (by decide))]
  show x % 4294967296 * (z : Int) % 4294967296 = x * (z : Int) % 4294967296
  rw [Int.mul_emod (x % 4294967296), Int.emod_emod, ← Int.mul_emod]
theorem sl1 (x : Int) : oI x <<< (oI 1 &&& 31) = oI (x * 2) := oI_shl x 1 (by decide) rfl
theorem sl3 (x : Int) : oI x <<< (oI 3 &&& 31) = oI (x * 8) := oI_shl x 3 (by decide) rfl
theorem sl4 (x : Int) : oI x <<< (oI 4 &&& 31) = oI (x * 16) := oI_shl x 4 (by decide) rfl
theorem sl8 (x : Int) : oI x <<< (oI 8 &&& 31) = oI (x * 256) := oI_shl x 8 (by decide) rfl
theorem oI_shr {a b : Int} (h : rI a) (h0 : 0 ≤ b) (h1 : b < 32) : oI a >>> (oI b &&& 31) = oI (a / 2 ^ b.toNat) := by
  obtain ⟨k, rfl⟩ := Int.eq_ofNat_of_zero_le h0
  have hk : k < 32 := by omega
  have e := pk_shr (oI a) (oI (k : Int) &&& 31) k (by rw [oI_nat]; exact sh_n k hk)
  rw [oI_int h, Int.shiftRight_eq_div_pow] at e
  rw [Int.toNat_natCast]
  have hp : (2 : Int) ^ k = ((2 ^ k : Nat) : Int) := by rw [Int.natCast_pow]; rfl
  rw [hp]
  apply Int32.toInt_inj.mp
  rw [e]
  have q1 := Int32.toInt_lt (oI a >>> (oI (k : Int) &&& 31))
  have q2 := Int32.le_toInt (oI a >>> (oI (k : Int) &&& 31))
  rw [e] at q1 q2
  rw [oI_int ⟨by omega, by omega⟩]
theorem oI_ushr {a b : Int} (h0 : 0 ≤ b) (h1 : b < 32) : ((oI a).toUInt32 >>> ((oI b).toUInt32 &&& Int32.toUInt32 31)).toInt32 = oI (a % 4294967296 / 2 ^ b.toNat) := by
  obtain ⟨k, rfl⟩ := Int.eq_ofNat_of_zero_le h0
  have hk : k < 32 := by omega
  rw [Int.toNat_natCast]
  have hp : (2 : Int) ^ k = ((2 ^ k : Nat) : Int) := by rw [Int.natCast_pow]; rfl
  apply Int32.toBitVec_inj.mp
  apply BitVec.eq_of_toNat_eq
  rw [pk_ushr _ _ k (by rw [oI_nat]; exact sh_u k hk), oI_tn, oI_tn, hp]
  have hq : 0 ≤ a % 4294967296 := Int.emod_nonneg _ (by decide)
  have hq2 : a % 4294967296 < 4294967296 := Int.emod_lt_of_pos _ (by decide)
  obtain ⟨n, hn⟩ := Int.eq_ofNat_of_zero_le hq
  rw [hn] at hq2 ⊢
  have hd : n / 2 ^ k ≤ n := Nat.div_le_self _ _
  rw [← Int.natCast_ediv, Int.toNat_natCast]
  generalize n / 2 ^ k = w at hd ⊢
  omega
theorem oI_min {a b : Int} (ha : rI a) (hb : rI b) : (if oI a ≤ oI b then oI a else oI b) = oI (if b < a then b else a) := by
  by_cases h : b < a
  · rw [if_pos h, if_neg (by rw [oI_le ha hb]; omega)]
  · rw [if_neg h, if_pos (by rw [oI_le ha hb]; omega)]
theorem nar_z {v : Int} (h : 0 ≤ v ∧ v < 2) : narrow .boolean (.int (oI v)) = .int (oI v) := by
  rcases (show v = 0 ∨ v = 1 by omega) with rfl | rfl <;> rfl
theorem fit_z {v : Int} (h : 0 ≤ v ∧ v < 2) : fits .boolean (.int (oI v)) = true := by
  rcases (show v = 0 ∨ v = 1 by omega) with rfl | rfl <;> rfl
/-! splitting a mirror's step -/
theorem mlt_of {ρ : Type} {a b : Int} {t f : Option ρ} {r : ρ} (h : mlt a b t f = some r) : rI a ∧ rI b ∧ (a < b → t = some r) ∧ (¬ a < b → f = some r) := by
  unfold mlt at h
  by_cases hc : rI a ∧ rI b
  · rw [if_pos hc] at h
    refine ⟨hc.1, hc.2, fun q => ?_, fun q => ?_⟩
    · rw [if_pos q] at h; exact h
    · rw [if_neg q] at h; exact h
  · rw [if_neg hc] at h; cases h
theorem meq_of {ρ : Type} {a b : Int} {t f : Option ρ} {r : ρ} (h : meq a b t f = some r) : rI a ∧ rI b ∧ (a = b → t = some r) ∧ (¬ a = b → f = some r) := by
  unfold meq at h
  by_cases hc : rI a ∧ rI b
  · rw [if_pos hc] at h
    refine ⟨hc.1, hc.2, fun q => ?_, fun q => ?_⟩
    · rw [if_pos q] at h; exact h
    · rw [if_neg q] at h; exact h
  · rw [if_neg hc] at h; cases h
theorem mif_of {ρ : Type} {c : Prop} {_ : Decidable c} {t : Option ρ} {r : ρ} (h : (if c then t else none) = some r) : c ∧ t = some r := by
  by_cases hc : c
  · rw [if_pos hc] at h; exact ⟨hc, h⟩
  · rw [if_neg hc] at h; cases h
theorem mcn_of {ρ : Type} {q : Option (Int × Mm)} {K : Int → Mm → Option ρ} {r : ρ} (h : mcn q K = some r) : ∃ v M, q = some (v, M) ∧ K v M = some r := by
  cases q with
  | none => cases h
  | some u => exact ⟨u.1, u.2, rfl, h⟩
theorem mcx_of {q : Option (Nat × Int × Mm)} {K : Int → Mm → Option (Nat × Int × Mm)} {r : Nat × Int × Mm} (h : mcx q K = some r) : ∃ u, q = some u ∧ (u.1 = 0 → K u.2.1 u.2.2 = some r) ∧ (¬ u.1 = 0 → u = r) := by
  cases q with
  | none => cases h
  | some u =>
    refine ⟨u, rfl, fun z => ?_, fun z => ?_⟩
    · have h' : (if u.1 = 0 then K u.2.1 u.2.2 else some u) = some r := h
      rw [if_pos z] at h'; exact h'
    · have h' : (if u.1 = 0 then K u.2.1 u.2.2 else some u) = some r := h
      rw [if_neg z] at h'; exact Option.some.inj h'
