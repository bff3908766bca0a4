/-! Steps of a mirror where nothing goes wrong -/
theorem mlt_eq {ρ : Type} {a b : Int} {t f : Option ρ} (ha : rI a) (hb : rI b) : mlt a b t f = if a < b then t else f := by unfold mlt; rw [if_pos ⟨ha, hb⟩]
theorem mlt_t {ρ : Type} {a b : Int} {t f : Option ρ} (ha : rI a) (hb : rI b) (h : a < b) : mlt a b t f = t := by rw [mlt_eq ha hb, if_pos h]
theorem mlt_f {ρ : Type} {a b : Int} {t f : Option ρ} (ha : rI a) (hb : rI b) (h : ¬ a < b) : mlt a b t f = f := by rw [mlt_eq ha hb, if_neg h]
theorem meq_eq {ρ : Type} {a b : Int} {t f : Option ρ} (ha : rI a) (hb : rI b) : meq a b t f = if a = b then t else f := by unfold meq; rw [if_pos ⟨ha, hb⟩]
theorem meq_t {ρ : Type} {a b : Int} {t f : Option ρ} (ha : rI a) (hb : rI b) (h : a = b) : meq a b t f = t := by rw [meq_eq ha hb, if_pos h]
theorem meq_f {ρ : Type} {a b : Int} {t f : Option ρ} (ha : rI a) (hb : rI b) (h : ¬ a = b) : meq a b t f = f := by rw [meq_eq ha hb, if_neg h]
theorem mdiv_t {ρ : Type} {a b : Int} {K : Int → Option ρ} (h : 0 ≤ a ∧ a < 2147483648 ∧ 0 < b ∧ b < 2147483648) : mdiv a b K = K (a / b) := by unfold mdiv; rw [if_pos h]
theorem mrem_t {ρ : Type} {a b : Int} {K : Int → Option ρ} (h : 0 ≤ a ∧ a < 2147483648 ∧ 0 < b ∧ b < 2147483648) : mrem a b K = K (a % b) := by unfold mrem; rw [if_pos h]
theorem mland_t {ρ : Type} {a b : Int} {K : Int → Option ρ} (h : 0 ≤ a ∧ a < 2147483648 ∧ 0 ≤ b ∧ b < 2147483648) : mland a b K = K ((a.toNat &&& b.toNat : Nat) : Int) := by unfold mland; rw [if_pos h]
theorem mlor_t {ρ : Type} {a b : Int} {K : Int → Option ρ} (h : 0 ≤ a ∧ a < 2147483648 ∧ 0 ≤ b ∧ b < 2147483648) : mlor a b K = K ((a.toNat ||| b.toNat : Nat) : Int) := by unfold mlor; rw [if_pos h]
theorem mlxor_t {ρ : Type} {a b : Int} {K : Int → Option ρ} (h : 0 ≤ a ∧ a < 2147483648 ∧ 0 ≤ b ∧ b < 2147483648) : mlxor a b K = K ((a.toNat ^^^ b.toNat : Nat) : Int) := by unfold mlxor; rw [if_pos h]
theorem mshr_t {ρ : Type} {a b : Int} {K : Int → Option ρ} (h : rI a ∧ 0 ≤ b ∧ b < 32) : mshr a b K = K (a / 2 ^ b.toNat) := by unfold mshr; rw [if_pos h]
theorem mushr_t {ρ : Type} {a b : Int} {K : Int → Option ρ} (h : 0 ≤ b ∧ b < 32) : mushr a b K = K (a % 4294967296 / 2 ^ b.toNat) := by unfold mushr; rw [if_pos h]
theorem mmin_t {ρ : Type} {a b : Int} {K : Int → Option ρ} (h : rI a ∧ rI b) : mmin a b K = K (if b < a then b else a) := by unfold mmin; rw [if_pos h]
theorem mz_t {ρ : Type} {v : Int} {t : Option ρ} (h : 0 ≤ v ∧ v < 2) : mz v t = t := by unfold mz; rw [if_pos h]
theorem mrd_t {ρ : Type} {M : Mm} {k n : Nat} {i : Int} {K : Int → Option ρ} (h : 0 ≤ i ∧ i < n) : mrd M k n i K = K (M k i.toNat) := by unfold mrd; rw [if_pos h]
theorem mwr_t {ρ : Type} {M : Mm} {k n : Nat} {i v : Int} {K : Mm → Option ρ} (h : 0 ≤ i ∧ i < n) : mwr M k n i v K = K (st M k i.toNat v) := by unfold mwr; rw [if_pos h]
theorem mwz_t {ρ : Type} {M : Mm} {k n : Nat} {i v : Int} {K : Mm → Option ρ} (h : (0 ≤ i ∧ i < n) ∧ 0 ≤ v ∧ v < 2) : mwz M k n i v K = K (st M k i.toNat v) := by unfold mwz; rw [if_pos h]
theorem mput_t {ρ : Type} {M : Mm} {k i : Nat} {v : Int} {K : Mm → Option ρ} : mput M k i v K = K (st M k i v) := rfl
theorem mpuz_t {ρ : Type} {M : Mm} {k i : Nat} {v : Int} {K : Mm → Option ρ} (h : 0 ≤ v ∧ v < 2) : mpuz M k i v K = K (st M k i v) := by unfold mpuz; rw [if_pos h]
theorem mcp_t {ρ : Type} {M : Mm} {ks ns : Nat} {sp : Int} {kd nd : Nat} {dp n : Int} {K : Mm → Option ρ} (h : 0 ≤ sp ∧ 0 ≤ dp ∧ 0 ≤ n ∧ sp + n ≤ ns ∧ dp + n ≤ nd) : mcp M ks ns sp kd nd dp n K = K (cpM M ks kd sp.toNat dp.toNat n.toNat) := by unfold mcp; rw [if_pos h]
theorem mcn_t {ρ : Type} {v : Int} {M : Mm} {K : Int → Mm → Option ρ} : mcn (some (v, M)) K = K v M := rfl
theorem mcn_e {ρ : Type} {g : Option (Int × Mm)} {v : Int} {M : Mm} {K : Int → Mm → Option ρ} (h : g = some (v, M)) : mcn g K = K v M := by rw [h]; rfl
theorem mcx_t {v : Int} {M : Mm} {K : Int → Mm → Option (Nat × Int × Mm)} : mcx (some (0, v, M)) K = K v M := rfl
theorem mcx_e {g : Option (Nat × Int × Mm)} {v : Int} {M : Mm} {K : Int → Mm → Option (Nat × Int × Mm)} (h : g = some (0, v, M)) : mcx g K = K v M := by rw [h]; rfl
theorem mcx_x {g : Option (Nat × Int × Mm)} {w : Nat × Int × Mm} {K : Int → Mm → Option (Nat × Int × Mm)} (h : g = some w) (hw : ¬ w.1 = 0) : mcx g K = some w := by rw [h]; show (if w.1 = 0 then K w.2.1 w.2.2 else some w) = some w; rw [if_neg hw]
