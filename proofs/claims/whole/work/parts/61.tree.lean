/-! The tree: counting entries, the small questions of both sides -/
def cntE (f : Nat → Int) (v : Int) : Nat → Nat
  | 0 => 0
  | n + 1 => cntE f v n + (if f n = v then 1 else 0)
theorem cntE_le (f : Nat → Int) (v : Int) : ∀ n, cntE f v n ≤ n
  | 0 => Nat.le_refl 0
  | n + 1 => by
    have := cntE_le f v n
    unfold cntE
    by_cases h : f n = v
    · rw [if_pos h]; omega
    · rw [if_neg h]; omega
theorem cntE_congr {f g : Nat → Int} {v : Int} : ∀ n, (∀ i, i < n → f i = g i) → cntE f v n = cntE g v n
  | 0, _ => rfl
  | n + 1, h => by
    unfold cntE
    rw [cntE_congr n (fun i hi => h i (by omega)), h n (by omega)]
theorem cntE_set {f g : Nat → Int} {v x : Int} {j : Nat} (hj : g j = x) (hg : ∀ i, i ≠ j → g i = f i) : ∀ n, j < n → (cntE g v n : Int) = (cntE f v n : Int) + (if x = v then 1 else 0) - (if f j = v then 1 else 0)
  | 0, h => absurd h (Nat.not_lt_zero _)
  | n + 1, h => by
    by_cases hn : j = n
    · subst hn
      have e : cntE g v j = cntE f v j := cntE_congr j (fun i hi => hg i (by omega))
      unfold cntE
      rw [e, hj]
      by_cases h1 : x = v
      · rw [if_pos h1, if_pos h1]
        by_cases h2 : f j = v
        · rw [if_pos h2, if_pos h2]; omega
        · rw [if_neg h2, if_neg h2]; omega
      · rw [if_neg h1, if_neg h1]
        by_cases h2 : f j = v
        · rw [if_pos h2, if_pos h2]; omega
        · rw [if_neg h2, if_neg h2]; omega
    · have ih := cntE_set (v := v) hj hg n (by omega)
      unfold cntE
      rw [hg n (fun z => hn z.symm)]
      by_cases h2 : f n = v
      · rw [if_pos h2]; omega
      · rw [if_neg h2]; omega
theorem isNodeOf_v {M : Mm} {x k : Int} (h : 1 ≤ M 1 5 ∧ M 1 5 ≤ 16) (hk : ∀ i, i < 16 → rI (M 2 i)) (hx : rI x) (hr : rI k) : fTr_isNodeOf x k M = some (if 0 ≤ x ∧ x < M 1 5 ∧ M 2 x.toNat = k then 1 else 0, M) := by
  unfold fTr_isNodeOf
  by_cases h1 : x < 0
  · rw [mlt_t hx rI_0 h1, if_neg (by omega)]
  · rw [mlt_f hx rI_0 h1]
    by_cases h2 : x < M 1 5
    · rw [mlt_t hx ⟨by omega, by omega⟩ h2, mrd_t ⟨by omega, by omega⟩]
      by_cases h3 : M 2 x.toNat = k
      · rw [meq_t (hk _ (by omega)) hr h3, if_pos ⟨by omega, h2, h3⟩]
      · rw [meq_f (hk _ (by omega)) hr h3, if_neg (fun z => h3 z.2.2)]
    · rw [mlt_f hx ⟨by omega, by omega⟩ h2, if_neg (fun z => h2 z.2.1)]
theorem isNode_v {M : Mm} {x k : Int} (h : 1 ≤ M 0 1 ∧ M 0 1 ≤ 16) (hk : ∀ i, i < 16 → rI (M 1 i)) (hx : rI x) (hr : rI k) : fR_isNode x k M = some (if 0 ≤ x ∧ x < M 0 1 ∧ M 1 x.toNat = k then 1 else 0, M) := by
  unfold fR_isNode
  by_cases h1 : x < 0
  · rw [mlt_t hx rI_0 h1, if_neg (by omega)]
  · rw [mlt_f hx rI_0 h1]
    by_cases h2 : x < M 0 1
    · rw [mlt_t hx ⟨by omega, by omega⟩ h2, mrd_t ⟨by omega, by omega⟩]
      by_cases h3 : M 1 x.toNat = k
      · rw [meq_t (hk _ (by omega)) hr h3, if_pos ⟨by omega, h2, h3⟩]
      · rw [meq_f (hk _ (by omega)) hr h3, if_neg (fun z => h3 z.2.2)]
    · rw [mlt_f hx ⟨by omega, by omega⟩ h2, if_neg (fun z => h2 z.2.1)]
theorem isLetter_vX {M : Mm} {x : Int} (hx : rI x) : fX_isLetter x M = some (if 97 ≤ x ∧ x ≤ 122 then 1 else 0, M) := by
  unfold fX_isLetter
  by_cases h1 : x < 97
  · rw [mlt_t hx ⟨by decide, by decide⟩ h1, if_neg (by omega)]
  · rw [mlt_f hx ⟨by decide, by decide⟩ h1]
    by_cases h2 : 122 < x
    · rw [mlt_t ⟨by decide, by decide⟩ hx h2, if_neg (by omega)]
    · rw [mlt_f ⟨by decide, by decide⟩ hx h2, if_pos (by omega)]
theorem isLetter_vR {M : Mm} {x : Int} (hx : rI x) : fR_isLetter x M = some (if 97 ≤ x ∧ x ≤ 122 then 1 else 0, M) := by
  unfold fR_isLetter
  by_cases h1 : x < 97
  · rw [mlt_t hx ⟨by decide, by decide⟩ h1, if_neg (by omega)]
  · rw [mlt_f hx ⟨by decide, by decide⟩ h1]
    by_cases h2 : 122 < x
    · rw [mlt_t ⟨by decide, by decide⟩ hx h2, if_neg (by omega)]
    · rw [mlt_f ⟨by decide, by decide⟩ hx h2, if_pos (by omega)]
