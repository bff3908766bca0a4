/-! read: which cluster, what the cache keeps -/
theorem lits_b {d : Nat → Int} (h : Db d) : ∀ (n a : Nat) (l : List Int), a + n ≤ 1024 → (∀ x, x ∈ l → 0 ≤ x ∧ x ≤ 255) → ∀ x, x ∈ lits d a n l → 0 ≤ x ∧ x ≤ 255
  | 0, _, _, _, hl => hl
  | n + 1, a, l, ha, hl => by
    unfold lits
    refine lits_b h n (a + 1) _ (by omega) (fun x hx => ?_)
    rcases List.mem_append.mp hx with z | z
    · exact hl x z
    · rw [List.mem_singleton.mp z]; exact h a (by omega)
theorem gd_b {l : List Int} (hl : ∀ x, x ∈ l → 0 ≤ x ∧ x ≤ 255) (k : Nat) : 0 ≤ l.getD k 0 ∧ l.getD k 0 ≤ 255 := by
  by_cases e : k < l.length
  · rw [List.getD_eq_getElem?_getD, List.getElem?_eq_getElem e]
    exact hl _ (List.getElem_mem e)
  · rw [List.getD_eq_getElem?_getD, List.getElem?_eq_none (by omega)]
    exact ⟨Int.le_refl 0, show (0 : Int) ≤ 255 by decide⟩
theorem cpy_b (ds : Nat) : ∀ (n : Nat) (l : List Int), (∀ x, x ∈ l → 0 ≤ x ∧ x ≤ 255) → ∀ x, x ∈ cpy ds n l → 0 ≤ x ∧ x ≤ 255
  | 0, _, hl => hl
  | n + 1, l, hl => by
    unfold cpy
    refine cpy_b ds n _ (fun x hx => ?_)
    rcases List.mem_append.mp hx with z | z
    · exact hl x z
    · rw [List.mem_singleton.mp z]; exact gd_b hl _
theorem uz_b {d : Nat → Int} {b w : Nat} (h : Db d) (hb : b + 16 ≤ 1024) : ∀ (n nx : Nat) (l l' : List Int), (∀ x, x ∈ l → 0 ≤ x ∧ x ≤ 255) → uz d b w n nx l = some l' → ∀ x, x ∈ l' → 0 ≤ x ∧ x ≤ 255
  | 0, _, _, _, _, e => nomatch e
  | n + 1, nx, l, l', hl, e => by
    rw [uz_s] at e
    by_cases a : w ≤ l.length
    · rw [if_pos a] at e
      have := Option.some.inj e
      subst this
      exact hl
    · rw [if_neg a] at e
      by_cases a2 : 16 ≤ nx ∨ d (b + nx) = 0
      · rw [if_pos a2] at e; exact nomatch e
      · rw [if_neg a2] at e
        generalize min ((d (b + nx)).toNat / 16) (w - l.length) = k at e
        by_cases a3 : 16 < nx + 1 + k
        · rw [if_pos a3] at e; exact nomatch e
        · rw [if_neg a3] at e
          have hl1 := lits_b h k (b + nx + 1) l (by omega) hl
          generalize lits d (b + nx + 1) k l = l1 at e hl1
          unfold uzM at e
          by_cases a4 : (d (b + nx)).toNat % 16 = 0 ∨ w ≤ l1.length
          · rw [if_pos a4] at e
            exact uz_b h hb n _ l1 l' hl1 e
          · rw [if_neg a4] at e
            by_cases a5 : 16 ≤ nx + 1 + k ∨ (d (b + (nx + 1 + k))).toNat = 0 ∨ l1.length < (d (b + (nx + 1 + k))).toNat
            · rw [if_pos a5] at e; exact nomatch e
            · rw [if_neg a5] at e
              exact uz_b h hb n _ _ l' (cpy_b _ _ _ hl1) e
/-- the cluster of a byte -/
def cwf (d : Nat → Int) (i : Nat) (a : Int) : Nat → Nat → Nat
  | 0, j => j
  | k + 1, j => if a < rs d i (1 + j) then j else cwf d i a k (j + 1)
/-- what the reference does once it has the cluster -/
def rpk (y1 y2 y3 : Int) (M1 : Mm) : Option (Int × Mm) :=
  mrd M1 16 2 0 fun v3 => meq v3 y1 (mrd M1 17 2 0 fun v16 => meq v16 y3 (fR_readPacked_43 y1 y2 y3 1 M1) (fR_readPacked_42 y1 y2 y3 M1)) (fR_readPacked_42 y1 y2 y3 M1)
def Kp (d : Nat → Int) (sl us : Int) (bg : Nat → Int) (X R : Mm) (p j : Nat) : Prop := X p 1 = R 16 j ∧ (R 16 j = -1 ∨ ∃ (i c : Nat) (l : List Int), R 16 j = (i : Int) ∧ X p 2 = (c : Int) ∧ R 17 j = (c : Int) ∧ Go d sl us bg (i : Int) ∧ ly d i = 2 ∧ (c : Int) < rs d i 0 ∧ un d i c = some l ∧ X p 3 = (l.length : Int) ∧ ∀ k, k < l.length → X (p + 1) k = l.getD k 0)
section V1
variable {d : Nat → Int} {X R M : Mm} {i : Nat} {sl us : Int} {bg : Nat → Int} {a : Int}
theorem cwf_p (h : Ok d sl us bg) (hg : Go d sl us bg (i : Int)) (hl : ly d i = 2) (ha : a < sz d i) : ∀ (k j : Nat), (j + k + 1 : Int) = rs d i 0 → cs d i j ≤ a → a < rs d i (1 + cwf d i a k j) ∧ cs d i (cwf d i a k j) ≤ a ∧ (cwf d i a k j : Int) < rs d i 0
  | 0, j, hj, h0 => by
    obtain ⟨p1, p2, p3, p4, p5⟩ := packed h hg hl
    have := p2.2.2.1
    rw [show (rs d i 0).toNat = 1 + j by omega] at this
    unfold cwf
    exact ⟨by omega, h0, by omega⟩
  | k + 1, j, hj, h0 => by
    unfold cwf
    by_cases c : a < rs d i (1 + j)
    · rw [if_pos c]; exact ⟨c, h0, by omega⟩
    · rw [if_neg c]
      exact cwf_p h hg hl ha k (j + 1) (by omega) (show rs d i (1 + j) ≤ a by omega)
theorem with_vX (h : Ok d sl us bg) (hM : MX M d sl us bg) (hg : Go d sl us bg (i : Int)) (hl : ly d i = 2) (ha : 0 ≤ a ∧ a < sz d i) : ∀ (k fu j : Nat), (j + k + 1 : Int) = rs d i 0 → k < fu → fDe_clusterWith_2 fu (i : Int) a (j : Int) M = some (((cwf d i a k j : Nat) : Int), M)
  | _, 0, _, _, hf => absurd hf (Nat.not_lt_zero _)
  | 0, fu + 1, j, hj, _ => by
    obtain ⟨p1, p2, p3, p4, p5⟩ := packed h hg hl
    have p22 := p2.2.1
    have := p2.2.2.1
    rw [show (rs d i 0).toNat = 1 + j by omega] at this
    have q := h.1.rs_ (i := i) (k := 1 + j) (by omega)
    unfold fDe_clusterWith_2 cwf
    by_cases c : j < 10
    · rw [mlt_t ⟨by omega, by omega⟩ ⟨by decide, by decide⟩ (by omega), mcn_e (cend_vX hM.1 (by omega)), mlt_t ⟨by omega, by omega⟩ (rB q) (by omega)]
    · rw [mlt_f ⟨by omega, by omega⟩ ⟨by decide, by decide⟩ (by omega)]
  | k + 1, fu + 1, j, hj, hf => by
    obtain ⟨p1, p2, p3, p4, p5⟩ := packed h hg hl
    have p22 := p2.2.1
    have q := h.1.rs_ (i := i) (k := 1 + j) (by omega)
    have qs := h.1.sz_ (i := i) (by omega)
    unfold fDe_clusterWith_2 cwf
    rw [mlt_t ⟨by omega, by omega⟩ ⟨by decide, by decide⟩ (by omega), mcn_e (cend_vX hM.1 (by omega))]
    by_cases c : a < rs d i (1 + j)
    · rw [mlt_t ⟨by omega, by omega⟩ (rB q) c, if_pos c]
    · rw [mlt_f ⟨by omega, by omega⟩ (rB q) c, if_neg c, show (j : Int) + 1 = ((j + 1 : Nat) : Int) by omega]
      exact with_vX h hM hg hl ha k fu (j + 1) (by omega) (by omega)
theorem with_vR (h : Ok d sl us bg) (hM : MY M d sl us bg) (hg : Go d sl us bg (i : Int)) (hl : ly d i = 2) (ha : 0 ≤ a ∧ a < sz d i) : ∀ (k fu j : Nat), (j + k + 1 : Int) = rs d i 0 → k < fu → fR_readPacked_2 fu (i : Int) a (j : Int) M = rpk (i : Int) a ((cwf d i a k j : Nat) : Int) M
  | _, 0, _, _, hf => absurd hf (Nat.not_lt_zero _)
  | 0, fu + 1, j, hj, _ => by
    obtain ⟨p1, p2, p3, p4, p5⟩ := packed h hg hl
    have p22 := p2.2.1
    have := p2.2.2.1
    rw [show (rs d i 0).toNat = 1 + j by omega] at this
    have q := h.1.rs_ (i := i) (k := 1 + j) (by omega)
    unfold fR_readPacked_2 cwf
    rw [mcn_e (end_vR hM.1 (by omega)), mlt_t ⟨by omega, by omega⟩ (rB q) (by omega)]
    rfl
  | k + 1, fu + 1, j, hj, hf => by
    obtain ⟨p1, p2, p3, p4, p5⟩ := packed h hg hl
    have p22 := p2.2.1
    have q := h.1.rs_ (i := i) (k := 1 + j) (by omega)
    have qs := h.1.sz_ (i := i) (by omega)
    unfold fR_readPacked_2 cwf
    rw [mcn_e (end_vR hM.1 (by omega))]
    by_cases c : a < rs d i (1 + j)
    · rw [mlt_t ⟨by omega, by omega⟩ (rB q) c, if_pos c]
      rfl
    · rw [mlt_f ⟨by omega, by omega⟩ (rB q) c, if_neg c, show (j : Int) + 1 = ((j + 1 : Nat) : Int) by omega]
      exact with_vR h hM hg hl ha k fu (j + 1) (by omega) (by omega)
end V1
