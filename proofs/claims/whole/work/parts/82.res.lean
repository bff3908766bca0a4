/-! resolve: both sides alike -/
def Sk (X R : Mm) (m : Nat) : Prop := X 0 5 = (m : Int) ∧ R 0 27 = (m : Int) ∧ ∀ k, k < m → X 26 k = R 18 k ∧ 0 ≤ R 18 k ∧ R 18 k ≤ 255
def GrX (X X' : Mm) : Prop := ∀ p, p ≠ 0 → p ≠ 26 → X' p = X p
def GrR (R R' : Mm) : Prop := (∀ p, p ≠ 0 → p ≠ 18 → R' p = R p) ∧ ∀ k, k ≠ 0 → k ≠ 27 → R' 0 k = R 0 k
def lt (p : Int) (k : Nat) : Int := if k = 0 then p % 256 else if k = 1 then p / 256 % 256 else if k = 2 then p / 65536 % 256 else p / 16777216 % 256
section S1
variable {d : Nat → Int} {X R M : Mm} {sl us : Int} {bg : Nat → Int} {p : Int}
theorem GrX.rfl' : GrX X X := fun _ _ _ => rfl
theorem GrR.rfl' : GrR R R := ⟨fun _ _ _ => rfl, fun _ _ _ => rfl⟩
theorem GrX.tr {X' X'' : Mm} (h : GrX X X') (h' : GrX X' X'') : GrX X X'' := fun p a b => (h' p a b).trans (h p a b)
theorem GrR.tr {R' R'' : Mm} (h : GrR R R') (h' : GrR R' R'') : GrR R R'' := ⟨fun p a b => (h'.1 p a b).trans (h.1 p a b), fun p a b => (h'.2 p a b).trans (h.2 p a b)⟩
theorem GrX.mx {X' : Mm} (h : GrX X X') (hM : MX X d sl us bg) : MX X' d sl us bg := by
  obtain ⟨h1, h2, h3, h4⟩ := hM
  exact ⟨by rw [h 17 (by decide) (by decide)]; exact h1, by rw [h 16 (by decide) (by decide)]; exact h2, by rw [h 16 (by decide) (by decide)]; exact h3, fun i hi => by rw [h 18 (by decide) (by decide)]; exact h4 i hi⟩
theorem GrR.my {R' : Mm} (h : GrR R R') (hM : MY R d sl us bg) : MY R' d sl us bg := by
  obtain ⟨h1, h2, h3, h4⟩ := hM
  exact ⟨by rw [h.1 13 (by decide) (by decide)]; exact h1, by rw [h.2 18 (by decide) (by decide)]; exact h2, by rw [h.2 19 (by decide) (by decide)]; exact h3, fun i hi => by rw [h.1 14 (by decide) (by decide)]; exact h4 i hi⟩
theorem lt_r (k : Nat) : 0 ≤ lt p k ∧ lt p k ≤ 255 := by
  unfold lt
  split
  · omega
  · split
    · omega
    · split <;> omega
theorem letter_vX {k : Nat} (hk : k < 4) : fX_letterOf p (k : Int) M = some (lt p k, M) := by
  unfold fX_letterOf lt
  rw [mushr_t ⟨by omega, by omega⟩]
  rcases (show k = 0 ∨ k = 1 ∨ k = 2 ∨ k = 3 by omega) with rfl | rfl | rfl | rfl
  · rw [if_pos rfl]; show some (p % 4294967296 / 1 % 256, M) = _; congr 2; omega
  · rw [if_neg (by decide), if_pos rfl]; show some (p % 4294967296 / 256 % 256, M) = _; congr 2; omega
  · rw [if_neg (by decide), if_neg (by decide), if_pos rfl]; show some (p % 4294967296 / 65536 % 256, M) = _; congr 2; omega
  · rw [if_neg (by decide), if_neg (by decide), if_neg (by decide)]; show some (p % 4294967296 / 16777216 % 256, M) = _; congr 2; omega
theorem letter_vR {ρ : Type} {k : Nat} (hk : k < 4) (hp : rI p) (K : Int → Option ρ) : (mshr p (8 * (k : Int)) fun v => K (v % 256)) = K (lt p k) := by
  unfold lt
  rw [mshr_t ⟨hp, by omega, by omega⟩]
  rcases (show k = 0 ∨ k = 1 ∨ k = 2 ∨ k = 3 by omega) with rfl | rfl | rfl | rfl
  · rw [if_pos rfl]; show K (p / 1 % 256) = _; rw [show p / 1 % 256 = p % 256 by omega]
  · rfl
  · rfl
  · rfl
theorem push_v {m : Nat} (h : Sk X R m) (hm : m < 20) {v : Int} (hv : 0 ≤ v ∧ v ≤ 255) : ∃ X' R', fX_layLetterAhead v X = some (0, X') ∧ fR_push v R = some (0, R') ∧ Sk X' R' (m + 1) ∧ GrX X X' ∧ GrR R R' ∧ R' 0 0 = R 0 0 := by
  obtain ⟨h1, h2, h3⟩ := h
  unfold fX_layLetterAhead fR_push
  rw [h1, mlt_t ⟨by omega, by omega⟩ ⟨by decide, by decide⟩ (by omega), mwr_t ⟨by omega, by omega⟩, mput_t, h2, mwr_t ⟨by omega, by omega⟩, mput_t, show (((m : Nat) : Int)).toNat = m by omega]
  refine ⟨_, _, rfl, rfl, ⟨?_, ?_, fun k hk => ?_⟩, fun p a b => ?_, ⟨fun p a b => ?_, fun k a b => ?_⟩, ?_⟩
  · rw [st_same, st_ne (by decide), h1]; omega
  · rw [st_same, st_ne (by decide), h2]; omega
  · rw [st_ne (k := 0) (k' := 26) (by decide), st_ne (k := 0) (k' := 18) (by decide)]
    by_cases e : k = m
    · rw [e, st_same, st_same]; exact ⟨rfl, hv⟩
    · rw [st_off e, st_off e]; exact h3 k (by omega)
  · rw [st_ne a, st_ne b]
  · rw [st_ne a, st_ne b]
  · rw [st_off b, st_ne (by decide)]
  · rw [st_off (by decide), st_ne (by decide)]
theorem count_v (hp : rI p) : ∀ (j fu fu' k : Nat), k + j = 4 → j < fu → j < fu' → ∃ n : Nat, n ≤ 4 ∧ fX_layAhead_2 fu p (k : Int) X = fX_layAhead_21 p (n : Int) X ∧ fR_resolve_35 fu' p (k : Int) R = fR_resolve_59 p (n : Int) R
  | _, 0, _, _, _, hf, _ => absurd hf (Nat.not_lt_zero _)
  | _, _, 0, _, _, _, hf => absurd hf (Nat.not_lt_zero _)
  | 0, fu + 1, fu' + 1, k, hk, _, _ => by
    refine ⟨k, by omega, ?_, ?_⟩
    · unfold fX_layAhead_2
      rw [mlt_f ⟨by omega, by omega⟩ ⟨by decide, by decide⟩ (by omega)]
    · unfold fR_resolve_35
      rw [mlt_f ⟨by omega, by omega⟩ ⟨by decide, by decide⟩ (by omega)]
  | j + 1, fu + 1, fu' + 1, k, hk, hf, hf' => by
    have q := lt_r (p := p) k
    by_cases z : lt p k = 0
    · refine ⟨k, by omega, ?_, ?_⟩
      · unfold fX_layAhead_2
        rw [mlt_t ⟨by omega, by omega⟩ ⟨by decide, by decide⟩ (by omega), mcn_e (letter_vX (by omega)), meq_t (rB q) rI_0 z]
      · unfold fR_resolve_35
        rw [mlt_t ⟨by omega, by omega⟩ ⟨by decide, by decide⟩ (by omega), letter_vR (by omega) hp (fun v => mlt 0 v _ _), mlt_f rI_0 (rB q) (by omega)]
    · obtain ⟨n, n1, n2, n3⟩ := count_v hp j fu fu' (k + 1) (by omega) (by omega) (by omega)
      refine ⟨n, n1, ?_, ?_⟩
      · rw [fX_layAhead_2]
        rw [mlt_t ⟨by omega, by omega⟩ ⟨by decide, by decide⟩ (by omega), mcn_e (letter_vX (by omega)), meq_f (rB q) rI_0 z]
        exact n2
      · rw [fR_resolve_35]
        rw [mlt_t ⟨by omega, by omega⟩ ⟨by decide, by decide⟩ (by omega), letter_vR (by omega) hp (fun v => mlt 0 v _ _), mlt_t rI_0 (rB q) (by omega)]
        exact n3
theorem lay_v (hp : rI p) : ∀ (y fu fu' m : Nat) (X R : Mm), Sk X R m → y ≤ 4 → m + y ≤ 20 → y < fu → y < fu' → ∃ X' R', fX_layAhead_30 fu p ((y : Int) - 1) X = some (0, X') ∧ fR_resolve_68 fu' p ((y : Int) - 1) R = fR_resolve_97 FU 0 0 R' ∧ Sk X' R' (m + y) ∧ GrX X X' ∧ GrR R R' ∧ R' 0 0 = R 0 0
  | _, 0, _, _, _, _, _, _, _, hf, _ => absurd hf (Nat.not_lt_zero _)
  | _, _, 0, _, _, _, _, _, _, _, hf => absurd hf (Nat.not_lt_zero _)
  | 0, fu + 1, fu' + 1, m, X, R, h, _, _, _, _ => by
    unfold fX_layAhead_30 fR_resolve_68
    rw [mlt_t ⟨by omega, by omega⟩ rI_0 (by omega), mlt_t ⟨by omega, by omega⟩ rI_0 (by omega)]
    exact ⟨X, R, rfl, rfl, h, GrX.rfl', GrR.rfl', rfl⟩
  | y + 1, fu + 1, fu' + 1, m, X, R, h, h4, hm, hf, hf' => by
    have q := lt_r (p := p) y
    obtain ⟨X1, R1, f1, f2, f3, f4, f5, f6⟩ := push_v h (by omega) q
    obtain ⟨X2, R2, g1, g2, g3, g4, g5, g6⟩ := lay_v hp y fu fu' (m + 1) X1 R1 f3 (by omega) (by omega) (by omega) (by omega)
    rw [fX_layAhead_30, fR_resolve_68]
    rw [show ((y + 1 : Nat) : Int) - 1 = (y : Int) by omega, mlt_f ⟨by omega, by omega⟩ rI_0 (by omega), mlt_f ⟨by omega, by omega⟩ rI_0 (by omega), mcn_e (letter_vX (by omega)), mcn_e f1, letter_vR (by omega) hp (fun v => mcn (fR_push v R) _), mcn_e f2, show (y : Int) + (-1) = (y : Int) - 1 by omega, show m + (y + 1) = m + 1 + y by omega]
    exact ⟨X2, R2, g1, g2, g3, f4.tr g4, f5.tr g5, g6.trans f6⟩
end S1
