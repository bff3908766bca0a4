/-! Arrays.fill of ints -/
theorem dfill_0 : decode cfill 0 = .ok (.iconst 0, 1) := by decide +kernel
theorem dfill_1 : decode cfill 1 = .ok (.istore_n 2, 1) := by decide +kernel
theorem dfill_2 : decode cfill 2 = .ok (.aload_n 0, 1) := by decide +kernel
theorem dfill_3 : decode cfill 3 = .ok (.arraylength, 1) := by decide +kernel
theorem dfill_4 : decode cfill 4 = .ok (.istore_n 3, 1) := by decide +kernel
theorem dfill_5 : decode cfill 5 = .ok (.iload_n 2, 1) := by decide +kernel
theorem dfill_6 : decode cfill 6 = .ok (.iload_n 3, 1) := by decide +kernel
theorem dfill_7 : decode cfill 7 = .ok (.if_icmp .ge 13, 3) := by decide +kernel
theorem dfill_10 : decode cfill 10 = .ok (.aload_n 0, 1) := by decide +kernel
theorem dfill_11 : decode cfill 11 = .ok (.iload_n 2, 1) := by decide +kernel
theorem dfill_12 : decode cfill 12 = .ok (.iload_n 1, 1) := by decide +kernel
theorem dfill_13 : decode cfill 13 = .ok (.iastore, 1) := by decide +kernel
theorem dfill_14 : decode cfill 14 = .ok (.iinc 2 1, 3) := by decide +kernel
theorem dfill_17 : decode cfill 17 = .ok (.goto (-12), 3) := by decide +kernel
theorem dfill_20 : decode cfill 20 = .ok (.return_, 1) := by decide +kernel
theorem fiM_0 (M : Mm) (k : Nat) (x : Int) : fiM M k 0 x = M := by
  funext k' i'; unfold fiM; rw [if_neg (fun z => Nat.not_lt_zero _ z.2)]
theorem fiM_s (M : Mm) (k i : Nat) (x : Int) : st (fiM M k i x) k i x = fiM M k (i + 1) x := by
  funext k' i'
  unfold st fiM
  by_cases h1 : k' = k
  · by_cases h2 : i' = i
    · rw [if_pos ⟨h1, h2⟩, if_pos ⟨h1, by omega⟩]
    · rw [if_neg (fun z => h2 z.2)]
      by_cases h3 : i' < i
      · rw [if_pos ⟨h1, h3⟩, if_pos ⟨h1, by omega⟩]
      · rw [if_neg (fun z => h3 z.2), if_neg (fun z => h3 (by omega))]
  · rw [if_neg (fun z => h1 z.1), if_neg (fun z => h1 z.1), if_neg (fun z => h1 z.1)]
section FI
variable {p : Program} {l : Launch} {e : Env} {s : State} {m : MethodId} {args : Array Value} {below : List Frame} {meth : Method} {c : Code} {D : va_G} {aK : Nat → ClassId} {T : List Sh} {mv : Nat → Bool} {a0 : Nat → Nat}
theorem wfill_5 {k n : Nat} {x : Int} {M : Mm} (X : Cy p l e (rmn 0 0) s m args below meth c D aK T mv false a0 "java/util/Arrays" cfill 4 none (0, 0, fiM M k n x)) (hk : T[k]? = some (.inr (0, n))) (hn : n < 2147483648) : ∀ d i : Nat, i + d = n → Wm X 5 [some (.inr k), some (.inl x), some (.inl (i : Int)), some (.inl (n : Int))] [] (fiM M k i x) := by
  intro d
  induction d with
  | zero =>
    intro i hi
    refine x_iloadn dfill_5 rfl ?_
    refine x_iloadn dfill_6 rfl ?_
    refine x_ge (tA := some ()) (tB := none) (u := ()) (by unfold mlt; rw [if_pos ⟨⟨by omega, by omega⟩, ⟨by omega, by omega⟩⟩, if_neg (by omega)]) dfill_7 rfl (fun _ => ?_) (fun z => nomatch z)
    exact x_vret ⟨0, by rw [show i = n by omega]⟩ rfl dfill_20
  | succ d ih =>
    intro i hi
    refine x_iloadn dfill_5 rfl ?_
    refine x_iloadn dfill_6 rfl ?_
    refine x_ge (tA := none) (tB := some ()) (u := ()) (by unfold mlt; rw [if_pos ⟨⟨by omega, by omega⟩, ⟨by omega, by omega⟩⟩, if_pos (by omega)]) dfill_7 rfl (fun z => nomatch z) (fun _ => ?_)
    refine x_aloadn dfill_10 rfl ?_
    refine x_iloadn dfill_11 rfl ?_
    refine x_iloadn dfill_12 rfl ?_
    refine x_iast (K := fun M2 => some M2) (u := fiM M k (i + 1) x) (by unfold mwr; rw [if_pos ⟨by omega, by omega⟩, Int.toNat_natCast, fiM_s]) hk hn dfill_13 (fun M2 hM2 => ?_)
    cases hM2
    refine x_iinc dfill_14 rfl (by decide) ?_
    refine x_goto (tgt := 5) dfill_17 rfl ?_
    have h := ih (i + 1) (by omega)
    rw [show ((i + 1 : Nat) : Int) = (i : Int) + 1 by omega] at h
    exact h
theorem wfill {k n : Nat} {x : Int} {M : Mm} (X : Cy p l e (rmn 0 0) s m args below meth c D aK T mv false a0 "java/util/Arrays" cfill 4 none (0, 0, fiM M k n x)) (hk : T[k]? = some (.inr (0, n))) (hn : n < 2147483648) : Wm X 0 [some (.inr k), some (.inl x), none, none] [] M := by
  refine x_iconst dfill_0 ?_
  refine x_istoren dfill_1 (by decide) ?_
  refine x_aloadn dfill_2 rfl ?_
  refine x_alen hk dfill_3 ?_
  refine x_istoren dfill_4 (by decide) ?_
  have h := wfill_5 X hk hn n 0 (by omega)
  rw [fiM_0] at h
  exact h
theorem kfill (hl : l.stackTraces = false) {k n : Nat} (hk : T[k]? = some (.inr (0, n))) (hn : n < 2147483648) {x : Int} {M : Mm} (v0 : Int) (M9 : Mm) (hf : some ((0 : Int), fiM M k n x) = some (v0, M9)) : Ct l yfill (rmn 0 0) T mv false none [.inr k, .inl x] M (0, v0, M9) := by
  cases hf
  exact ct_of hl (by decide) ifill.1 (Nat.le_of_ble_eq_true rfl) (fun X => wfill X hk hn)
end FI
