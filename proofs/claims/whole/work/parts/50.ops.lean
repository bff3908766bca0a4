/-! What the pure layer owes the law: a relation of the two memories that every call keeps, with like answers -/
def Cong (Rl : Mm → Mm → Prop) : Prop := ∀ MX MX' MR MR' : Mm, (∀ k, k < 27 → MX' k = MX k) → (∀ k, k < 19 → MR' k = MR k) → Rl MX MR → Rl MX' MR'
def Orr (Rl : Mm → Mm → Prop) (cs : List Nat) (fx : Mm → Option (Nat × Int × Mm)) (fr : Mm → Option (Int × Mm)) : Prop := ∀ MX MR : Mm, Rl MX MR → ∃ (w : Nat × Int × Mm) (v : Int) (MR1 : Mm), fx MX = some w ∧ (w.1 = 0 ∨ w.1 ∈ cs) ∧ (w.1 = 0 → rI w.2.1 ∧ v = w.2.1) ∧ fr MR = some (v, MR1) ∧ MR1 0 0 = wrc cs w.1 ∧ Rl w.2.2 MR1
def Ovv (Rl : Mm → Mm → Prop) (cs : List Nat) (fx : Mm → Option (Nat × Int × Mm)) (fr : Mm → Option (Int × Mm)) : Prop := ∀ MX MR : Mm, Rl MX MR → ∃ (w : Nat × Int × Mm) (v : Int) (MR1 : Mm), fx MX = some w ∧ (w.1 = 0 ∨ w.1 ∈ cs) ∧ fr MR = some (v, MR1) ∧ MR1 0 0 = wrc cs w.1 ∧ Rl w.2.2 MR1
def Occ (Rl : Mm → Mm → Prop) (fx fr : Mm → Option (Int × Mm)) : Prop := ∀ MX MR : Mm, Rl MX MR → ∃ (v : Int) (MX1 MR1 : Mm), fx MX = some (v, MX1) ∧ fr MR = some (v, MR1) ∧ Rl MX1 MR1
def Oss (Rl : Mm → Mm → Prop) (fx fr : Mm → Option (Int × Mm)) : Prop := ∀ MX MR : Mm, Rl MX MR → ∃ (v v' : Int) (MX1 MR1 : Mm), fx MX = some (v, MX1) ∧ fr MR = some (v', MR1) ∧ Rl MX1 MR1
def Ch (x : Int) : Prop := 0 ≤ x ∧ x < 65536
def Ops (Rl : Mm → Mm → Prop) : Prop :=
  Cong Rl ∧ (∀ x1 x2 x3, rI x1 → rI x2 → Ch x3 → Orr Rl [1, 2] (fX_create x1 x2 x3) (fR_create x1 x2 x3)) ∧ (∀ x1 x2 x3, rI x1 → rI x2 → Ch x3 → Ovv Rl [1] (fX_link x1 x2 x3) (fR_link x1 x2 x3)) ∧ (∀ x1 x2, rI x1 → Ch x2 → Ovv Rl [1] (fX_unlink x1 x2) (fR_unlink x1 x2)) ∧ (∀ x1 x2, rI x1 → rI x2 → Orr Rl [1, 2] (fX_append x1 x2) (fR_append x1 x2)) ∧ (∀ x1, rI x1 → Orr Rl [1, 4] (fX_build x1) (fR_build x1)) ∧ (∀ x1, rI x1 → Orr Rl [3] (fX_peek x1) (fR_peek x1)) ∧ (∀ x1 x2, rI x1 → rI x2 → Ovv Rl [3] (fX_poke x1 x2) (fR_poke x1 x2)) ∧ Oss Rl fX_seal fR_seal ∧ Orr Rl [2] fX_mount fR_mount ∧ (∀ x1 x2, rI x1 → rI x2 → Orr Rl [2, 3, 1] (fX_stat x1 x2) (fR_stat x1 x2)) ∧ (∀ x1 x2, rI x1 → rI x2 → Orr Rl [2, 3] (fX_read x1 x2) (fR_read x1 x2)) ∧ (∀ x1 x2, rI x1 → Ch x2 → Orr Rl [2, 3, 1] (fX_find x1 x2) (fR_find x1 x2)) ∧ (∀ x1, rI x1 → Orr Rl [2] (fX_resolve x1) (fR_resolve x1)) ∧ (∀ x1, (x1 = 0 ∨ x1 = 1) → Occ Rl (fX_cache x1) (fR_cache x1)) ∧ Orr Rl [2] fX_check fR_check0
theorem wrc_0 (cs : List Nat) : wrc cs 0 = 0 := rfl
theorem wrc_p {cs : List Nat} {c : Nat} (h : ¬ c = 0) : 1 ≤ wrc cs c := by unfold wrc; rw [if_neg h]; omega
theorem wrc_r {cs : List Nat} (hl : cs.length < 100) (c : Nat) : rI (wrc cs c) := by
  unfold wrc
  have h : cs.findIdx (fun z => z == c) ≤ cs.length := List.findIdx_le_length
  by_cases hc : c = 0
  · rw [if_pos hc]; exact rI_0
  · rw [if_neg hc]; exact ⟨by omega, by omega⟩
section PU
variable {MX MR M : Mm} {k : Nat} {w : Nat × Int × Mm}
theorem mu_R (hk : k < 19) : mrg gR MR M (27 + k) = MR k := mrg_s (by unfold gR; rw [if_pos ⟨by omega, by omega⟩, show 27 + k - 27 = k by omega])
theorem mu_X (hk : k < 27) : mrg gX MX M k = MX k := mrg_s (by unfold gX; rw [if_pos hk])
theorem mu_RX (hk : k < 27) : mrg gR MR M k = M k := mrg_n (by unfold gR; rw [if_neg (fun z => by omega)])
theorem mu_XR : mrg gX MX M (27 + k) = M (27 + k) := mrg_n (by unfold gX; rw [if_neg (by omega)])
theorem mu_46 : mrg gR MR M 46 = M 46 := mrg_n (by unfold gR; rw [if_neg (fun z => by omega)])
theorem om_X (hk : k < 27) : outm M w k = w.2.2 k := by
  unfold outm
  by_cases h : w.1 = 0
  · rw [if_pos h, st_ne (by omega), mu_X hk]
  · rw [if_neg h, mu_X hk]
theorem om_R (hk : k < 19) : outm M w (27 + k) = M (27 + k) := by
  unfold outm
  by_cases h : w.1 = 0
  · rw [if_pos h, st_ne (by omega), mu_XR]
  · rw [if_neg h, mu_XR]
theorem om_46 (h : w.1 = 0) : outm M w 46 0 = w.2.1 := by
  unfold outm
  rw [if_pos h, st_same]
end PU
def RU (Rl : Mm → Mm → Prop) (M : Mm) : Prop := Rl M (fun k => M (27 + k))
section PO
variable {Rl : Mm → Mm → Prop} {cs : List Nat} {M : Mm}
theorem Orr.at_ {fx : Mm → Option (Nat × Int × Mm)} {fr : Mm → Option (Int × Mm)} (h : Orr Rl cs fx fr) (hc : Cong Rl) (hR : RU Rl M) : ∃ (w : Nat × Int × Mm) (v : Int) (MR1 : Mm), fx M = some w ∧ (w.1 = 0 ∨ w.1 ∈ cs) ∧ (w.1 = 0 → rI w.2.1 ∧ v = w.2.1) ∧ fr (fun k => outm M w (27 + k)) = some (v, MR1) ∧ MR1 0 0 = wrc cs w.1 ∧ RU Rl (mrg gR MR1 (outm M w)) := by
  obtain ⟨w, -, -, g1, -⟩ := h _ _ hR
  have hR2 : Rl M (fun k => outm M w (27 + k)) := hc _ _ _ _ (fun _ _ => rfl) (fun k hk => om_R hk) hR
  obtain ⟨w', v, MR1, g1', g2, g3, g4, g5, g6⟩ := h _ _ hR2
  have e : w = w' := Option.some.inj (g1.symm.trans g1')
  subst e
  exact ⟨w, v, MR1, g1, g2, g3, g4, g5, hc _ _ _ _ (fun k hk => by rw [mu_RX hk, om_X hk]) (fun k hk => mu_R hk) g6⟩
theorem Ovv.at_ {fx : Mm → Option (Nat × Int × Mm)} {fr : Mm → Option (Int × Mm)} (h : Ovv Rl cs fx fr) (hc : Cong Rl) (hR : RU Rl M) : ∃ (w : Nat × Int × Mm) (v : Int) (MR1 : Mm), fx M = some w ∧ (w.1 = 0 ∨ w.1 ∈ cs) ∧ fr (fun k => mrg gX w.2.2 M (27 + k)) = some (v, MR1) ∧ MR1 0 0 = wrc cs w.1 ∧ RU Rl (mrg gR MR1 (mrg gX w.2.2 M)) := by
  obtain ⟨w, v, MR1, g1, g2, g4, g5, g6⟩ := h _ _ hR
  have e : (fun k => mrg gX w.2.2 M (27 + k)) = fun k => M (27 + k) := funext fun k => mu_XR
  exact ⟨w, v, MR1, g1, g2, by rw [e]; exact g4, g5, hc _ _ _ _ (fun k hk => by rw [mu_RX hk, mu_X hk]) (fun k hk => mu_R hk) g6⟩
theorem Oss.at_ {fx fr : Mm → Option (Int × Mm)} (h : Oss Rl fx fr) (hc : Cong Rl) (hR : RU Rl M) : ∃ (v v' : Int) (MX1 MR1 : Mm), fx M = some (v, MX1) ∧ fr (fun k => mrg gX MX1 M (27 + k)) = some (v', MR1) ∧ RU Rl (mrg gR MR1 (mrg gX MX1 M)) := by
  obtain ⟨v, v', MX1, MR1, g1, g4, g6⟩ := h _ _ hR
  have e : (fun k => mrg gX MX1 M (27 + k)) = fun k => M (27 + k) := funext fun k => mu_XR
  exact ⟨v, v', MX1, MR1, g1, by rw [e]; exact g4, hc _ _ _ _ (fun k hk => by rw [mu_RX hk, mu_X hk]) (fun k hk => mu_R hk) g6⟩
theorem Occ.at_ {fx fr : Mm → Option (Int × Mm)} (h : Occ Rl fx fr) (hc : Cong Rl) (hR : RU Rl M) : ∃ (v : Int) (MX1 MR1 : Mm), fx M = some (v, MX1) ∧ fr (fun k => mrg gX MX1 M (27 + k)) = some (v, MR1) ∧ RU Rl (mrg gR MR1 (mrg gX MX1 M)) := by
  obtain ⟨v, MX1, MR1, g1, g4, g6⟩ := h _ _ hR
  have e : (fun k => mrg gX MX1 M (27 + k)) = fun k => M (27 + k) := funext fun k => mu_XR
  exact ⟨v, MX1, MR1, g1, by rw [e]; exact g4, hc _ _ _ _ (fun k hk => by rw [mu_RX hk, mu_X hk]) (fun k hk => mu_R hk) g6⟩
/-- asking the reference for its code changes nothing -/
theorem mu_self : mrg gR (fun k => M (27 + k)) M = M := by
  funext j
  by_cases hj : 27 ≤ j ∧ j < 46
  · rw [mrg_s (k := j - 27) (by unfold gR; rw [if_pos hj])]
    show M (27 + (j - 27)) = M j
    rw [show 27 + (j - 27) = j by omega]
  · exact mrg_n (by unfold gR; rw [if_neg hj])
end PO
section XY
variable {p : Program} {l : Launch} {e : Env} {R : Room} {s : State} {m : MethodId} {args : Array Value} {below : List Frame} {meth : Method} {c : Code} {D : va_G} {aK : Nat → ClassId} {T : List Sh} {mv : Nat → Bool} {pm : Bool} {a0 : Nat → Nat} {own : String} {cc : ByteArray} {nL : Nat} {ret : Option FieldType} {nh : Bool} {A : Nat → Prop} {Q : State → Prop} {nc ns : Nat}
variable {X : Cx p l e R s m args below meth c D aK T mv pm a0 own cc nL ret nh A Q nc ns} {pc : Nat} {L : List (Option Vv)} {S : List Vv} {M : Mm}
theorem y_eqj {x y : Int} {off : Int} {tgt : Nat} (hxy : x = y) (hr : rI y) (hd : decode cc pc = .ok (.if_icmp .eq off, 3)) (ht : (pc : Int) + off = (tgt : Int)) (k : Wm X tgt L S M) : Wm X pc L (.inl y :: .inl x :: S) M :=
  x_eq (ρ := Unit) (u := ()) (tA := some ()) (tB := none) (by subst hxy; unfold meq; rw [if_pos ⟨hr, hr⟩, if_pos rfl]) hd ht (fun _ => k) (fun z => nomatch z)
theorem y_eqs {x : Int} {off : Int} {tgt : Nat} (hd : decode cc pc = .ok (.if_icmp .eq off, 3)) (ht : (pc : Int) + off = (tgt : Int)) (k : Wm X tgt L S M) : Wm X pc L (.inl x :: .inl x :: S) M := by
  intro ad H ls locs h1 h2 h3 h4
  exact lv_icmp_eq (x := oI x) (y := oI x) X.hx X.hb hd ht (fun _ => k ad H ls locs h1 h2 h3 h4) (fun q => absurd rfl q)
theorem y_nej {x : Int} {off : Int} {tgt : Nat} (hx : ¬ x = 0) (hr : rI x) (hd : decode cc pc = .ok (.ifCond .ne off, 3)) (ht : (pc : Int) + off = (tgt : Int)) (k : Wm X tgt L S M) : Wm X pc L (.inl x :: S) M :=
  x_ne0 (ρ := Unit) (u := ()) (tA := some ()) (tB := none) (by unfold meq; rw [if_pos ⟨hr, rI_0⟩, if_neg hx]) hd ht (fun _ => k) (fun z => nomatch z)
theorem y_nef {x : Int} {off : Int} {tgt : Nat} (hx : x = 0) (hd : decode cc pc = .ok (.ifCond .ne off, 3)) (ht : (pc : Int) + off = (tgt : Int)) (k : Wm X (pc + 3) L S M) : Wm X pc L (.inl x :: S) M :=
  x_ne0 (ρ := Unit) (u := ()) (tA := none) (tB := some ()) (by subst hx; unfold meq; rw [if_pos ⟨rI_0, rI_0⟩, if_pos rfl]) hd ht (fun z => nomatch z) (fun _ => k)
theorem y_eq0 {x : Int} {off : Int} {tgt : Nat} (hr : rI x) (hd : decode cc pc = .ok (.ifCond .eq off, 3)) (ht : (pc : Int) + off = (tgt : Int)) (kt : x = 0 → Wm X tgt L S M) (kf : ¬ x = 0 → Wm X (pc + 3) L S M) : Wm X pc L (.inl x :: S) M := by
  by_cases hx : x = 0
  · exact x_eq0 (ρ := Unit) (u := ()) (tA := some ()) (tB := none) (by unfold meq; rw [if_pos ⟨hr, rI_0⟩, if_pos hx]) hd ht (fun _ => kt hx) (fun z => nomatch z)
  · exact x_eq0 (ρ := Unit) (u := ()) (tA := none) (tB := some ()) (by unfold meq; rw [if_pos ⟨hr, rI_0⟩, if_neg hx]) hd ht (fun z => nomatch z) (fun _ => kf hx)
theorem y_gt {x y : Int} {off : Int} {tgt : Nat} (hx : rI x) (hy : rI y) (hd : decode cc pc = .ok (.if_icmp .gt off, 3)) (ht : (pc : Int) + off = (tgt : Int)) (kt : y < x → Wm X tgt L S M) (kf : x ≤ y → Wm X (pc + 3) L S M) : Wm X pc L (.inl y :: .inl x :: S) M := by
  by_cases h : y < x
  · exact x_gt (ρ := Unit) (u := ()) (tA := some ()) (tB := none) (by unfold mlt; rw [if_pos ⟨hy, hx⟩, if_pos h]) hd ht (fun _ => kt h) (fun z => nomatch z)
  · exact x_gt (ρ := Unit) (u := ()) (tA := none) (tB := some ()) (by unfold mlt; rw [if_pos ⟨hy, hx⟩, if_neg h]) hd ht (fun z => nomatch z) (fun _ => kf (by omega))
end XY
