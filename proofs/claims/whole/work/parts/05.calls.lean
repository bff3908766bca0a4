/-! Words that stay, throwing, calling -/
theorem gw_at {args a' : Array Value} {s U : State} (hW : s.WarmedH U.vm) {w : Cond} (hg : gw w = true) (h : w.before args s = true) : w.before a' U = true := by
  have two : ∀ {w : Cond}, w.onTables = true → w.before args (s.setVm U.vm) = true → w.before a' U = true := by
    intro w h1 h2
    rw [Cond.onTables_vm (A' := a') (U' := U) U.vm w h1] at h2
    rwa [State.setVm_self] at h2
  have gen : ∀ {w : Cond}, (w.onTables && (w.keeps || w.faceAtom)) = true → w.before args s = true → w.before a' U = true := by
    intro w h1 h2
    rw [Bool.and_eq_true, Bool.or_eq_true] at h1
    rcases h1 with ⟨h3, h4 | h4⟩
    · exact word_at hW (Or.inl (by rw [h3, h4]; rfl)) h2
    · exact two h3 (Cond.faceAtom_setVm hW.alike w h4 h2)
  cases w with
  | arrayClass ty => exact word_at hW (Or.inr ⟨ty, rfl⟩) h
  | fieldLinkNest a b c d e f => exact two rfl (Cond.fieldLinkNest_warmed hW h)
  | methodLinkNest a b c d => exact two rfl (Cond.methodLinkNest_warmed hW h)
  | _ => exact gen hg h
theorem WA_at {args a' : Array Value} {s U : State} (hW : s.WarmedH U.vm) (h : ∀ w ∈ WA, w.before args s = true) : ∀ w ∈ WA, w.before a' U = true := fun w hw => gw_at hW (WA_good w hw) (h w hw)
/-- the walk's own start moved up to where it stands -/
theorem rb_stand {p : Program} {l : Launch} {e : Env} {R R' : Room} {s : State} {m : MethodId} {args : Array Value} {below : List Frame} {meth : Method} {c : Code} {U : State} {locs : List Loc} {cells slots : Nat}
    (Y : Stand p l e R s m args below meth c U locs cells slots) (r1 : R'.frames ≤ R.frames) (r2 : R'.locals ≤ R.locals) (r3 : cells + R'.cells ≤ R.cells) (r4 : slots + R'.slots ≤ R.slots) :
    Stand p l e R' ((U.setVm s.vm).setFrames (.invoking m args :: below)) m args below meth c U [] 0 0 := by
  obtain ⟨g0, hfr⟩ := Y.frames_eq
  obtain ⟨t0, ht0, -⟩ := State.frames_cons hfr
  have hcur : (U.setVm s.vm).cur < (U.setVm s.vm).threads.size := State.cur_lt_of_frames (s := U) hfr
  have hF : ((U.setVm s.vm).setFrames (.invoking m args :: below)).frames = .invoking m args :: below := State.frames_setFrames _ hcur
  have hLI : ((U.setVm s.vm).setFrames (.invoking m args :: below)).localsInUse = s.localsInUse :=
    (State.localsInUse_invoking hF (meth := meth) (c := c) Y.method Y.code).trans (State.localsInUse_invoking Y.frames Y.method Y.code).symm
  have hlim : e.platform.stackLimits ((U.setVm s.vm).setFrames (.invoking m args :: below)).me = e.platform.stackLimits s.me := by rw [State.stackLimits_setFrames]; exact Y.limits
  have hsb : ((U.setVm s.vm).setFrames (.invoking m args :: below)).me.stackBytes = s.me.stackBytes := by rw [State.stackBytes_setFrames]; exact Y.bytes
  have hlen : s.frames.length = below.length + 1 := by rw [Y.frames]; rfl
  refine ⟨Y.admits, Y.cas, Y.clock, hF, ?_, Y.hears, Y.method, Y.code, Y.here, Y.tail, Y.warmed, Y.limits.trans hlim.symm, Y.bytes.trans hsb.symm, ?_⟩
  · have h := Y.room
    have q1 := Y.heapSize
    have q2 := Y.used
    have q3 := Y.book
    simp only [State.hasRoom, Bool.and_eq_true, decide_eq_true_eq, hlen] at h
    simp only [State.hasRoom, Bool.and_eq_true, decide_eq_true_eq, hF, hLI, hlim, hsb, List.length_cons]
    obtain ⟨⟨⟨⟨k1, k2, k3, k4, k5, k6⟩, k7⟩, k8⟩, k9⟩ := h
    refine ⟨⟨⟨⟨by omega, by omega, by omega, by omega, by omega, k6⟩, ?_⟩, ?_⟩, q3⟩
    · show U.heap.size + R'.cells ≤ _; omega
    · show U.slotsUsed + R'.slots ≤ _; omega
  · have hd : (U.heap.toList.drop U.heap.size) = [] := List.drop_eq_nil_of_le (Nat.le_of_eq Array.length_toList)
    refine ⟨?_, Nat.le_refl _, Nat.le_refl _, ?_, ?_, fun a x hx => ⟨x, hx, rfl, rfl, fun _ _ => rfl⟩⟩
    · show U.setVm s.vm = { ((U.setVm s.vm).setFrames (.invoking m args :: below)).setFrames (U.setVm s.vm).frames with heap := U.heap, slotsUsed := U.slotsUsed }
      rw [State.setFrames_setFrames, State.setFrames_self (s := U.setVm s.vm) ht0]
      rfl
    · show U.slotsUsed = U.slotsUsed + ((U.heap.toList.drop U.heap.size).map (·.slots.size)).sum
      rw [hd]; rfl
    · show ((U.heap.toList.drop U.heap.size).map (·.slots.size)).sum ≤ 0
      rw [hd]; exact Nat.le_refl _
/-- from a frame condition: cells that no place of it names stay as they were -/
theorem sb_keeps {s t : State} {L : List Loc} {k n : Nat} (h : s.sameButNew ({ t with vm := s.vm } : State) L k n) {q : Nat} (hq : q < s.heap.size) (hL : ∀ x ∈ L, x.base ≠ q) : t.heap[q]? = s.heap[q]? := by
  obtain ⟨-, -, -, -, -, h6⟩ := h
  have hc : s.heap[q]? = some s.heap[q] := Array.getElem?_eq_getElem hq
  obtain ⟨c', e1, e2, e3, e4⟩ := h6 q _ hc
  have e1' : t.heap[q]? = some c' := e1
  rw [e1', hc]
  congr 1
  rw [e2]
  have : c'.slots = s.heap[q].slots := by
    apply Array.ext_getElem?
    intro i
    exact e4 i (fun z => hL _ z rfl)
  rw [this]
/-- what throwing needs of the tables -/
def TW (own : String) (ik ic : Nat) (cls : String) (names : List String) : Prop := Cond.classLink own ik cls ∈ WA ∧ Cond.initialized cls ∈ WA ∧ ∀ w ∈ Jvm.Bundle.ownAtoms0 own ic cls names, w ∈ WA ∨ w = .isRef (.static thN "UNASSIGNED_STACK" thU) ∨ w = .isRef (.static thN "SUPPRESSED_SENTINEL" thL) ∨ w = .laysStatic thN "UNASSIGNED_STACK" thU ∨ w = .laysStatic thN "SUPPRESSED_SENTINEL" thL
def twc (w : Cond) : Bool := (decide (w ∈ tables_1) && gw w) || decide (w = .isRef (.static thN "UNASSIGNED_STACK" thU)) || decide (w = .isRef (.static thN "SUPPRESSED_SENTINEL" thL)) || decide (w = .laysStatic thN "UNASSIGNED_STACK" thU) || decide (w = .laysStatic thN "SUPPRESSED_SENTINEL" thL)
theorem tw_all (L : List Cond) (h : L.all twc = true) : ∀ w ∈ L, w ∈ WA ∨ w = .isRef (.static thN "UNASSIGNED_STACK" thU) ∨ w = .isRef (.static thN "SUPPRESSED_SENTINEL" thL) ∨ w = .laysStatic thN "UNASSIGNED_STACK" thU ∨ w = .laysStatic thN "SUPPRESSED_SENTINEL" thL := by
  intro w hw
  have h1 := List.all_eq_true.mp h w hw
  simp only [twc, Bool.or_eq_true, Bool.and_eq_true, decide_eq_true_eq] at h1
  rcases h1 with (((⟨h2, h3⟩ | h2) | h2) | h2) | h2
  · exact Or.inl (List.mem_filter.mpr ⟨List.mem_append_right _ h2, h3⟩)
  · exact Or.inr (Or.inl h2)
  · exact Or.inr (Or.inr (Or.inl h2))
  · exact Or.inr (Or.inr (Or.inr (Or.inl h2)))
  · exact Or.inr (Or.inr (Or.inr (Or.inr h2)))
section XT
variable {p : Program} {l : Launch} {e : Env} {R : Room} {s : State} {m : MethodId} {args : Array Value} {below : List Frame} {meth : Method} {c : Code} {D : va_G} {aK : Nat → ClassId} {T : List Sh} {mv : Nat → Bool} {pm : Bool} {a0 : Nat → Nat} {own : String} {cc : ByteArray} {nL : Nat} {ret : Option FieldType} {r : Nat × Int × Mm}
variable {X : Cy p l e R s m args below meth c D aK T mv pm a0 own cc nL ret r} {pc : Nat} {L : List (Option Vv)} {S : List Vv} {M : Mm} {ρ : Type} {u : ρ}
set_option maxHeartbeats 1000000 in
theorem x_throw {code ik ic : Nat} {z : Int} {names : List String} (hE : r = (code, z, M)) (h0 : ¬ code = 0) (hw : TW own ik ic (exN code) names) (hfit : Jvm.Bundle.fit (exN code) = true) (hnames : ∀ n ∈ names, Jvm.Bundle.fit n = true) (hR : names.length + 3 < R.frames ∧ S.length + 1 + (13 * (names.length + 1) + 41) ≤ R.locals ∧ 1 ≤ R.cells ∧ 6 ≤ R.slots)
    (d0 : decode cc pc = .ok (.new ik, 3)) (d3 : decode cc (pc + 3) = .ok (.dup, 1)) (d4 : decode cc (pc + 4) = .ok (.invokespecial ic, 3)) (d7 : decode cc (pc + 7) = .ok (.athrow, 1)) : Wm X pc L S M := by
  intro ad H ls locs h1 h2 h3 h4 U hU Y
  obtain ⟨w1, w2, w3⟩ := hw
  obtain ⟨R1, R2, R3, R4⟩ := hR
  have htr : e.platform.stackTraces = false := (show e.platform.stackTraces = l.stackTraces by rw [Y.admits.platform]).trans X.hst
  have Z := rb_stand (R' := { frames := R.frames, locals := R.locals, cells := 1, slots := 6 }) Y (Nat.le_refl _) (Nat.le_refl _) (by show 0 + 1 ≤ _; omega) (by show 0 + 6 ≤ _; omega)
  generalize hs' : (U.setVm s.vm).setFrames (.invoking m args :: below) = s' at Z
  have hvm : s'.vm = s.vm := by rw [← hs']; rfl
  have hhp : s'.heap = H := by rw [← hs']; exact hU
  have hWs : s.WarmedH s'.vm := by rw [hvm]; exact State.WarmedH.refl s
  have hts : ∀ w ∈ WA, w.before args s' = true := WA_at hWs X.hts
  have hA : va_S (AA a0 T.length s.heap.size) s.heap H locs := h3
  have z1 : Zs thN "UNASSIGNED_STACK" thU (AA a0 T.length s.heap.size) s' s'.heap := by rw [hhp]; exact (X.hth.1.kept hA.2.1).moved hWs.alike
  have z2 : Zs thN "SUPPRESSED_SENTINEL" thL (AA a0 T.length s.heap.size) s' s'.heap := by rw [hhp]; exact (X.hth.2.kept hA.2.1).moved hWs.alike
  have hat : ∀ w ∈ Jvm.Bundle.ownAtoms0 own ic (exN code) names, w.before args s' = true := fun w hw => by
    rcases w3 w hw with q | rfl | rfl | rfl | rfl
    · exact hts w q
    · exact z1.ref
    · exact z2.ref
    · exact z1.lay
    · exact z2.lay
  have hown : s'.vm.findClass own = some m.cls := by rw [hvm]; exact X.hown
  have hins : (Cond.instantiable (exN code) 6).before args s' = true := hat _ (by simp [Jvm.Bundle.ownAtoms0])
  have hb := X.hb
  have hml := X.hml
  have hx := X.hx
  subst hb
  obtain ⟨vm1, cX, kX, f1, f2, -, -, Z1, st1⟩ := Z.newCold hx (own := own) (C := exN code) (index := ik) (n := 6) hown (hts _ w1) hins (hts _ w2) (g := F0 m pc ls (S.map (vl ad))) rfl d0 (Nat.le_refl _) (Nat.le_refl _)
  have hsz : U.heap.size = s'.heap.size := by rw [hhp, hU]
  have hcellA : ((U.setVm vm1).pushCell { cls := cX, slots := kX.instanceTypes.map defaultValue, vm := .none }).heap[U.heap.size]? = some (freshCell cX kX) := State.heap_pushCell_size _ _
  generalize hT1 : (U.setVm vm1).pushCell { cls := cX, slots := kX.instanceTypes.map defaultValue, vm := .none } = T1 at Z1 st1 hcellA
  have hno : c.exceptionTable.toList = [] := by
    have h := X.hnoh rfl
    rw [Array.isEmpty_iff] at h
    rw [h]
  obtain ⟨V, g1, g2, g3, g4, g5, ce, g6, g7⟩ := Z1.ctorThrow0 hx htr (own := own) (cls := exN code) (names := names) (ic := ic) hown hfit hnames hat (fun x hx => nomatch hx) f1 f2 hcellA (Nat.le_of_eq hsz.symm)
    (g := { method := m, pc := pc + 4, locals := ls, stack := .ref U.heap.size :: .ref U.heap.size :: S.map (vl ad), locked := none }) rfl (by rw [hml]; exact h4.1) rfl rfl (rest := S.map (vl ad)) rfl d4 d7 (fun x hx => by rw [hno] at hx; exact nomatch hx) R1
    (by show 2 * 0 + (((Value.ref U.heap.size).category) + ((S.map (vl ad)).map fun v => v.category).sum) + _ ≤ _
        rw [st_cat]
        show 2 * 0 + (1 + S.length) + (13 * (names.length + 1) + 41) ≤ R.locals
        omega) X.hlocks
  have hkeep : ∀ q : Nat, q < H.size → V.heap[q]? = H[q]? := fun q hq => by
    have := sb_keeps g5 (q := q) (by rw [hhp]; exact hq) (fun x hx => nomatch hx)
    rw [hhp] at this
    exact this
  have hle : H.size ≤ V.heap.size := by
    have := g5.2.1
    rw [hhp] at this
    exact this
  have hWV : s.WarmedH V.vm := State.WarmedH.trans hWs g4
  have hall : s.sameButNew ({ V with vm := s.vm } : State) locs 1 6 := by
    subst hs'
    obtain ⟨e1, e2⟩ := g5
    rw [State.setFrames_setFrames] at e1
    have k2 : (U.setVm s.vm).sameButNew ({ V with vm := s.vm } : State) [] (0 + 1) (0 + 6) := ⟨e1, e2⟩
    have k3 := Y.same.trans k2
    rw [List.append_nil] at k3
    exact k3
  refine ⟨V, st1 _ ?_, .threw U.heap.size, g2, g3, ad, locs, 1, 6, h1, hWV, hall, h3.2.2, ?_, ?_, ?_, Or.inr ⟨by rw [hE]; exact h0, rfl, rfl, U.heap.size, rfl, ?_⟩⟩
  · show Steps p.tables e below (T1.setTop { method := m, pc := pc + 3, locals := ls, stack := .ref U.heap.size :: S.map (vl ad), locked := none }) _
    jvm_step Z1.here [Z1.here.top, hx, d3, Value.category]
    exact g1
  · rw [hE]
    refine va_P.kept h2 (fun k q hk => hkeep q.1 (va_at.lt (h2 k q hk)))
  · exact Nat.le_trans h3.1 hle
  · intro q hq1 hq2
    rw [hkeep q (Nat.lt_of_lt_of_le hq1 h3.1)]
    exact h3.2.1 q hq1 hq2
  · refine ⟨ce, g6, g7.vm, ?_⟩
    have := g7.cls
    rw [hvm] at this
    rw [hE]
    rw [hWV.alike.findClass]
    exact this
end XT
