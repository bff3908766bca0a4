/-! A method's contract over its side's world; how a body gives it, how a call uses it -/
def PreI (D : va_G) (aK : Nat → ClassId) (T : List Sh) (ad : Nat → Nat) (M : Mm) (avs : List Vv) : Array Value → State → Prop := fun a U =>
  a = (avs.map (vl ad)).toArray ∧ va_P D vwCl (mkW ad aK T M) U.heap ∧ va_K D vwCl (tysK aK) U ∧ (∀ i j, i < T.length → j < T.length → ad i = ad j → i = j) ∧ ThS (AA ad T.length U.heap.size) U
def rmn (fr lo : Nat) : Room := { frames := fr, cells := 1, slots := 6, locals := lo }
def Ct (l : Launch) (y : MethodName) (rm : Room) (T : List Sh) (mv : Nat → Bool) (pm : Bool) (ret : Option FieldType) (avs : List Vv) (M : Mm) (r : Nat × Int × Mm) : Prop :=
  ∀ (D : va_G) (aK : Nat → ClassId) (ad : Nat → Nat), Jvm.Free.MetFree l y (headSpec WA rm) (PreI D aK T ad M avs) (fun _ _ _ _ _ => True) (fun _ st o t => EndIs D aK T mv pm ad ret r st o t)
theorem sl_len (ad : Nat → Nat) : ∀ avs : List Vv, (lg_sl (avs.map (vl ad))).length = avs.length
  | [] => rfl
  | v :: avs => by
    have h := sl_len ad avs
    unfold lg_sl at h ⊢
    rw [List.map_cons, List.flatMap_cons, if_neg (by rw [vl_cat]; decide), List.length_append, h]
    simp only [List.length_cons, List.length_nil]; omega
theorem la_mem (ad : Nat → Nat) : ∀ (avs : List Vv) (k i : Nat) (v : Vv), avs[i]? = some v → (k + i, vl ad v) ∈ lv_args k (avs.map (vl ad))
  | [], k, i, v, h => by cases h
  | w :: avs, k, i, v, h => by
    rw [List.map_cons]
    unfold lv_args
    rw [if_neg (by rw [vl_cat]; decide)]
    cases i with
    | zero => cases h; exact List.mem_cons_self
    | succ i =>
      have := la_mem ad avs (k + 1) i v h
      rw [show k + 1 + i = k + (i + 1) by omega] at this
      exact List.mem_cons_of_mem _ this
theorem ct_of {l : Launch} {y : MethodName} {rm : Room} {T : List Sh} {mv : Nat → Bool} {pm : Bool} {ret : Option FieldType} {avs : List Vv} {M : Mm} {r : Nat × Int × Mm} {cc : ByteArray} {nL : Nat} (hl : l.stackTraces = false) (hy : plainName y.cls = true) (hcode : Cond.code y cc nL ret ∈ WA) (hn : avs.length ≤ nL)
    (body : ∀ {p : Program} {e : Env} {s : State} {m : MethodId} {args : Array Value} {below : List Frame} {meth : Method} {c : Code} {D : va_G} {aK : Nat → ClassId} {a0 : Nat → Nat} (X : Cy p l e rm s m args below meth c D aK T mv pm a0 y.cls cc nL ret r), Wm X 0 (avs.map some ++ List.replicate (nL - avs.length) none) [] M) : Ct l y rm T mv pm ret avs M r := by
  intro D aK ad
  refine Jvm.Free.MetFree.of_bodyS (code := cc) (maxLocals := nL) (ret := ret) hy ?_ ?_
  · intro args s m h hn
    obtain ⟨meth, c, h1, h2, h3, h4, h5, h6, -, -⟩ := Cond.code_spec hn (atoms_spec (ws := WA) h _ hcode)
    exact ⟨meth, c, h1, h2, h3, h4, h5, h6⟩
  · intro p e s m args below meth c s₁ B hml hP _
    obtain ⟨rfl, p2, p3, p4, p5⟩ := hP
    have hts := atoms_spec (ws := WA) B.pre
    have hns : ∀ q cell, AA ad T.length s.heap.size q → s.heap[q]? = some cell → cell.vm.isStatics = false := by
      intro q cell hq hc
      rcases hq with ⟨i, hi, rfl⟩ | hq
      · obtain ⟨cell', e1, e2⟩ := mkW_plain p2 hi
        cases hc.symm.trans e1
        rw [e2]; rfl
      · exact absurd (Array.getElem?_eq_some_iff.mp hc).1 (by omega)
    have X : Cy p l e rm s m (avs.map (vl ad)).toArray below meth c D aK T mv pm ad y.cls cc nL ret r :=
      ⟨B.exec, B.bytes, hml, hts, findClass_of_methodNamed B.named, p3, B.notSynchronized, B.returns, fun _ => B.noHandlers (hts _ hcode), hl, p5, hns, fun i hi => Or.inl ⟨i, hi, rfl⟩, fun q hq => Or.inr hq⟩
    have hS : va_S (AA ad T.length s.heap.size) s.heap s.heap [] := va_S.rf
    have hl0 := lv_entry (avs.map (vl ad)) (n := nL) (by rw [sl_len]; exact hn)
    have hlv : lv_has ((lg_sl (avs.map (vl ad)) ++ List.replicate (nL - (lg_sl (avs.map (vl ad))).length) Slot.unset).toArray) nL (lvl ad (avs.map some ++ List.replicate (nL - avs.length) none)) := by
      refine ⟨hl0.1, hl0.2.1, fun q hq => hl0.2.2 q ?_⟩
      obtain ⟨i, v, hi, rfl⟩ := mem_lvl.mp hq
      by_cases hlt : i < avs.length
      · rw [List.getElem?_append_left (by rw [List.length_map]; exact hlt), List.getElem?_map] at hi
        have hv : avs[i]? = some v := by
          cases ha : avs[i]? with
          | none => rw [ha] at hi; cases hi
          | some w => rw [ha] at hi; cases hi; rfl
        have := la_mem ad avs 0 i v hv
        rw [Nat.zero_add] at this
        exact this
      · rw [List.getElem?_append_right (by rw [List.length_map]; omega)] at hi
        have := List.mem_of_getElem? hi
        rw [List.mem_replicate] at this
        cases this.2
    have hw := body X ad s.heap _ [] (agr_rf p4) p2 hS hlv
    rw [List.map_nil, ← lg_entry_eq] at hw
    have hh0 : s₁.heap = s.heap := by rw [B.state]; rfl
    obtain ⟨t, a1, o, b1, b2, b3⟩ := hw s₁ hh0 (Stand.of_body B)
    exact ⟨t, o, a1, b1, b2, b3⟩
/-- a call comes back, or throws -/
theorem ct_run {p : Program} {l : Launch} {e : Env} {R : Room} {s : State} {m : MethodId} {args : Array Value} {below : List Frame} {meth : Method} {c : Code} {U : State} {locs : List Loc} {y : MethodName} {rm : Room} {P : Array Value → State → Prop} {Q : Array Value → State → Outcome → State → Prop} {bytes : ByteArray} {maxL : Nat} {ret : Option FieldType}
    (hM : Jvm.Free.MetFree l y (headSpec WA rm) P (fun _ _ _ _ _ => True) Q) (Y : Stand p l e R s m args below meth c U locs 0 0) {g : JFrame} (hg : g.method = m) (hsize : g.locals.size = c.maxLocals) {ig : Instr} {len : Nat} (hdg : decode c.code g.pc = .ok (ig, len)) (hW : 2 * g.monitorRoom + (g.stack.map fun v => v.category).sum ≤ 8)
    {mk : MethodId} (hn : U.methodNamed? y = some mk) (hR : rm.frames + 1 ≤ R.frames ∧ 8 + (maxL + 11) + rm.locals ≤ R.locals ∧ rm.cells ≤ R.cells ∧ rm.slots ≤ R.slots) {a : Array Value} (hpre : ∀ w ∈ WA, w.before a U = true) (hcode : Cond.code y bytes maxL ret ∈ WA) (hini : Cond.initialized y.cls ∈ WA) (hP : P a (U.calling g mk a))
    (hQ : ∀ o t, Q a (U.calling g mk a) o t → (U.calling g mk a).WarmedH t.vm ∧ ∃ L k n, (U.calling g mk a).sameButNew ({ t with vm := (U.calling g mk a).vm } : State) L k n) :
    ∃ (o : Outcome) (t : State), Q a (U.calling g mk a) o t ∧ (∀ L k n, (U.calling g mk a).sameButNew ({ t with vm := (U.calling g mk a).vm } : State) L k n → Stand p l e R s m args below meth c (({ U with heap := t.heap, slotsUsed := t.slotsUsed } : State).setVm t.vm) (locs ++ L) (0 + k) (0 + n)) ∧
      (∀ v, o = .returned v → Steps p.tables e below (doInvoke e (U.setTop g) [] mk a).1 ((({ U with heap := t.heap, slotsUsed := t.slotsUsed } : State).setVm t.vm).setTop { g with pc := g.pc + len, stack := v.toList ++ g.stack })) ∧
      (∀ x, o = .threw x → Steps p.tables e below (doInvoke e (U.setTop g) [] mk a).1 (((({ U with heap := t.heap, slotsUsed := t.slotsUsed } : State).setVm t.vm).setTop g).pushFrame (.throwing x))) := by
  subst hg
  obtain ⟨methY, cY, hmY, hcY, -, hlY, -, -, -, -⟩ := Cond.code_spec hn (hpre _ hcode)
  obtain ⟨kY, hkY, -⟩ := className_of_methodNamed hn
  have hinitY : kY.init = .initialized := Cond.initialized_spec (findClass_of_methodNamed hn) hkY (hpre _ hini)
  have h : At U g.method c below := Y.here
  have happ : (headSpec WA rm).appliesLoose y e.platform (U.calling g mk a) = true :=
    Spec.appliesLoose_calling (g := g) h hdg hn hkY hinitY (Y.room_calling (g := g) (R' := (headSpec WA rm).room) hsize hmY hcY hR.1 (by rw [hlY]; show _ + rm.locals ≤ _; omega) (by show 0 + rm.cells ≤ _; omega) (by show 0 + rm.slots ≤ _; omega)) (atoms_intro hpre)
  obtain ⟨mid, hmid⟩ := h.above
  have hfr : (U.setTop g).frames = (.java g :: mid) ++ below := by rw [State.frames_setTop' g h.top, hmid]; rfl
  obtain ⟨o, t, hsteps, -, hend, hq⟩ := Jvm.Free.Steps.callFree hM p Y.admits Y.cas Y.clock (acts := []) hfr happ hP trivial
  have hq' : Q a (U.calling g mk a) o t := hq
  rw [State.frames_setTop' g h.top] at hend
  obtain ⟨hWt, L0, k0, n0, e1, -⟩ := hQ o t hq'
  have hWU : U.WarmedH t.vm := hWt
  obtain ⟨g₀, hg0⟩ := Option.isSome_iff_exists.mp h.top
  obtain ⟨rr, hrr⟩ := State.topJava?_eq_some.mp hg0
  have e3 : t = ({ (U.calling g mk a).setFrames t.frames with heap := t.heap, slotsUsed := t.slotsUsed } : State).setVm t.vm := by
    have : t = ({ t with vm := (U.calling g mk a).vm } : State).setVm t.vm := rfl
    rw [e1] at this
    exact this
  refine ⟨o, t, hq', fun L k n hs => ?_, fun v hv => ?_, fun x hx => ?_⟩
  · obtain ⟨-, q2, q3, q4, q5, q6⟩ := hs
    have hsame : U.sameButNew ({ U with heap := t.heap, slotsUsed := t.slotsUsed } : State) L k n := by
      refine ⟨?_, q2, q3, q4, q5, q6⟩
      obtain ⟨t', ht', -⟩ := State.frames_cons hrr
      show ({ U with heap := t.heap, slotsUsed := t.slotsUsed } : State) = { U.setFrames U.frames with heap := t.heap, slotsUsed := t.slotsUsed }
      rw [State.setFrames_self ht']
    exact ⟨Y.admits, Y.cas, Y.clock, Y.frames, Y.room, Y.hears, Y.method, Y.code, (Y.here.setHeapUsed t.heap t.slotsUsed).setVm hWU.alike, Y.tail, State.WarmedH.trans Y.warmed hWU, Y.limits, Y.bytes, Y.same.trans (hsame.setVm s.vm)⟩
  · subst hv
    obtain ⟨c₂, i₂, len₂, hc₂, hd₂, hf₂⟩ := hend
    have hcc : c₂ = c := by
      have h1 : t.code? g.method = U.code? g.method := by
        rw [State.code?_eq, State.code?_eq, hWU.alike.method?]
      exact Option.some.inj (hc₂.symm.trans (h1.trans h.code))
    subst hcc
    have hlen : len₂ = len := by rw [hdg] at hd₂; cases hd₂; rfl
    subst hlen
    have hs₂ : t = (({ U with heap := t.heap, slotsUsed := t.slotsUsed } : State).setVm t.vm).setTop { g with pc := g.pc + len₂, stack := v.toList ++ g.stack } := by
      have hr' : (({ U with heap := t.heap, slotsUsed := t.slotsUsed } : State).setVm t.vm).frames = .java g₀ :: rr := hrr
      refine e3.trans ?_
      rw [hf₂, State.calling_eq h.top, State.setFrames_setFrames, State.setTop_of_frames _ hr', hrr]
      rfl
    rw [← hs₂]
    exact hsteps
  · subst hx
    have hf₂ : t.frames = .throwing x :: .java g :: U.frames.tail := hend
    have hs₂ : t = ((({ U with heap := t.heap, slotsUsed := t.slotsUsed } : State).setVm t.vm).setTop g).pushFrame (.throwing x) := by
      have hr' : (({ U with heap := t.heap, slotsUsed := t.slotsUsed } : State).setVm t.vm).frames = .java g₀ :: rr := hrr
      refine e3.trans ?_
      rw [hf₂, State.calling_eq h.top, State.setFrames_setFrames, State.pushFrame, State.frames_setTop _ hr', State.setTop_of_frames _ hr', State.setFrames_setFrames, hrr]
      rfl
    rw [← hs₂]
    exact hsteps
