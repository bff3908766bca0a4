/-! Catching: a row of the table whose entry may still be unresolved -/
theorem hs_row {Q : Handler → Jvm.Pre} {E : Jvm.CtlPost} {e : Env} {d : Bool} {acts : List Action} {s : State} {f : JFrame} {a : Addr} {x : ExceptionTableEntry} {t : List ExceptionTableEntry} {k : ClassId} {cell : Cell} (hx : covers x f.pc = true) (h0 : x.catchType ≠ 0)
    (hl : s.vm.ClassLinks e.platform f.method.cls x.catchType k) (hcell : s.heap[a]? = some cell) (hobj : ∀ z, cell.vm ≠ .statics z) (hk : ∃ z, s.vm.classes[cell.cls]? = some z) (hc : ∃ z, s.vm.classes[k]? = some z) :
    Jvm.Sem.wp (findHandler.go f a (x :: t)) Q E e d acts s ↔ if s.vm.assignable cell.cls k = true then Q (.found x.handlerPc) d acts (s.setVm (s.vm.noted f.method.cls x.catchType (.cls k))) else Jvm.Sem.wp (findHandler.go f a t) Q E e d acts (s.setVm (s.vm.noted f.method.cls x.catchType (.cls k))) := by
  obtain ⟨z1, hz1⟩ := hk
  obtain ⟨z2, hz2⟩ := hc
  have hal : s.vm.Alike (s.vm.noted f.method.cls x.catchType (.cls k)) := (Vm.Alike.refl s.vm).noted _ _ _
  obtain ⟨y1, hy1, -⟩ := hal.2.2 _ _ hz1
  obtain ⟨y2, hy2, -⟩ := hal.2.2 _ _ hz2
  obtain ⟨r1, r2⟩ := (resolveClass_links e.toSetting hl).op (op := VmOp.resolveClass f.method.cls x.catchType) rfl
  have has : (s.vm.noted f.method.cls x.catchType (.cls k)).assignable cell.cls k = s.vm.assignable cell.cls k := hal.assignable ..
  simp only [covers] at hx
  cases hfit : s.vm.assignable cell.cls k
  · rw [hfit] at has
    simp [findHandler.go, hx, h0, r1, r2, hcell, hobj, hy1, hy2, has, VmOp.dirties, VmOp.acts]
  · rw [hfit] at has
    simp [findHandler.go, hx, h0, r1, r2, hcell, hobj, hy1, hy2, has, VmOp.dirties, VmOp.acts]
/-- what the search comes to, and in which tables -/
def HsTo (e : Env) (s : State) (f : JFrame) (a : Addr) (pc : Nat) (vm' : Vm) (T : List ExceptionTableEntry) : Prop :=
  ∀ (Q : Handler → Jvm.Pre) (E : Jvm.CtlPost) (d : Bool) (acts : List Action), Jvm.Sem.wp (findHandler.go f a T) Q E e d acts s ↔ Q (.found pc) d acts (s.setVm vm')
/-- a row that doesn't take the object -/
def HsOff (pl : Platform) (s : State) (d : ClassId) (pc : Nat) (k : ClassId) (z : ExceptionTableEntry) : Prop := covers z pc = false ∨ (z.catchType ≠ 0 ∧ ∃ c, s.vm.ClassLinks pl d z.catchType c ∧ s.vm.assignable k c = false)
theorem hs_link {pl : Platform} {s : State} {d i c : Nat} (h : s.vm.ClassLinks pl d i c) {vm1 : Vm} (hW : s.WarmedH vm1) : (∃ z, vm1.classes[c]? = some z) ∧ s.WarmedH (vm1.noted d i (.cls c)) ∧ vm1.ClassLinks pl d i c := by
  obtain ⟨dk, _, _, kt, hd, _, _, _, _, hkt, _, hopen⟩ := h.here
  obtain ⟨kt', hkt', -⟩ := hW.alike.2.2 _ _ hkt
  exact ⟨⟨kt', hkt'⟩, hW.noted hd hopen (State.rightAt_cls h), hW.classLinks h⟩
theorem hs_find {e : Env} {s : State} {f : JFrame} {a : Addr} {cell : Cell} {x : ExceptionTableEntry} {suf : List ExceptionTableEntry} {k : ClassId} (hobj : ∀ z, cell.vm ≠ .statics z) (hk : ∃ z, s.vm.classes[cell.cls]? = some z) (hx : covers x f.pc = true) (h0 : x.catchType ≠ 0) (hl : s.vm.ClassLinks e.platform f.method.cls x.catchType k) (has : s.vm.assignable cell.cls k = true) :
    ∀ (pre : List ExceptionTableEntry) (S : State), s.WarmedH S.vm → S.heap[a]? = some cell → (∀ z ∈ pre, HsOff e.platform s f.method.cls f.pc cell.cls z) → ∃ vm', s.WarmedH vm' ∧ HsTo e S f a x.handlerPc vm' (pre ++ x :: suf) := by
  intro pre
  induction pre with
  | nil =>
    intro S hW hcell _
    obtain ⟨z1, hz1⟩ := hk
    obtain ⟨y1, hy1, -⟩ := hW.alike.2.2 _ _ hz1
    obtain ⟨g1, g2, g3⟩ := hs_link hl hW
    refine ⟨_, g2, fun Q E d acts => ?_⟩
    rw [List.nil_append, hs_row hx h0 g3 hcell hobj ⟨y1, hy1⟩ g1, if_pos (by rw [hW.alike.assignable]; exact has)]
  | cons z zs ih =>
    intro S hW hcell hp
    have hrest : ∀ w ∈ zs, HsOff e.platform s f.method.cls f.pc cell.cls w := fun w hw => hp w (List.mem_cons_of_mem _ hw)
    cases hcov : covers z f.pc with
    | false =>
      obtain ⟨vm', q1, q2⟩ := ih S hW hcell hrest
      refine ⟨vm', q1, fun Q E d acts => ?_⟩
      rw [List.cons_append, Jvm.W.findHandler_go_skip hcov]
      exact q2 Q E d acts
    | true =>
      rcases hp z List.mem_cons_self with h | ⟨hz0, c, hcl, hno⟩
      · rw [hcov] at h; cases h
      · obtain ⟨z1, hz1⟩ := hk
        obtain ⟨y1, hy1, -⟩ := hW.alike.2.2 _ _ hz1
        obtain ⟨g1, g2, g3⟩ := hs_link hcl hW
        obtain ⟨vm', q1, q2⟩ := ih (S.setVm (S.vm.noted f.method.cls z.catchType (.cls c))) g2 hcell hrest
        refine ⟨vm', q1, fun Q E d acts => ?_⟩
        rw [List.cons_append, hs_row hcov hz0 g3 hcell hobj ⟨y1, hy1⟩ g1, if_neg (by rw [hW.alike.assignable, hno]; decide)]
        exact q2 Q E d acts
/-- thrown over the method's own frame, and caught there -/
theorem hs_caught {p : Program} {l : Launch} {e : Env} {R : Room} {s : State} {m : MethodId} {args : Array Value} {below : List Frame} {meth : Method} {c : Code} {U : State} {locs : List Loc} {nc ns : Nat} (Y : Stand p l e R s m args below meth c U locs nc ns) {g : JFrame} (hg : g.method = m) {a : Addr} {cell : Cell} (hcell : U.heap[a]? = some cell) (hobj : cell.vm = .none) (hk : ∃ z, s.vm.classes[cell.cls]? = some z)
    (pre : List ExceptionTableEntry) (x : ExceptionTableEntry) (suf : List ExceptionTableEntry) (hsp : c.exceptionTable.toList = pre ++ x :: suf) (hoff : ∀ z ∈ pre, HsOff e.platform s m.cls g.pc cell.cls z) (hx : covers x g.pc = true) (h0 : x.catchType ≠ 0) {k : ClassId} (hl : s.vm.ClassLinks e.platform m.cls x.catchType k) (has : s.vm.assignable cell.cls k = true) :
    ∃ vm', Stand p l e R s m args below meth c (U.setVm vm') locs nc ns ∧ Steps p.tables e below ((U.setTop g).pushFrame (.throwing a)) ((U.setVm vm').setTop { g with pc := x.handlerPc, stack := [.ref a] }) := by
  subst hg
  obtain ⟨vm', hW, hto⟩ := hs_find (e := e) (s := s) (f := g) (a := a) (cell := cell) (suf := suf) (fun z hz => by rw [hobj] at hz; cases hz) hk hx h0 hl has pre ((U.setTop g).pushFrame (.throwing a)) Y.warmed hcell hoff
  have hfind : ∀ (Q : Handler → Jvm.Pre) (E : Jvm.CtlPost) (d : Bool) (acts : List Action), Jvm.Sem.wp (findHandler g a) Q E e d acts ((U.setTop g).pushFrame (.throwing a)) ↔ Q (.found x.handlerPc) d acts (((U.setTop g).pushFrame (.throwing a)).setVm vm') := by
    intro Q E d acts
    rw [Jvm.W.findHandler_eq (s := (U.setTop g).pushFrame (.throwing a)) (meth := meth) (code := c) Y.method' Y.code, hsp]
    exact hto Q E d acts
  refine ⟨vm', Y.noted hW, ?_⟩
  obtain ⟨hgo, hw⟩ := Y.here.throwing a
  refine Steps.head hgo hw ?_
  have hstep : (stepThrowing e ((U.setTop g).pushFrame (.throwing a)) a (.java g :: U.frames.tail)).Is ((((U.setTop g).pushFrame (.throwing a)).setVm vm').setFrames (.java { g with pc := x.handlerPc, stack := [.ref a] } :: U.frames.tail)) [] := by
    simp only [stepThrowing, searchFrame, vmDo]
    generalize hr : Sem.go _ e false [] ((U.setTop g).pushFrame (.throwing a)) = res
    obtain ⟨as, rfl, ha⟩ := Sem.eq_ok_of hr (a := Handler.found x.handlerPc) (s' := ((U.setTop g).pushFrame (.throwing a)).setVm vm') (acts' := []) (by simp [hfind _ _ _ _])
    exact ⟨rfl, ha⟩
  rw [stepThread_throwing (frames_entered Y.here.top _), hstep.1]
  obtain ⟨g₀, hg0⟩ := Option.isSome_iff_exists.mp Y.here.top
  obtain ⟨r, hr⟩ := State.topJava?_eq_some.mp hg0
  have e1 : (((U.setTop g).pushFrame (.throwing a)).setVm vm').setFrames (.java { g with pc := x.handlerPc, stack := [.ref a] } :: U.frames.tail) = (U.setVm vm').setTop { g with pc := x.handlerPc, stack := [.ref a] } := by
    have hr' : (U.setVm vm').frames = .java g₀ :: r := hr
    rw [State.setTop_of_frames _ hr', State.setTop_of_frames _ hr, State.pushFrame, State.setFrames_setFrames, hr]
    show ((U.setVm vm').setFrames _).setFrames _ = _
    rw [State.setFrames_setFrames]
    rfl
  rw [e1]
  exact Steps.refl _
