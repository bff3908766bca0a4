/-! Calls from the law's own methods -/
section XM
variable {p : Program} {l : Launch} {e : Env} {R : Room} {s : State} {m : MethodId} {args : Array Value} {below : List Frame} {meth : Method} {c : Code} {D : va_G} {aK : Nat → ClassId} {T : List Sh} {mv : Nat → Bool} {pm : Bool} {a0 : Nat → Nat} {own : String} {cc : ByteArray} {nL : Nat} {ret : Option FieldType} {nh : Bool} {A : Nat → Prop} {Q : State → Prop} {nc ns : Nat}
variable {pc : Nat} {L : List (Option Vv)} {S : List Vv} {M : Mm}
variable {y : MethodName} {rm : Room} {pm' : Bool} {ret' : Option FieldType} {avs : List Vv} {r' : Nat × Int × Mm} {bytes : ByteArray} {maxL n idx kc kn : Nat} {v : Int} {M' : Mm}
/-- a call that returns -/
theorem m_finW (X : Cx p l e R s m args below meth c D aK T mv pm a0 own cc nL ret nh A Q nc ns) (hnc : NcA s) (hc : CtW l y rm T mv pm' ret' avs M v M' kc kn) (hini : Cond.initialized y.cls ∈ WA) (hR : rm.frames + 1 ≤ R.frames ∧ 8 + (maxL + 11) + rm.locals ≤ R.locals ∧ nc + rm.cells ≤ R.cells ∧ ns + rm.slots ≤ R.slots) (hS8 : S.length ≤ 8)
    (hpm : pm' = true → pm = true) (hfS : pm' = false ∨ S.all (okv mv) = true) (hfL : pm' = false ∨ L.all (oko mv) = true) (k0 : Wm (X.at_ (nc + kc) (ns + kn)) (pc + 3) L (pushv ret' v S) M')
    {ad : Nat → Nat} {H : Heap} {ls : Array Slot} {locs : List Loc} (h1 : agr mv pm T.length a0 ad) (h2 : va_P D vwCl (mkW ad aK T M) H) (h3 : va_S A s.heap H locs) (h4 : lv_has ls nL (lvl ad L)) {U : State} (hU : U.heap = H) {stk : List Value} {vm1 : Vm} {mk : MethodId} {ig : Instr}
    (Y1 : Stand p l e R s m args below meth c (U.setVm vm1) locs nc ns) (hn : (U.setVm vm1).methodNamed? y = some mk) (hcode : ∃ methY cY, (U.setVm vm1).vm.method? mk = some methY ∧ methY.code = some cY ∧ cY.maxLocals = maxL) (hd : decode c.code pc = .ok (ig, 3))
    (hstep : ∀ target, (∀ acts, Steps p.tables e below (doInvoke e ((U.setVm vm1).setTop (F0 m pc ls (S.map (vl ad)))) acts mk (avs.map (vl ad)).toArray).1 target) → Steps p.tables e below (U.setTop (F0 m pc ls stk)) target) :
    ∃ t, Steps p.tables e below (U.setTop (F0 m pc ls stk)) t ∧ Q t := by
  have hW1 : s.WarmedH vm1 := Y1.warmed
  have hH : ((U.setVm vm1).calling (F0 m pc ls (S.map (vl ad))) mk (avs.map (vl ad)).toArray).heap = H := hU
  have hvm : ((U.setVm vm1).calling (F0 m pc ls (S.map (vl ad))) mk (avs.map (vl ad)).toArray).vm = vm1 := rfl
  obtain ⟨o, t, hq, hst, hret, -⟩ := ct_runL (hc D aK ad) Y1 (g := F0 m pc ls (S.map (vl ad))) rfl (by rw [X.hml]; exact h4.1) hd (by show 2 * 0 + _ ≤ 8; rw [st_cat]; omega) hn hR (WA_at (U := U.setVm vm1) hW1 X.hts) hcode hini ⟨c_pre X h1 h2 h3 hU hW1, NcA.moved (by rw [hvm]; exact hW1.alike) hnc⟩ (fun o t h => by
    obtain ⟨a1, Lc, -, e2, e3, -⟩ := h
    exact ⟨e2, Lc, kc, kn, e3⟩)
  obtain ⟨a1, Lc, f1, f2, f3, f4, f5, f6, f7, ho⟩ := hq
  have Y2 := hst Lc kc kn f3
  rw [hH] at f4 f6 f7
  have hwk := k0 a1 t.heap ls (locs ++ Lc) (agr_tr h1 f1 hpm) f5 (c_post X h1 h3 f4 f6 f7) (fix_L f1 L hfL h4)
  rw [c_stk f1 hfS] at hwk
  obtain ⟨t2, b1, b2⟩ := hwk (({ U.setVm vm1 with heap := t.heap, slotsUsed := t.slotsUsed } : State).setVm t.vm) rfl Y2
  exact ⟨t2, hstep _ (fun acts => by rw [doInvoke_state]; exact (hret _ ho).trans b1), b2⟩
theorem y_cv (X : Cx p l e R s m args below meth c D aK T mv pm a0 own cc nL ret nh A Q nc ns) (hnc : NcA s) {q ci : Nat} {fds : List (Option Nat)} (hc : CtW l y rm T mv pm' ret' (.inr q :: avs) M v M' kc kn) (hm : MV y bytes maxL ret' n) (hl : ML own idx y) (hq : T[q]? = some (.inl (ci, fds))) (hci : (vwCl[ci]?).map (fun z => z.1) = some y.cls) (hlen : avs.length = n) (hR : rm.frames + 1 ≤ R.frames ∧ 8 + (maxL + 11) + rm.locals ≤ R.locals ∧ nc + rm.cells ≤ R.cells ∧ ns + rm.slots ≤ R.slots) (hS8 : S.length ≤ 8) (hd : decode cc pc = .ok (.invokevirtual idx, 3))
    (hpm : pm' = true → pm = true) (hfS : pm' = false ∨ S.all (okv mv) = true) (hfL : pm' = false ∨ L.all (oko mv) = true) (k0 : Wm (X.at_ (nc + kc) (ns + kn)) (pc + 3) L (pushv ret' v S) M') : Wm X pc L (avs.reverse ++ .inr q :: S) M := by
  intro ad H ls locs h1 h2 h3 h4 U hU Y
  obtain ⟨m1, m2, m3, m4, m5, m6⟩ := hm
  have hts := X.hts
  have hb := X.hb
  have hlenP : ∀ sig, parseMethodDescriptor y.desc = some sig → (avs.map (vl ad)).length = sig.parameters.length := by
    intro sig hs
    rw [hs] at m6
    rw [List.length_map, hlen]
    exact (Option.some.inj m6).symm
  obtain ⟨mk, methM, hnamed, hmethM, hstM, habM⟩ := Cond.instanceMethod_spec (hts _ m2)
  obtain ⟨methM', cM, hmethM', hcM, -, hlM, -, -, -, hsigM⟩ := Cond.code_spec hnamed (hts _ m1)
  cases hmethM.symm.trans hmethM'
  obtain ⟨c2, r2, mm2, q1, q2, q3, q4, kP, hkP, hkPi⟩ := Cond.selects_spec (hts _ m3)
  cases (State.methodFound?_of_named hnamed m5).symm.trans q2
  cases hnamed.symm.trans q3
  obtain ⟨zc, hzc, cell, e1, e2, e3, -⟩ := h2 q _ (mkW_at hq)
  obtain ⟨Cn, Tb, N⟩ := zc
  have hCn : Cn = y.cls := by rw [hzc] at hci; exact Option.some.inj hci
  subst hCn
  obtain ⟨-, hfc, -⟩ := X.hK.1 ci _ hzc
  have hfc' : s.vm.findClass y.cls = some (D.1 ci) := hfc
  cases hfc'.symm.trans q1
  have hselP : selectMethod e.platform s.vm cell.cls mk = .method mk := by rw [Launch.admits_selectMethod Y.admits, e2]; exact q4
  have hstk : (F0 m pc ls ((avs.reverse ++ .inr q :: S).map (vl ad))).stack = (avs.map (vl ad)).reverse ++ .ref (ad q) :: S.map (vl ad) := by
    show (avs.reverse ++ .inr q :: S).map (vl ad) = _
    rw [List.map_append, List.map_reverse]
    rfl
  have hdc : decode c.code pc = .ok (.invokevirtual idx, 3) := by rw [hb]; exact hd
  rcases hl with hl | ⟨host, hl⟩
  · obtain ⟨vm1, Y1, hs1⟩ := Y.invokevirtual X.hx X.hown (hts _ hl) hnamed hmethM hstM hkP hkPi m5 (a := ad q) (cell := cell) (by rw [hU]; exact e1) (fun z h => by rw [e3] at h; cases h) hselP hmethM habM hkP hkPi (g := F0 m pc ls ((avs.reverse ++ .inr q :: S).map (vl ad))) rfl (argsL := avs.map (vl ad)) (rest := S.map (vl ad)) (hlenP _ hsigM) hstk hdc
    exact m_finW X hnc hc m4 hR hS8 hpm hfS hfL k0 h1 h2 h3 h4 hU Y1 (Y1.named hnamed) ⟨methM, cM, by rw [Y1.warmed.alike.method?]; exact hmethM, hcM, hlM⟩ hdc hs1
  · obtain ⟨vm1, Y1, hs1⟩ := Y.invokevirtualNest X.hx X.hown (hts _ hl) hnamed hmethM hstM hkP hkPi m5 (a := ad q) (cell := cell) (by rw [hU]; exact e1) (fun z h => by rw [e3] at h; cases h) hselP hmethM habM hkP hkPi (g := F0 m pc ls ((avs.reverse ++ .inr q :: S).map (vl ad))) rfl (argsL := avs.map (vl ad)) (rest := S.map (vl ad)) (hlenP _ hsigM) hstk hdc
    exact m_finW X hnc hc m4 hR hS8 hpm hfS hfL k0 h1 h2 h3 h4 hU Y1 (Y1.named hnamed) ⟨methM, cM, by rw [Y1.warmed.alike.method?]; exact hmethM, hcM, hlM⟩ hdc hs1
/-- a static method with a table of handlers -/
def MT (y : MethodName) (bytes : ByteArray) (maxL : Nat) (ret : Option FieldType) (hs : List (Nat × Nat × Nat × Nat)) (n : Nat) : Prop := Cond.codeWith y bytes maxL ret hs ∈ WA ∧ Cond.static y ∈ WA ∧ Cond.initialized y.cls ∈ WA ∧ (y.cls ≠ "java/lang/invoke/MethodHandle" ∧ y.cls ≠ "java/lang/invoke/VarHandle") ∧ (parseMethodDescriptor y.desc).map (fun d => d.parameters.length) = some n
theorem y_cs (X : Cx p l e R s m args below meth c D aK T mv pm a0 own cc nL ret nh A Q nc ns) (hnc : NcA s) {hs : List (Nat × Nat × Nat × Nat)} (hc : CtW l y rm T mv pm' ret' avs M v M' kc kn) (hm : MT y bytes maxL ret' hs n) (hl : Cond.methodLink own idx y ∈ WA) (hlen : avs.length = n) (hR : rm.frames + 1 ≤ R.frames ∧ 8 + (maxL + 11) + rm.locals ≤ R.locals ∧ nc + rm.cells ≤ R.cells ∧ ns + rm.slots ≤ R.slots) (hS8 : S.length ≤ 8) (hd : decode cc pc = .ok (.invokestatic idx, 3))
    (hpm : pm' = true → pm = true) (hfS : pm' = false ∨ S.all (okv mv) = true) (hfL : pm' = false ∨ L.all (oko mv) = true) (k0 : Wm (X.at_ (nc + kc) (ns + kn)) (pc + 3) L (pushv ret' v S) M') : Wm X pc L (avs.reverse ++ S) M := by
  intro ad H ls locs h1 h2 h3 h4 U hU Y
  obtain ⟨m1, m2, m4, m5, m6⟩ := hm
  have hts := X.hts
  have hb := X.hb
  have hlenP : ∀ sig, parseMethodDescriptor y.desc = some sig → (avs.map (vl ad)).length = sig.parameters.length := by
    intro sig hs
    rw [hs] at m6
    rw [List.length_map, hlen]
    exact (Option.some.inj m6).symm
  obtain ⟨mk, methM, cM, hnamed, hmethM, hcM, -, hlM, -, -, -, hsigM⟩ := Cond.codeWith_spec (hts _ m1)
  have hstatic : methM.isStatic = true := Cond.static_spec hnamed hmethM (hts _ m2)
  obtain ⟨kP, hkP, -⟩ := className_of_methodNamed hnamed
  have hinitP : kP.init = .initialized := Cond.initialized_spec (findClass_of_methodNamed hnamed) hkP (hts _ m4)
  have hstk : (F0 m pc ls ((avs.reverse ++ S).map (vl ad))).stack = (avs.map (vl ad)).reverse ++ S.map (vl ad) := by
    show (avs.reverse ++ S).map (vl ad) = _
    rw [List.map_append, List.map_reverse]
  have hdc : decode c.code pc = .ok (.invokestatic idx, 3) := by rw [hb]; exact hd
  obtain ⟨vm1, Y1, hs1⟩ := Y.invokestatic X.hx X.hown (hts _ hl) hnamed hmethM hstatic hkP hinitP m5 (g := F0 m pc ls ((avs.reverse ++ S).map (vl ad))) rfl (argsL := avs.map (vl ad)) (rest := S.map (vl ad)) (hlenP _ hsigM) hstk hdc
  exact m_finW X hnc hc m4 hR hS8 hpm hfS hfL k0 h1 h2 h3 h4 hU Y1 (Y1.named hnamed) ⟨methM, cM, by rw [Y1.warmed.alike.method?]; exact hmethM, hcM, hlM⟩ hdc hs1
/-- how a throw is caught: by the row x, its handler begins with astore n -/
def Cat (X : Cx p l e R s m args below meth c D aK T mv pm a0 own cc nL ret nh A Q nc ns) (pc : Nat) (L : List (Option Vv)) (r' : Nat × Int × Mm) : Prop :=
  ∃ (pre : List ExceptionTableEntry) (x : ExceptionTableEntry) (suf : List ExceptionTableEntry) (nm : String) (n len : Nat), c.exceptionTable.toList = pre ++ x :: suf ∧ (∀ z ∈ pre, covers z pc = false ∨ (z.catchType ≠ 0 ∧ ∃ nm', Cond.classLink own z.catchType nm' ∈ WA ∧ va_Nc (exN r'.1) nm' s)) ∧ covers x pc = true ∧ x.catchType ≠ 0 ∧ Cond.classLink own x.catchType nm ∈ WA ∧ Cond.castable (exN r'.1) nm ∈ WA ∧ n < nL ∧
    ((decode cc x.handlerPc = .ok (.astore n, 2) ∧ len = 2) ∨ ∃ k : Fin 4, (k : Nat) = n ∧ decode cc x.handlerPc = .ok (.astore_n k, 1) ∧ len = 1) ∧ Wm (X.at_ (nc + 1) (ns + 6)) (x.handlerPc + len) (L.set n none) [] r'.2.2
set_option maxHeartbeats 1000000 in
theorem y_try (X : Cx p l e R s m args below meth c D aK T mv pm a0 own cc nL ret nh A Q nc ns) {q ci : Nat} {fds : List (Option Nat)} (hc : Ct l y rm T mv pm' ret' (.inr q :: avs) M r') (hm : MV y bytes maxL ret' n) (hl : Cond.methodLink own idx y ∈ WA) (hq : T[q]? = some (.inl (ci, fds))) (hci : (vwCl[ci]?).map (fun z => z.1) = some y.cls) (hlen : avs.length = n) (hR : rm.frames + 1 ≤ R.frames ∧ 8 + (maxL + 11) + rm.locals ≤ R.locals ∧ nc + rm.cells ≤ R.cells ∧ ns + rm.slots ≤ R.slots) (hS8 : S.length ≤ 8) (hd : decode cc pc = .ok (.invokevirtual idx, 3))
    (hpm : pm' = true → pm = true) (hfS : pm' = false ∨ S.all (okv mv) = true) (hfL : pm' = false ∨ L.all (oko mv) = true) (k0 : r'.1 = 0 → Wm X (pc + 3) L (pushv ret' r'.2.1 S) r'.2.2) (kx : ¬ r'.1 = 0 → Cat X pc L r') : Wm X pc L (avs.reverse ++ .inr q :: S) M := by
  intro ad H ls locs h1 h2 h3 h4 U hU Y
  obtain ⟨m1, m2, m3, m4, m5, m6⟩ := hm
  have hts := X.hts
  have hb := X.hb
  have hlenP : ∀ sig, parseMethodDescriptor y.desc = some sig → (avs.map (vl ad)).length = sig.parameters.length := by
    intro sig hs
    rw [hs] at m6
    rw [List.length_map, hlen]
    exact (Option.some.inj m6).symm
  obtain ⟨mk, methM, hnamed, hmethM, hstM, habM⟩ := Cond.instanceMethod_spec (hts _ m2)
  obtain ⟨methM', cM, hmethM', hcM, -, hlM, -, -, -, hsigM⟩ := Cond.code_spec hnamed (hts _ m1)
  cases hmethM.symm.trans hmethM'
  obtain ⟨c2, r2, mm2, q1, q2, q3, q4, kP, hkP, hkPi⟩ := Cond.selects_spec (hts _ m3)
  cases (State.methodFound?_of_named hnamed m5).symm.trans q2
  cases hnamed.symm.trans q3
  obtain ⟨zc, hzc, cell, e1, e2, e3, -⟩ := h2 q _ (mkW_at hq)
  obtain ⟨Cn, Tb, N⟩ := zc
  have hCn : Cn = y.cls := by rw [hzc] at hci; exact Option.some.inj hci
  subst hCn
  obtain ⟨-, hfc, -⟩ := X.hK.1 ci _ hzc
  have hfc' : s.vm.findClass y.cls = some (D.1 ci) := hfc
  cases hfc'.symm.trans q1
  have hselP : selectMethod e.platform s.vm cell.cls mk = .method mk := by rw [Launch.admits_selectMethod Y.admits, e2]; exact q4
  have hstk : (F0 m pc ls ((avs.reverse ++ .inr q :: S).map (vl ad))).stack = (avs.map (vl ad)).reverse ++ .ref (ad q) :: S.map (vl ad) := by
    show (avs.reverse ++ .inr q :: S).map (vl ad) = _
    rw [List.map_append, List.map_reverse]
    rfl
  have hdc : decode c.code pc = .ok (.invokevirtual idx, 3) := by rw [hb]; exact hd
  obtain ⟨vm1, Y1, hs1⟩ := Y.invokevirtual X.hx X.hown (hts _ hl) hnamed hmethM hstM hkP hkPi m5 (a := ad q) (cell := cell) (by rw [hU]; exact e1) (fun z h => by rw [e3] at h; cases h) hselP hmethM habM hkP hkPi (g := F0 m pc ls ((avs.reverse ++ .inr q :: S).map (vl ad))) rfl (argsL := avs.map (vl ad)) (rest := S.map (vl ad)) (hlenP _ hsigM) hstk hdc
  have hW1 : s.WarmedH vm1 := Y1.warmed
  have hH : ((U.setVm vm1).calling (F0 m pc ls (S.map (vl ad))) mk ((.inr q :: avs).map (vl ad)).toArray).heap = H := hU
  obtain ⟨o, t, hq9, hst, hret, hthr⟩ := ct_runL (hc D aK ad) Y1 (g := F0 m pc ls (S.map (vl ad))) rfl (by rw [X.hml]; exact h4.1) hdc (by show 2 * 0 + _ ≤ 8; rw [st_cat]; omega) (Y1.named hnamed) hR (WA_at (U := U.setVm vm1) hW1 X.hts) ⟨methM, cM, by rw [Y1.warmed.alike.method?]; exact hmethM, hcM, hlM⟩ m4 (c_pre X h1 h2 h3 hU hW1) (fun o t h => by
    obtain ⟨a1, Lc, k, n, -, z2, z3, -⟩ := h
    exact ⟨z2, Lc, k, n, z3⟩)
  obtain ⟨a1, Lc, k, n9, f1, f2, f3, f4, f5, f6, f7, f8⟩ := hq9
  have Y2 := hst Lc k n9 f3
  rw [hH] at f4 f6 f7
  have hS' := c_post X h1 h3 f4 f6 f7
  have hag : agr mv pm T.length a0 a1 := agr_tr h1 f1 hpm
  rcases f8 with ⟨z0, rfl, rfl, ho⟩ | ⟨z0, rfl, rfl, xa, ho, hex⟩
  · have hwk := k0 z0 a1 t.heap ls (locs ++ Lc) hag f5 hS' (fix_L f1 L hfL h4)
    rw [c_stk f1 hfS] at hwk
    obtain ⟨t2, b1, b2⟩ := hwk (({ U.setVm vm1 with heap := t.heap, slotsUsed := t.slotsUsed } : State).setVm t.vm) rfl Y2
    exact ⟨t2, hs1 _ (fun acts => by rw [doInvoke_state]; exact (hret _ ho).trans b1), b2⟩
  · obtain ⟨pre, x, suf, nm, n, len, g1, g2, g3, g4, g5, g6, g7, g8, g9⟩ := kx z0
    obtain ⟨ce, x1, x2, x3⟩ := hex
    have hWt : s.WarmedH t.vm := Y2.warmed
    have hcl : s.vm.findClass (exN r'.1) = some ce.cls := by rw [hWt.alike.findClass] at x3; exact x3
    have hpl : e.platform.magicAccessors = ({} : Platform).magicAccessors := by rw [Y.admits.platform]
    obtain ⟨c3, c4, hc3, hc4, hasg⟩ := Cond.castable_spec (hts _ g6)
    cases Option.some.inj (hc3.symm.trans hcl)
    obtain ⟨c5, hc5, hcl5⟩ := Cond.classLink_spec X.hown (hts _ g5) e.platform hpl
    cases Option.some.inj (hc4.symm.trans hc5)
    obtain ⟨vm', Y3, hst3⟩ := hs_caught Y2 (g := F0 m pc ls (S.map (vl ad))) rfl (a := xa) (cell := ce) x1 x2 (Vm.classAt_of_findClass hcl) pre x suf g1 (fun z hz => by
      rcases g2 z hz with h | ⟨hz0, nm', hl1, hn1⟩
      · exact Or.inl h
      · obtain ⟨c6, hc6, hcl6⟩ := Cond.classLink_spec X.hown (hts _ hl1) e.platform hpl
        obtain ⟨a8, b8, w1, w2, w3⟩ := hn1
        cases Option.some.inj (w1.symm.trans hcl)
        cases Option.some.inj (w2.symm.trans hc6)
        exact Or.inr ⟨hz0, _, hcl6, w3⟩) g3 g4 hcl5 hasg
    have hW : W p l e R s m args below meth c t.heap (locs ++ Lc) (nc + 1) (ns + 6) Q (F0 m x.handlerPc ls [.ref xa]) := by
      rcases g8 with ⟨d1, rfl⟩ | ⟨kf, hkf, d1, rfl⟩
      · exact lv_astore X.hx X.hb d1 (fix_L f1 L hfL h4) g7 rfl (fun ls' h => g9 a1 t.heap ls' (locs ++ Lc) hag f5 hS' (lvl_setN h))
      · exact lv_astore_n X.hx X.hb d1 hkf (fix_L f1 L hfL h4) g7 rfl (fun ls' h => g9 a1 t.heap ls' (locs ++ Lc) hag f5 hS' (lvl_setN h))
    obtain ⟨t2, b1, b2⟩ := hW ((({ U.setVm vm1 with heap := t.heap, slotsUsed := t.slotsUsed } : State).setVm t.vm).setVm vm') rfl Y3
    exact ⟨t2, hs1 _ (fun acts => by rw [doInvoke_state]; exact ((hthr xa ho).trans hst3).trans b1), b2⟩
end XM
