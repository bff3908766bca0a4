/-! The law's own methods over the union: contracts that always return, calls, tries -/
def ncL : List (String × String) := [("java/lang/IllegalStateException", "java/lang/IllegalArgumentException"), ("java/lang/IndexOutOfBoundsException", "java/lang/IllegalStateException"), ("java/lang/IllegalArgumentException", "java/lang/IllegalStateException"), ("java/lang/IllegalArgumentException", "java/lang/IndexOutOfBoundsException"), ("java/lang/UnsupportedOperationException", "java/lang/IllegalArgumentException")]
def NcA (U : State) : Prop := ∀ x ∈ ncL, va_Nc x.1 x.2 U
theorem NcA.moved {u U : State} (hvm : u.vm.Alike U.vm) (h : NcA u) : NcA U := fun x hx => (h x hx).moved hvm
def PreW (D : va_G) (aK : Nat → ClassId) (T : List Sh) (ad : Nat → Nat) (M : Mm) (avs : List Vv) : Array Value → State → Prop := fun a U => PreI D aK T ad M avs a U ∧ NcA U
def EndW (D : va_G) (aK : Nat → ClassId) (T : List Sh) (mv : Nat → Bool) (pm : Bool) (a0 : Nat → Nat) (ret : Option FieldType) (v : Int) (M' : Mm) (kc kn : Nat) (s : State) (o : Outcome) (t : State) : Prop :=
  ∃ (ad : Nat → Nat) (L : List Loc), agr mv pm T.length a0 ad ∧ s.WarmedH t.vm ∧ s.sameButNew ({ t with vm := s.vm } : State) L kc kn ∧ (∀ q ∈ L, AA a0 T.length s.heap.size q.base) ∧ va_P D vwCl (mkW ad aK T M') t.heap ∧ s.heap.size ≤ t.heap.size ∧ (∀ q : Nat, q < s.heap.size → ¬ AA a0 T.length s.heap.size q → t.heap[q]? = s.heap[q]?) ∧ o = .returned (rv ret v)
def CtW (l : Launch) (y : MethodName) (rm : Room) (T : List Sh) (mv : Nat → Bool) (pm : Bool) (ret : Option FieldType) (avs : List Vv) (M : Mm) (v : Int) (M' : Mm) (kc kn : Nat) : Prop :=
  ∀ (D : va_G) (aK : Nat → ClassId) (ad : Nat → Nat), Jvm.Free.MetFree l y (headSpec WA rm) (PreW D aK T ad M avs) (fun _ _ _ _ _ => True) (fun _ st o t => EndW D aK T mv pm ad ret v M' kc kn st o t)
theorem ctw_of {l : Launch} {y : MethodName} {rm : Room} {T : List Sh} {mv : Nat → Bool} {pm : Bool} {ret : Option FieldType} {avs : List Vv} {M : Mm} {r : Nat × Int × Mm} (h : Ct l y rm T mv pm ret avs M r) (h0 : r.1 = 0) : CtW l y rm T mv pm ret avs M r.2.1 r.2.2 0 0 := by
  intro D aK ad
  refine Jvm.Free.MetFree.mono (h D aK ad) (fun a U hP => hP.1) (fun _ _ _ _ _ _ => trivial) (fun a U o t _ hQ => ?_)
  obtain ⟨a1, L, k, n, f1, f2, f3, f4, f5, f6, f7, f8⟩ := hQ
  rcases f8 with ⟨-, rfl, rfl, ho⟩ | ⟨z, -⟩
  · exact ⟨a1, L, f1, f2, f3, f4, f5, f6, f7, ho⟩
  · exact absurd h0 z
theorem lvl_setN {ad : Nat → Nat} {L : List (Option Vv)} {ls : Array Slot} {nL i : Nat} {v : Value} (h : lv_has ls nL ((i, v) :: (lvl ad L).filter (fun q => !(q.1 == i) && !(q.1 + 1 == i && q.2.category == 2)))) : lv_has ls nL (lvl ad (L.set i none)) := by
  refine ⟨h.1, h.2.1, fun q hq => h.2.2 q ?_⟩
  obtain ⟨j, w, hj, rfl⟩ := mem_lvl.mp hq
  rw [List.getElem?_set] at hj
  by_cases hij : i = j
  · subst hij
    rw [if_pos rfl] at hj
    by_cases hl : i < L.length
    · rw [if_pos hl] at hj; cases hj
    · rw [if_neg hl] at hj; cases hj
  · rw [if_neg hij] at hj
    refine List.mem_cons_of_mem _ (List.mem_filter.mpr ⟨mem_lvl.mpr ⟨j, w, hj, rfl⟩, ?_⟩)
    have h1 : (j == i) = false := beq_false_of_ne (fun z => hij z.symm)
    have h2 : ((vl ad w).category == 2) = false := by rw [vl_cat]; rfl
    simp only [h1, h2, Bool.and_false, Bool.not_false, Bool.and_self]
/-- a call comes back, or throws; cells have been made before -/
theorem ct_runL {p : Program} {l : Launch} {e : Env} {R : Room} {s : State} {m : MethodId} {args : Array Value} {below : List Frame} {meth : Method} {c : Code} {U : State} {locs : List Loc} {nc ns : Nat} {y : MethodName} {rm : Room} {P : Array Value → State → Prop} {Q : Array Value → State → Outcome → State → Prop} {maxL : Nat}
    (hM : Jvm.Free.MetFree l y (headSpec WA rm) P (fun _ _ _ _ _ => True) Q) (Y : Stand p l e R s m args below meth c U locs nc ns) {g : JFrame} (hg : g.method = m) (hsize : g.locals.size = c.maxLocals) {ig : Instr} {len : Nat} (hdg : decode c.code g.pc = .ok (ig, len)) (hW : 2 * g.monitorRoom + (g.stack.map fun v => v.category).sum ≤ 8)
    {mk : MethodId} (hn : U.methodNamed? y = some mk) (hR : rm.frames + 1 ≤ R.frames ∧ 8 + (maxL + 11) + rm.locals ≤ R.locals ∧ nc + rm.cells ≤ R.cells ∧ ns + rm.slots ≤ R.slots) {a : Array Value} (hpre : ∀ w ∈ WA, w.before a U = true) (hcode : ∃ methY cY, U.vm.method? mk = some methY ∧ methY.code = some cY ∧ cY.maxLocals = maxL) (hini : Cond.initialized y.cls ∈ WA) (hP : P a (U.calling g mk a))
    (hQ : ∀ o t, Q a (U.calling g mk a) o t → (U.calling g mk a).WarmedH t.vm ∧ ∃ L k n, (U.calling g mk a).sameButNew ({ t with vm := (U.calling g mk a).vm } : State) L k n) :
    ∃ (o : Outcome) (t : State), Q a (U.calling g mk a) o t ∧ (∀ L k n, (U.calling g mk a).sameButNew ({ t with vm := (U.calling g mk a).vm } : State) L k n → Stand p l e R s m args below meth c (({ U with heap := t.heap, slotsUsed := t.slotsUsed } : State).setVm t.vm) (locs ++ L) (nc + k) (ns + n)) ∧
      (∀ v, o = .returned v → Steps p.tables e below (doInvoke e (U.setTop g) [] mk a).1 ((({ U with heap := t.heap, slotsUsed := t.slotsUsed } : State).setVm t.vm).setTop { g with pc := g.pc + len, stack := v.toList ++ g.stack })) ∧
      (∀ x, o = .threw x → Steps p.tables e below (doInvoke e (U.setTop g) [] mk a).1 (((({ U with heap := t.heap, slotsUsed := t.slotsUsed } : State).setVm t.vm).setTop g).pushFrame (.throwing x))) := by
  subst hg
  obtain ⟨methY, cY, hmY, hcY, hlY⟩ := hcode
  obtain ⟨kY, hkY, -⟩ := className_of_methodNamed hn
  have hinitY : kY.init = .initialized := Cond.initialized_spec (findClass_of_methodNamed hn) hkY (hpre _ hini)
  have h : At U g.method c below := Y.here
  have happ : (headSpec WA rm).appliesLoose y e.platform (U.calling g mk a) = true :=
    Spec.appliesLoose_calling (g := g) h hdg hn hkY hinitY (Y.room_calling (g := g) (R' := (headSpec WA rm).room) hsize hmY hcY hR.1 (by rw [hlY]; show _ + rm.locals ≤ _; omega) (by show nc + rm.cells ≤ _; omega) (by show ns + rm.slots ≤ _; omega)) (atoms_intro hpre)
  obtain ⟨mid, hmid⟩ := h.above
  have hfr : (U.setTop g).frames = (.java g :: mid) ++ below := by rw [State.frames_setTop' g h.top, hmid]; rfl
  obtain ⟨o, t, hsteps, -, hend, hq⟩ := Jvm.Free.Steps.callFree hM p Y.admits Y.cas Y.clock (acts := []) hfr happ hP trivial
  have hq' : Q a (U.calling g mk a) o t := hq
  rw [State.frames_setTop' g h.top] at hend
  obtain ⟨hWt, L0, k0, n0, e1, -⟩ := hQ o t hq'
  have hWU : U.WarmedH t.vm := hWt
  obtain ⟨g₀, hg0⟩ := Option.isSome_iff_exists.mp h.top
  obtain ⟨rr, hrr⟩ := State.topJava?_eq_some.mp hg0
  have e3 : t = ({ (U.calling g mk a).setFrames t.frames with heap := t.heap, slotsUsed := t.slotsUsed } : State).setVm t.vm := by
    have : t = ({ t with vm := (U.calling g mk a).vm } : State).setVm t.vm := rfl
    rw [e1] at this
    exact this
  refine ⟨o, t, hq', fun L k n hs => ?_, fun v hv => ?_, fun x hx => ?_⟩
  · obtain ⟨-, q2, q3, q4, q5, q6⟩ := hs
    have hsame : U.sameButNew ({ U with heap := t.heap, slotsUsed := t.slotsUsed } : State) L k n := by
      refine ⟨?_, q2, q3, q4, q5, q6⟩
      obtain ⟨t', ht', -⟩ := State.frames_cons hrr
      show ({ U with heap := t.heap, slotsUsed := t.slotsUsed } : State) = { U.setFrames U.frames with heap := t.heap, slotsUsed := t.slotsUsed }
      rw [State.setFrames_self ht']
    exact ⟨Y.admits, Y.cas, Y.clock, Y.frames, Y.room, Y.hears, Y.method, Y.code, (Y.here.setHeapUsed t.heap t.slotsUsed).setVm hWU.alike, Y.tail, State.WarmedH.trans Y.warmed hWU, Y.limits, Y.bytes, Y.same.trans (hsame.setVm s.vm)⟩
  · subst hv
    obtain ⟨c₂, i₂, len₂, hc₂, hd₂, hf₂⟩ := hend
    have hcc : c₂ = c := by
      have h1 : t.code? g.method = U.code? g.method := by
        rw [State.code?_eq, State.code?_eq, hWU.alike.method?]
      exact Option.some.inj (hc₂.symm.trans (h1.trans h.code))
    subst hcc
    have hlen : len₂ = len := by rw [hdg] at hd₂; cases hd₂; rfl
    subst hlen
    have hs₂ : t = (({ U with heap := t.heap, slotsUsed := t.slotsUsed } : State).setVm t.vm).setTop { g with pc := g.pc + len₂, stack := v.toList ++ g.stack } := by
      have hr' : (({ U with heap := t.heap, slotsUsed := t.slotsUsed } : State).setVm t.vm).frames = .java g₀ :: rr := hrr
      refine e3.trans ?_
      rw [hf₂, State.calling_eq h.top, State.setFrames_setFrames, State.setTop_of_frames _ hr', hrr]
      rfl
    rw [← hs₂]
    exact hsteps
  · subst hx
    have hf₂ : t.frames = .throwing x :: .java g :: U.frames.tail := hend
    have hs₂ : t = ((({ U with heap := t.heap, slotsUsed := t.slotsUsed } : State).setVm t.vm).setTop g).pushFrame (.throwing x) := by
      have hr' : (({ U with heap := t.heap, slotsUsed := t.slotsUsed } : State).setVm t.vm).frames = .java g₀ :: rr := hrr
      refine e3.trans ?_
      rw [hf₂, State.calling_eq h.top, State.setFrames_setFrames, State.pushFrame, State.frames_setTop _ hr', State.setTop_of_frames _ hr', State.setFrames_setFrames, hrr]
      rfl
    rw [← hs₂]
    exact hsteps
section XL
variable {p : Program} {l : Launch} {e : Env} {R : Room} {s : State} {m : MethodId} {args : Array Value} {below : List Frame} {meth : Method} {c : Code} {D : va_G} {aK : Nat → ClassId} {T : List Sh} {mv : Nat → Bool} {pm : Bool} {a0 : Nat → Nat} {own : String} {cc : ByteArray} {nL : Nat} {ret : Option FieldType} {nh : Bool} {A : Nat → Prop} {Q : State → Prop} {nc ns : Nat}
theorem Cx.at_ (X : Cx p l e R s m args below meth c D aK T mv pm a0 own cc nL ret nh A Q nc ns) (nc' ns' : Nat) : Cx p l e R s m args below meth c D aK T mv pm a0 own cc nL ret nh A Q nc' ns' := X
variable {X : Cx p l e R s m args below meth c D aK T mv pm a0 own cc nL ret nh A Q nc ns} {pc : Nat} {L : List (Option Vv)} {S : List Vv} {M : Mm}
variable {y : MethodName} {rm : Room} {pm' : Bool} {ret' : Option FieldType} {avs : List Vv} {r' : Nat × Int × Mm} {bytes : ByteArray} {maxL n idx kc kn : Nat} {v : Int} {M' : Mm}
variable {ad ad' : Nat → Nat} {H : Heap} {ls : Array Slot} {locs Lc : List Loc} {U t : State} {vm1 : Vm} {mk : MethodId} {rest : List Value}
theorem c_sub (X : Cx p l e R s m args below meth c D aK T mv pm a0 own cc nL ret nh A Q nc ns) (h1 : agr mv pm T.length a0 ad) (h3 : va_S A s.heap H locs) : ∀ q, AA ad T.length H.size q → A q := by
  intro q hq
  rcases hq with ⟨i, hi, rfl⟩ | hq
  · obtain ⟨j, hj, e1⟩ := h1.2.2.2 i hi
    rw [e1]; exact X.hA j hj
  · exact X.hAs q (Nat.le_trans h3.1 hq)
theorem c_pre (X : Cx p l e R s m args below meth c D aK T mv pm a0 own cc nL ret nh A Q nc ns) (h1 : agr mv pm T.length a0 ad) (h2 : va_P D vwCl (mkW ad aK T M) H) (h3 : va_S A s.heap H locs) (hU : U.heap = H) (hW1 : s.WarmedH vm1) {g : JFrame} : PreI D aK T ad M avs (avs.map (vl ad)).toArray ((U.setVm vm1).calling g mk (avs.map (vl ad)).toArray) := by
  have hH : ((U.setVm vm1).calling g mk (avs.map (vl ad)).toArray).heap = H := hU
  have hvm : ((U.setVm vm1).calling g mk (avs.map (vl ad)).toArray).vm = vm1 := rfl
  refine ⟨rfl, by rw [hH]; exact h2, va_K.moved (by rw [hvm]; exact hW1.alike) X.hK, h1.2.2.1, ?_⟩
  unfold ThS
  rw [hH]
  exact ⟨((X.hth.1.kept h3.2.1).moved (by rw [hvm]; exact hW1.alike)).narrow (c_sub X h1 h3), ((X.hth.2.kept h3.2.1).moved (by rw [hvm]; exact hW1.alike)).narrow (c_sub X h1 h3)⟩
theorem c_post (X : Cx p l e R s m args below meth c D aK T mv pm a0 own cc nL ret nh A Q nc ns) (h1 : agr mv pm T.length a0 ad) (h3 : va_S A s.heap H locs) (f4 : ∀ q ∈ Lc, AA ad T.length H.size q.base) (f6 : H.size ≤ t.heap.size) (f7 : ∀ q : Nat, q < H.size → ¬ AA ad T.length H.size q → t.heap[q]? = H[q]?) : va_S A s.heap t.heap (locs ++ Lc) := by
  refine ⟨Nat.le_trans h3.1 f6, fun q q1 q2 => ?_, fun q hq => ?_⟩
  · rw [f7 q (Nat.lt_of_lt_of_le q1 h3.1) (fun z => q2 (c_sub X h1 h3 q z))]
    exact h3.2.1 q q1 q2
  · rcases List.mem_append.mp hq with z | z
    · exact h3.2.2 q z
    · exact c_sub X h1 h3 _ (f4 q z)
theorem c_stk (f1 : agr mv pm' T.length ad ad') (hfS : pm' = false ∨ S.all (okv mv) = true) : (pushv ret' v S).map (vl ad') = (rv ret' v).toList ++ S.map (vl ad) := by
  cases ret' with
  | none => exact fix_S f1 S hfS
  | some ty =>
    show vl ad' (.inl v) :: S.map (vl ad') = _
    rw [fix_S f1 S hfS]
    rfl
end XL
