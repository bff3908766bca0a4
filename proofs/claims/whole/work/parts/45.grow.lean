/-! Constructors: a world that grows, as a list of cells -/
def dN (h n : Nat) : Nat → Prop := fun q => q = h ∨ n ≤ q
def PreN (D : va_G) (aK : Nat → ClassId) (ci : Nat) (fs : List Value) (h : Nat) : Array Value → State → Prop := fun a U =>
  a = ([Value.ref h] : List Value).toArray ∧ va_P D vwCl [(h, .inr (ci, fs))] U.heap ∧ va_K D vwCl (tysK aK) U ∧ ThS (dN h U.heap.size) U
def EndN (D : va_G) (aK : Nat → ClassId) (T : List Sh) (M : Mm) (h kc kn : Nat) (s : State) (o : Outcome) (t : State) : Prop :=
  ∃ (ad : Nat → Nat) (L : List Loc), ad 0 = h ∧ s.WarmedH t.vm ∧ s.sameButNew ({ t with vm := s.vm } : State) L kc kn ∧ (∀ q ∈ L, dN h s.heap.size q.base) ∧ va_P D vwCl (mkW ad aK T M) t.heap ∧ va_D (dN h s.heap.size) (mkW ad aK T M) ∧ s.heap.size ≤ t.heap.size ∧ (∀ q : Nat, q < s.heap.size → ¬ dN h s.heap.size q → t.heap[q]? = s.heap[q]?) ∧ o = .returned none
def CtN (l : Launch) (y : MethodName) (rm : Room) (ci : Nat) (fs : List Value) (T : List Sh) (M : Mm) (kc kn : Nat) : Prop :=
  ∀ (D : va_G) (aK : Nat → ClassId) (h : Nat), Jvm.Free.MetFree l y (headSpec WA rm) (PreN D aK ci fs h) (fun _ _ _ _ _ => True) (fun _ st o t => EndN D aK T M h kc kn st o t)
def EQN (below : List Frame) (D : va_G) (aK : Nat → ClassId) (T : List Sh) (M : Mm) (h kc kn : Nat) (s : State) : State → Prop := fun t => ∃ o, t.status = .running ∧ Ended t below o ∧ EndN D aK T M h kc kn s o t
abbrev Cn (p : Program) (l : Launch) (e : Env) (R : Room) (s : State) (m : MethodId) (args : Array Value) (below : List Frame) (meth : Method) (c : Code) (D : va_G) (aK : Nat → ClassId) (own : String) (cc : ByteArray) (nL h : Nat) (T : List Sh) (M : Mm) (kc kn : Nat) : Prop :=
  Cx p l e R s m args below meth c D aK [] (fun _ => false) false (fun _ => h) own cc nL none true (dN h s.heap.size) (EQN below D aK T M h kc kn s) 0 0
def FF (own : String) (idx ci k : Nat) (ty : FieldType) : Prop := ∃ (C : String) (Tb : u_T) (N : Nat) (ty0 : Nat → FieldType), vwCl[ci]? = some (C, Tb, N) ∧ k < N ∧ (∀ w ∈ u_ws C Tb N, w ∈ WA) ∧ Cond.fieldLink own idx (Tb k).1 (Tb k).2.1 (Tb k).2.2.1 ∈ WA ∧ (∀ k, k < N → parseFieldDescriptor (Tb k).2.2.1 = some (ty0 k)) ∧ (∀ a, a < N → ∀ b, b < N → a ≠ b → (Tb a).2.1 ≠ (Tb b).2.1) ∧ (Tb k).2.2.2 = true ∧ (Tb k).1 = own ∧ parseFieldDescriptor (Tb k).2.2.1 = some ty
/-- what making an object of a class needs of the tables -/
def NI (own : String) (i1 i2 ci : Nat) (y : MethodName) (N : Nat) (fs : List Value) (bytes : ByteArray) (maxL : Nat) : Prop :=
  ∃ (Tb : u_T) (ty : Nat → FieldType), vwCl[ci]? = some (y.cls, Tb, N) ∧ (∀ w ∈ u_ws y.cls Tb N, w ∈ WA) ∧ (∀ k, k < N → parseFieldDescriptor (Tb k).2.2.1 = some (ty k)) ∧ (∀ j, j < N → defaultValue (ty j) = vp_V fs j) ∧ Cond.classLink own i1 y.cls ∈ WA ∧ Cond.instantiable y.cls N ∈ WA ∧ Cond.initialized y.cls ∈ WA ∧ Cond.methodLink own i2 y ∈ WA ∧ Cond.instanceMethod y ∈ WA ∧ Cond.code y bytes maxL none ∈ WA ∧ (y.cls ≠ "java/lang/invoke/MethodHandle" ∧ y.cls ≠ "java/lang/invoke/VarHandle") ∧ y.name = "<init>" ∧ (parseMethodDescriptor y.desc).map (fun d => d.parameters.length) = some 0
section NW
variable {p : Program} {l : Launch} {e : Env} {R : Room} {s : State} {m : MethodId} {args : Array Value} {below : List Frame} {meth : Method} {c : Code} {D : va_G} {aK : Nat → ClassId} {T : List Sh} {mv : Nat → Bool} {pm : Bool} {a0 : Nat → Nat} {own : String} {cc : ByteArray} {nL : Nat} {ret : Option FieldType} {nh : Bool} {A : Nat → Prop} {Q : State → Prop} {nc ns : Nat}
def Wn (X : Cx p l e R s m args below meth c D aK T mv pm a0 own cc nL ret nh A Q nc ns) (i j pc : Nat) (L : List (Nat × Value)) (S : List Value) (E : va_W) : Prop :=
  ∀ (H : Heap) (ls : Array Slot) (locs : List Loc), va_P D vwCl E H → va_D A E → va_S A s.heap H locs → lv_has ls nL L → W p l e R s m args below meth c H locs i j Q (F0 m pc ls S)
variable {X : Cx p l e R s m args below meth c D aK T mv pm a0 own cc nL ret nh A Q nc ns} {i j pc : Nat} {L : List (Nat × Value)} {S : List Value} {E : va_W}
theorem n_aload {n : Fin 4} {x : Nat} (q : Nat) (hd : decode cc pc = .ok (.aload_n n, 1)) (hL : L[q]? = some ((n : Nat), .ref x)) (k : Wn X i j (pc + 1) L (.ref x :: S) E) : Wn X i j pc L S E := fun H ls locs h1 h2 h3 h4 => lv_aload_n X.hx X.hb hd rfl (lv_at h4 q hL) (k H ls locs h1 h2 h3 h4)
theorem n_iconst {n : Int} (hd : decode cc pc = .ok (.iconst n, 1)) (k : Wn X i j (pc + 1) L (.int (oI n) :: S) E) : Wn X i j pc L S E := fun H ls locs h1 h2 h3 h4 => lv_iconst X.hx X.hb hd rfl (k H ls locs h1 h2 h3 h4)
theorem n_bipush {n : Int} (hd : decode cc pc = .ok (.bipush n, 2)) (hn : -128 ≤ n ∧ n < 128) (k : Wn X i j (pc + 2) L (.int (oI n) :: S) E) : Wn X i j pc L S E := fun H ls locs h1 h2 h3 h4 => lv_bipush X.hx X.hb hd (oI_8 hn) (k H ls locs h1 h2 h3 h4)
theorem n_sipush {n : Int} (hd : decode cc pc = .ok (.sipush n, 3)) (hn : -32768 ≤ n ∧ n < 32768) (k : Wn X i j (pc + 3) L (.int (oI n) :: S) E) : Wn X i j pc L S E := fun H ls locs h1 h2 h3 h4 => lv_sipush X.hx X.hb hd (oI_16 hn) (k H ls locs h1 h2 h3 h4)
theorem n_imul {x y : Int} (hd : decode cc pc = .ok (.imul, 1)) (k : Wn X i j (pc + 1) L (.int (oI (x * y)) :: S) E) : Wn X i j pc L (.int (oI y) :: .int (oI x) :: S) E := fun H ls locs h1 h2 h3 h4 => lv_imul (x := oI x) (y := oI y) X.hx X.hb hd (by rw [← oI_mul]; exact k H ls locs h1 h2 h3 h4)
theorem n_obj {idx x : Nat} (hl : Cond.methodLink own idx Lib.objectInit ∈ WA) (hw : Cond.instanceMethod Lib.objectInit ∈ WA ∧ Cond.code Lib.objectInit ⟨#[0xb1]⟩ 1 none ∈ WA) (hR : 1 ≤ R.frames ∧ 12 ≤ R.locals) (hd : decode cc pc = .ok (.invokespecial idx, 3)) (k : Wn X i j (pc + 3) L [] E) : Wn X i j pc L [.ref x] E := fun H ls locs h1 h2 h3 h4 =>
  W.objInit X.hx X.hb X.hown (X.hts _ hl) (X.hts _ hw.1) (X.hts _ hw.2) rfl (by rw [X.hml]; exact h4.1) rfl hd hR.1 (by show 2 * 0 + 0 + 12 ≤ _; omega) (W.eq (g2 := F0 m (pc + 3) ls []) rfl (k H ls locs h1 h2 h3 h4))
theorem n_newa {at' : ArrayType} {ty : FieldType} {kd N : Nat} {n : Int} {b0 : vp_A} (hw : Cond.arrayClass (newarray.typeOf at') ∈ WA) (hty : newarray.typeOf at' = ty) (hkd : (tysK aK)[kd]? = some (aK kd, ty)) (hra : ∀ cA, va_RA s cA ty = (s.vm.findClass ("[" ++ ty.toString) = some cA)) (hb0 : ∀ cA : ClassId, vp_cell cA b0 = arrV cA N (fun _ => defaultValue ty)) (hn : ¬ oI n < 0 ∧ (oI n).toNatClampNeg = N ∧ N * componentBytes ty ≤ 536870912) (hR : i + 1 ≤ R.cells ∧ j + N ≤ R.slots) (hd : decode cc pc = .ok (.newarray at', 2)) (k : ∀ q, Wn X (i + 1) (j + N) (pc + 2) L (.ref q :: S) (E ++ [(q, .inl (aK kd, b0))])) : Wn X i j pc L (.int (oI n) :: S) E := by
  intro H ls locs h1 h2 h3 h4
  refine va_newa (ty := ty) (a0 := b0) X.hx X.hb (X.hts _ hw) hty X.hK h1 h2 h3 X.hAs hb0 hn.1 hn.2.1 hn.2.2 hR.1 hR.2 hd (fun q cA H1 g1 g2 g3 g4 => ?_)
  have e1 := (g1.2 3 (cA, ty) rfl).2
  have e2 := (X.hK.2 kd _ hkd).2
  have e1' : va_RA s cA ty := e1
  have e2' : va_RA s (aK kd) ty := e2
  rw [hra] at e1' e2'
  have e3 : cA = aK kd := Option.some.inj (e1'.symm.trans e2')
  subst e3
  exact k q H1 ls locs g2 g3 g4 h4
theorem n_newi {N : Nat} {n : Int} (hw : Cond.arrayClass .int ∈ WA) (hn : ¬ oI n < 0 ∧ (oI n).toNatClampNeg = N ∧ N * componentBytes .int ≤ 536870912) (hR : i + 1 ≤ R.cells ∧ j + N ≤ R.slots) (hd : decode cc pc = .ok (.newarray .int, 2)) (k : ∀ q, Wn X (i + 1) (j + N) (pc + 2) L (.ref q :: S) (E ++ [(q, .inl (aK 0, (N, .inl (fun _ => oI 0))))])) : Wn X i j pc L (.int (oI n) :: S) E :=
  n_newa (at' := .int) (kd := 0) hw rfl rfl (fun _ => rfl) (fun _ => rfl) hn hR hd k
theorem n_newz {N : Nat} {n : Int} (hw : Cond.arrayClass .boolean ∈ WA) (hn : ¬ oI n < 0 ∧ (oI n).toNatClampNeg = N ∧ N * componentBytes .boolean ≤ 536870912) (hR : i + 1 ≤ R.cells ∧ j + N ≤ R.slots) (hd : decode cc pc = .ok (.newarray .boolean, 2)) (k : ∀ q, Wn X (i + 1) (j + N) (pc + 2) L (.ref q :: S) (E ++ [(q, .inl (aK 1, (N, .inl (fun _ => oI 0))))])) : Wn X i j pc L (.int (oI n) :: S) E :=
  n_newa (at' := .boolean) (kd := 1) hw rfl rfl (fun _ => rfl) (fun _ => rfl) hn hR hd k
theorem n_newl {N : Nat} {n : Int} (hw : Cond.arrayClass .long ∈ WA) (hn : ¬ oI n < 0 ∧ (oI n).toNatClampNeg = N ∧ N * componentBytes .long ≤ 536870912) (hR : i + 1 ≤ R.cells ∧ j + N ≤ R.slots) (hd : decode cc pc = .ok (.newarray .long, 2)) (k : ∀ q, Wn X (i + 1) (j + N) (pc + 2) L (.ref q :: S) (E ++ [(q, .inl (aK 2, (N, .inr (.inl (fun _ => 0)))))])) : Wn X i j pc L (.int (oI n) :: S) E :=
  n_newa (at' := .long) (kd := 2) hw rfl rfl (fun _ => rfl) (fun _ => rfl) hn hR hd k
theorem n_putF {idx ci k h : Nat} {fs : List Value} {E1 : va_W} {v : Value} {ty : FieldType} (hf : FF own idx ci k ty) (hin : meth.name = "<init>") (hn : narrow ty v = v) (hfit : fits ty v = true) (hk : k < fs.length) (hd : decode cc pc = .ok (.putfield idx, 3)) (kk : Wn X i j (pc + 3) L S ((h, .inr (ci, fs.set k v)) :: E1)) : Wn X i j pc L (v :: .ref h :: S) ((h, .inr (ci, fs)) :: E1) := by
  intro H ls locs h1 h2 h3 h4
  obtain ⟨C, Tb, N, ty0, hc, hkN, hin', hl, g1, g2, g3, g4, g5⟩ := hf
  exact va_putF X.hx X.hb X.hts hin' ty0 g1 g2 X.hown X.hK h1 h2 h3 0 rfl hc k hkN (X.hts _ hl) (fun _ h => h) g3 hin g4 g5 hn hfit hk hd (fun H1 locs1 q1 q2 q3 => kk H1 ls locs1 q1 q2 q3 h4)
theorem n_put {idx ci k h : Nat} {fs : List Value} {E1 : va_W} {v : Value} {ty : FieldType} (hf : FL own idx ci k) (hp : FP ci k ty) (hn : narrow ty v = v) (hfit : fits ty v = true) (hk : k < fs.length) (hd : decode cc pc = .ok (.putfield idx, 3)) (kk : Wn X i j (pc + 3) L S ((h, .inr (ci, fs.set k v)) :: E1)) : Wn X i j pc L (v :: .ref h :: S) ((h, .inr (ci, fs)) :: E1) := by
  intro H ls locs h1 h2 h3 h4
  obtain ⟨C, Tb, N, hc, hkN, hin, hl⟩ := hf
  obtain ⟨C', Tb', N', ty0, hc', g1, g2, g3, g4⟩ := hp
  cases hc.symm.trans hc'
  rcases hl with hl | ⟨host, hl⟩
  · exact va_put X.hx X.hb X.hts hin ty0 g1 g2 X.hown X.hK h1 h2 h3 0 rfl hc k hkN (X.hts _ hl) (fun _ h => h) g3 g4 hn hfit hk hd (fun H1 locs1 q1 q2 q3 => kk H1 ls locs1 q1 q2 q3 h4)
  · exact va_putN X.hx X.hb X.hts hin ty0 g1 g2 X.hown X.hK h1 h2 h3 0 rfl hc k hkN (X.hts _ hl) (fun _ h => h) g3 g4 hn hfit hk hd (fun H1 locs1 q1 q2 q3 => kk H1 ls locs1 q1 q2 q3 h4)
theorem n_get {idx ci k h : Nat} {fs : List Value} {E1 : va_W} {v : Value} (hf : FL own idx ci k) (hk : fs[k]? = some v) (hd : decode cc pc = .ok (.getfield idx, 3)) (kk : Wn X i j (pc + 3) L (v :: S) ((h, .inr (ci, fs)) :: E1)) : Wn X i j pc L (.ref h :: S) ((h, .inr (ci, fs)) :: E1) := by
  intro H ls locs h1 h2 h3 h4
  obtain ⟨C, Tb, N, hc, hkN, hin, hl⟩ := hf
  rcases hl with hl | ⟨host, hl⟩
  · exact va_get X.hx X.hb X.hts hin X.hown X.hK h1 0 rfl hc k hkN (X.hts _ hl) (fun _ h => h) hk hd (kk H ls locs h1 h2 h3 h4)
  · exact va_getN X.hx X.hb X.hts hin X.hown X.hK h1 0 rfl hc k hkN (X.hts _ hl) (fun _ h => h) hk hd (kk H ls locs h1 h2 h3 h4)
theorem upd_oI (g : Nat → Int) (k : Nat) (z : Int) : upd (fun i => oI (g i)) k (oI z) = fun i => oI (if i = k then z else g i) := by
  funext i
  by_cases h : i = k
  · subst h; simp [upd]
  · simp [upd, h]
theorem n_iast {q0 n a : Nat} {x z : Int} (g : Nat → Int) (ha : E[q0]? = some (a, .inl (aK 0, n, .inl (fun i => oI (g i))))) (hx : 0 ≤ x ∧ x < n) (hn : n < 2147483648) (hd : decode cc pc = .ok (.iastore, 1)) (kk : Wn X i j (pc + 1) L S (E.set q0 (a, .inl (aK 0, n, .inl (fun i => oI (if i = x.toNat then z else g i)))))) : Wn X i j pc L (.int (oI z) :: .int (oI x) :: .ref a :: S) E := by
  intro H ls locs h1 h2 h3 h4
  refine va_iast X.hx X.hb X.hK h1 h2 h3 q0 0 ha rfl (oI_in hx.1 hx.2 hn) hd (fun H1 locs1 q1 q2 q3 => ?_)
  rw [oI_cl hx.1 (by omega), upd_oI] at q1 q2
  exact kk H1 ls locs1 q1 q2 q3 h4
theorem n_istore {n : Fin 4} {x : Int} {L' : List (Nat × Value)} (hd : decode cc pc = .ok (.istore_n n, 1)) (hn : (n : Nat) < nL) (hF : L.filter (fun q => !(q.1 == (n : Nat)) && !(q.1 + 1 == (n : Nat) && q.2.category == 2)) = L') (k : Wn X i j (pc + 1) (((n : Nat), .int (oI x)) :: L') S E) : Wn X i j pc L (.int (oI x) :: S) E := fun H ls locs h1 h2 h3 h4 => lv_istore_n X.hx X.hb hd rfl h4 hn rfl (fun ls' h => k H ls' locs h1 h2 h3 (by rw [← hF]; exact h))
theorem n_iload {n : Fin 4} {x : Int} (q : Nat) (hd : decode cc pc = .ok (.iload_n n, 1)) (hL : L[q]? = some ((n : Nat), .int (oI x))) (k : Wn X i j (pc + 1) L (.int (oI x) :: S) E) : Wn X i j pc L S E := fun H ls locs h1 h2 h3 h4 => lv_iload_n X.hx X.hb hd rfl (lv_at h4 q hL) (k H ls locs h1 h2 h3 h4)
theorem n_iinc {n q : Nat} {x z : Int} {L' : List (Nat × Value)} (hd : decode cc pc = .ok (.iinc n z, 3)) (hL : L[q]? = some (n, .int (oI x))) (hn : n < nL) (hF : L.filter (fun q => !(q.1 == n) && !(q.1 + 1 == n && q.2.category == 2)) = L') (k : Wn X i j (pc + 3) ((n, .int (oI (x + z))) :: L') S E) : Wn X i j pc L S E := fun H ls locs h1 h2 h3 h4 => lv_iinc X.hx X.hb hd h4 hL (oI_add x z).symm hn rfl (fun ls' h => k H ls' locs h1 h2 h3 (by rw [← hF]; exact h))
theorem n_goto {off : Int} {tgt : Nat} (hd : decode cc pc = .ok (.goto off, 3)) (ht : (pc : Int) + off = (tgt : Int)) (k : Wn X i j tgt L S E) : Wn X i j pc L S E := fun H ls locs h1 h2 h3 h4 => lv_goto X.hx X.hb hd ht (k H ls locs h1 h2 h3 h4)
theorem n_ge {x y : Int} {off : Int} {tgt : Nat} (hx : rI x) (hy : rI y) (hd : decode cc pc = .ok (.if_icmp .ge off, 3)) (ht : (pc : Int) + off = (tgt : Int)) (kt : y ≤ x → Wn X i j tgt L S E) (kf : x < y → Wn X i j (pc + 3) L S E) : Wn X i j pc L (.int (oI y) :: .int (oI x) :: S) E := fun H ls locs h1 h2 h3 h4 =>
  lv_icmp_ge (x := oI x) (y := oI y) X.hx X.hb hd ht (fun q => kt ((oI_le hy hx).mp q) H ls locs h1 h2 h3 h4) (fun q => kf (Int.not_le.mp (fun w => q ((oI_le hy hx).mpr w))) H ls locs h1 h2 h3 h4)
theorem n_eq {E' : va_W} (h : E = E') (k : Wn X i j pc L S E') : Wn X i j pc L S E := h ▸ k
theorem n_ar {i' j' : Nat} (hi : i = i') (hj : j = j') (k : Wn X i' j' pc L S E) : Wn X i j pc L S E := by subst hi; subst hj; exact k
set_option maxHeartbeats 1000000 in
/-- new, dup, invokespecial -/
theorem n_new {i1 i2 ci N maxL : Nat} {y : MethodName} {fs : List Value} {bytes : ByteArray} {rm : Room} {T' : List Sh} {M' : Mm} {kc kn : Nat} (hni : NI own i1 i2 ci y N fs bytes maxL) (hC : CtN l y rm ci fs T' M' kc kn) (hR : i + 1 ≤ R.cells ∧ j + N ≤ R.slots ∧ rm.frames + 1 ≤ R.frames ∧ 8 + (maxL + 11) + rm.locals ≤ R.locals ∧ i + 1 + rm.cells ≤ R.cells ∧ j + N + rm.slots ≤ R.slots) (hS8 : ((S.map fun v => v.category).sum) ≤ 7) (hd1 : decode cc pc = .ok (.new i1, 3)) (hd2 : decode cc (pc + 3) = .ok (.dup, 1)) (hd3 : decode cc (pc + 4) = .ok (.invokespecial i2, 3))
    (k : ∀ ad : Nat → Nat, Wn X (i + 1 + kc) (j + N + kn) (pc + 7) L (.ref (ad 0) :: S) (E ++ mkW ad aK T' M')) : Wn X i j pc L S E := by
  intro H ls locs h1 h2 h3 h4
  obtain ⟨Tb, ty, n1, n2, n3, n4, n5, n6, n7, n8, n9, n10, n11, n12, n13⟩ := hni
  refine va_new (ci := ci) (fs := fs) X.hx X.hb X.hts n2 ty n3 X.hown (X.hts _ n5) (X.hts _ n6) (X.hts _ n7) X.hK h1 h2 h3 X.hAs n1 n4 hR.1 hR.2.1 hd1 (fun q H1 g1 g2 g3 => ?_)
  refine lv_dup X.hx X.hb hd2 rfl ?_
  intro U hU Y
  have hlast : (E ++ [(q, (.inr (ci, fs) : va_E))])[E.length]? = some (q, .inr (ci, fs)) := by
    rw [List.getElem?_append_right (Nat.le_refl _), Nat.sub_self]; rfl
  have hqA : A q := g2.2 _ _ hlast
  have hqlt : q < H1.size := (g1 _ _ hlast).lt
  have hpl : e.platform.magicAccessors = ({} : Platform).magicAccessors := by rw [Y.admits.platform]
  have hdc : decode c.code (pc + 4) = .ok (.invokespecial i2, 3) := by rw [X.hb]; exact hd3
  obtain ⟨mk, methM, cM, kP, vm1, hnamed, hmethM, hcodeM, -, hlocalsM, -, hkP, -, hW1, hstep1⟩ := Steps.initColdArgs (e := e) Y.here X.hx Y.warmed hpl X.hown n12 n11 (X.hts _ n8) (X.hts _ n9) (X.hts _ n10) (f := F0 m (pc + 4) ls (.ref q :: .ref q :: S)) rfl (argsL := []) (rest := .ref q :: S) (fun sig hs => by rw [hs] at n13; exact (Option.some.inj n13).symm) rfl hdc
  have Y1 := Y.noted hW1
  have hH : ((U.setVm vm1).calling (F0 m (pc + 4) ls (.ref q :: S)) mk ([Value.ref q] : List Value).toArray).heap = H1 := hU
  have hvm : ((U.setVm vm1).calling (F0 m (pc + 4) ls (.ref q :: S)) mk ([Value.ref q] : List Value).toArray).vm = vm1 := rfl
  have hsub : ∀ z, dN q H1.size z → A z := by
    intro z hz
    rcases hz with rfl | hz
    · exact hqA
    · exact X.hAs z (Nat.le_trans g3.1 hz)
  have hP1 : va_P D vwCl [(q, .inr (ci, fs))] H1 := by
    intro k x hx
    have hz : k < 1 := (List.getElem?_eq_some_iff.mp hx).1
    rw [show k = 0 by omega] at hx
    cases hx
    exact g1 _ _ hlast
  have hpre : PreN D aK ci fs q ([Value.ref q] : List Value).toArray ((U.setVm vm1).calling (F0 m (pc + 4) ls (.ref q :: S)) mk ([Value.ref q] : List Value).toArray) := by
    refine ⟨rfl, by rw [hH]; exact hP1, va_K.moved (by rw [hvm]; exact hW1.alike) X.hK, ?_⟩
    unfold ThS
    rw [hH]
    exact ⟨((X.hth.1.kept g3.2.1).moved (by rw [hvm]; exact hW1.alike)).narrow hsub, ((X.hth.2.kept g3.2.1).moved (by rw [hvm]; exact hW1.alike)).narrow hsub⟩
  obtain ⟨o, t, hq, hst, hret, -⟩ := ct_runL (hC D aK q) Y1 (g := F0 m (pc + 4) ls (.ref q :: S)) rfl (by rw [X.hml]; exact h4.1) hdc (by show 2 * 0 + ((Value.ref q :: S).map fun v => v.category).sum ≤ 8; rw [List.map_cons, List.sum_cons, show (Value.ref q).category = 1 from rfl]; omega) (Y1.named hnamed) ⟨hR.2.2.1, hR.2.2.2.1, hR.2.2.2.2.1, hR.2.2.2.2.2⟩ (WA_at (U := U.setVm vm1) hW1 X.hts) ⟨methM, cM, by rw [Y1.warmed.alike.method?]; exact hmethM, hcodeM, hlocalsM⟩ n7 hpre (fun o t h => by
    obtain ⟨a1, Lc, -, e2, e3, -⟩ := h
    exact ⟨e2, Lc, kc, kn, e3⟩)
  obtain ⟨ad, Lc, f0, f2, f3, f4, f5, f5', f6, f7, ho⟩ := hq
  rw [hH] at f4 f5' f6 f7
  have hapart : ∀ (k : Nat) (x : Nat × va_E), E[k]? = some x → x.1 < H1.size ∧ ¬ dN q H1.size x.1 := by
    intro k x hx
    have hk : k < E.length := (List.getElem?_eq_some_iff.mp hx).1
    have hx' : (E ++ [(q, (.inr (ci, fs) : va_E))])[k]? = some x := by rw [List.getElem?_append_left hk]; exact hx
    refine ⟨(g1 _ _ hx').lt, fun z => ?_⟩
    rcases z with z | z
    · have := g2.1 k E.length x _ hx' hlast z
      omega
    · have := (g1 _ _ hx').lt
      omega
  have hE1 : va_P D vwCl E H1 := fun k x hx => g1 k x (by rw [List.getElem?_append_left (List.getElem?_eq_some_iff.mp hx).1]; exact hx)
  have hP2 : va_P D vwCl (E ++ mkW ad aK T' M') t.heap := (hE1.kept (fun k x hx => f7 x.1 (hapart k x hx).1 (hapart k x hx).2)).app f5
  have hDE : va_D A E := ⟨fun a b x y hx hy hxy => g2.1 a b x y (by rw [List.getElem?_append_left (List.getElem?_eq_some_iff.mp hx).1]; exact hx) (by rw [List.getElem?_append_left (List.getElem?_eq_some_iff.mp hy).1]; exact hy) hxy, fun k x hx => g2.2 k x (by rw [List.getElem?_append_left (List.getElem?_eq_some_iff.mp hx).1]; exact hx)⟩
  have hD2 : va_D A (E ++ mkW ad aK T' M') := va_D.app hDE (f5'.weaken (fun k x _ hz => hsub _ hz)) (fun a b x y hx hy hxy => (hapart a x hx).2 (by rw [hxy]; exact f5'.2 b y hy))
  have hS2 : va_S A s.heap t.heap (locs ++ Lc) := by
    refine ⟨Nat.le_trans g3.1 f6, fun z z1 z2 => ?_, fun z hz => ?_⟩
    · rw [f7 z (Nat.lt_of_lt_of_le z1 g3.1) (fun w => z2 (hsub z w))]
      exact g3.2.1 z z1 z2
    · rcases List.mem_append.mp hz with w | w
      · exact g3.2.2 z w
      · exact hsub _ (f4 z w)
  have hwk := k ad t.heap ls (locs ++ Lc) hP2 hD2 hS2 h4
  rw [f0] at hwk
  obtain ⟨t2, b1, b2⟩ := hwk (({ U.setVm vm1 with heap := t.heap, slotsUsed := t.slotsUsed } : State).setVm t.vm) rfl (hst Lc kc kn f3)
  exact ⟨t2, hstep1 _ (fun acts => by rw [doInvoke_state]; exact (hret none ho).trans b1), b2⟩
set_option maxHeartbeats 1000000 in
/-- a static method, by its contract over the last cells -/
theorem n_cs {y : MethodName} {rm : Room} {T' : List Sh} {mv' : Nat → Bool} {ret' : Option FieldType} {avs : List Vv} {M M9 : Mm} {v : Int} {bytes : ByteArray} {maxL n idx : Nat} {E1 : va_W} (ad : Nat → Nat) (hc : Ct l y rm T' mv' false ret' avs M (0, v, M9)) (hm : MS y bytes maxL ret' n) (hl : ML own idx y) (hlen : avs.length = n) (hR : rm.frames + 1 ≤ R.frames ∧ 8 + (maxL + 11) + rm.locals ≤ R.locals ∧ i + rm.cells ≤ R.cells ∧ j + rm.slots ≤ R.slots) (hS8 : ((S.map fun v => v.category).sum) ≤ 8) (hd : decode cc pc = .ok (.invokestatic idx, 3))
    (k : Wn X i j (pc + 3) L ((rv ret' v).toList ++ S) (E1 ++ mkW ad aK T' M9)) : Wn X i j pc L ((avs.map (vl ad)).reverse ++ S) (E1 ++ mkW ad aK T' M) := by
  intro H ls locs h1 h2 h3 h4 U hU Y
  obtain ⟨m1, m2, m4, m5, m6⟩ := hm
  have hts := X.hts
  have hlenP : ∀ sig, parseMethodDescriptor y.desc = some sig → (avs.map (vl ad)).length = sig.parameters.length := by
    intro sig hs
    rw [hs] at m6
    rw [List.length_map, hlen]
    exact (Option.some.inj m6).symm
  obtain ⟨mk, hnamed⟩ := Cond.code_named (hts _ m1)
  obtain ⟨methM, cM, hmethM, hcM, -, hlM, -, -, -, hsigM⟩ := Cond.code_spec hnamed (hts _ m1)
  have hstatic : methM.isStatic = true := Cond.static_spec hnamed hmethM (hts _ m2)
  obtain ⟨kP, hkP, -⟩ := className_of_methodNamed hnamed
  have hinitP : kP.init = .initialized := Cond.initialized_spec (findClass_of_methodNamed hnamed) hkP (hts _ m4)
  have hdc : decode c.code pc = .ok (.invokestatic idx, 3) := by rw [X.hb]; exact hd
  have hat : ∀ (k : Nat) (sh : Sh), T'[k]? = some sh → (E1 ++ mkW ad aK T' M)[E1.length + k]? = some (ad k, en ad aK M k sh) := by
    intro k sh hk
    rw [List.getElem?_append_right (by omega), show E1.length + k - E1.length = k by omega]
    exact mkW_at hk
  have hsub : ∀ z, AA ad T'.length H.size z → A z := by
    intro z hz
    rcases hz with ⟨k, hk, rfl⟩ | hz
    · exact h2.2 _ _ (hat k _ (List.getElem?_eq_getElem hk))
    · exact X.hAs z (Nat.le_trans h3.1 hz)
  have hP1 : va_P D vwCl (mkW ad aK T' M) H := by
    intro k x hx
    obtain ⟨sh, hk, rfl⟩ := mkW_inv hx
    exact h1 _ _ (hat k sh hk)
  have hinj : ∀ a b, a < T'.length → b < T'.length → ad a = ad b → a = b := by
    intro a b ha hb hab
    have := h2.1 _ _ _ _ (hat a _ (List.getElem?_eq_getElem ha)) (hat b _ (List.getElem?_eq_getElem hb)) hab
    omega
  have fin : ∀ vm1, Stand p l e R s m args below meth c (U.setVm vm1) locs i j → (∀ target, (∀ acts, Steps p.tables e below (doInvoke e ((U.setVm vm1).setTop (F0 m pc ls S)) acts mk (avs.map (vl ad)).toArray).1 target) → Steps p.tables e below (U.setTop (F0 m pc ls ((avs.map (vl ad)).reverse ++ S))) target) → ∃ t, Steps p.tables e below (U.setTop (F0 m pc ls ((avs.map (vl ad)).reverse ++ S))) t ∧ Q t := by
    intro vm1 Y1 hstep1
    have hW1 : s.WarmedH vm1 := Y1.warmed
    have hH : ((U.setVm vm1).calling (F0 m pc ls S) mk (avs.map (vl ad)).toArray).heap = H := hU
    have hvm : ((U.setVm vm1).calling (F0 m pc ls S) mk (avs.map (vl ad)).toArray).vm = vm1 := rfl
    have hpre : PreI D aK T' ad M avs (avs.map (vl ad)).toArray ((U.setVm vm1).calling (F0 m pc ls S) mk (avs.map (vl ad)).toArray) := by
      refine ⟨rfl, by rw [hH]; exact hP1, va_K.moved (by rw [hvm]; exact hW1.alike) X.hK, hinj, ?_⟩
      unfold ThS
      rw [hH]
      exact ⟨((X.hth.1.kept h3.2.1).moved (by rw [hvm]; exact hW1.alike)).narrow hsub, ((X.hth.2.kept h3.2.1).moved (by rw [hvm]; exact hW1.alike)).narrow hsub⟩
    obtain ⟨o, t, hq, hst, hret, -⟩ := ct_runL (hc D aK ad) Y1 (g := F0 m pc ls S) rfl (by rw [X.hml]; exact h4.1) hdc (by show 2 * 0 + (S.map fun v => v.category).sum ≤ 8; omega) (Y1.named hnamed) hR (WA_at (U := U.setVm vm1) hW1 X.hts) ⟨methM, cM, by rw [Y1.warmed.alike.method?]; exact hmethM, hcM, hlM⟩ m4 hpre (fun o t h => by
      obtain ⟨a1, Lc, k, n, -, e2, e3, -⟩ := h
      exact ⟨e2, Lc, k, n, e3⟩)
    obtain ⟨a1, Lc, kk, nn, f1, f2, f3, f4, f5, f6, f7, f8⟩ := hq
    rcases f8 with ⟨-, rfl, rfl, ho⟩ | ⟨z, -⟩
    · rw [hH] at f4 f6 f7
      have hadd : a1 = ad := f1.1 rfl
      subst hadd
      have hapart : ∀ (k : Nat) (x : Nat × va_E), E1[k]? = some x → x.1 < H.size ∧ ¬ AA a1 T'.length H.size x.1 := by
        intro k x hx
        have hk : k < E1.length := (List.getElem?_eq_some_iff.mp hx).1
        have hx' : (E1 ++ mkW a1 aK T' M)[k]? = some x := by rw [List.getElem?_append_left hk]; exact hx
        refine ⟨(h1 _ _ hx').lt, fun z => ?_⟩
        rcases z with ⟨b, hb, z⟩ | z
        · have := h2.1 k (E1.length + b) x _ hx' (hat b _ (List.getElem?_eq_getElem hb)) z
          omega
        · have := (h1 _ _ hx').lt
          omega
      have hE1 : va_P D vwCl E1 H := fun k x hx => h1 k x (by rw [List.getElem?_append_left (List.getElem?_eq_some_iff.mp hx).1]; exact hx)
      have hP2 : va_P D vwCl (E1 ++ mkW a1 aK T' M9) t.heap := (hE1.kept (fun k x hx => f7 x.1 (hapart k x hx).1 (hapart k x hx).2)).app f5
      have hDE : va_D A E1 := ⟨fun a b x y hx hy hxy => h2.1 a b x y (by rw [List.getElem?_append_left (List.getElem?_eq_some_iff.mp hx).1]; exact hx) (by rw [List.getElem?_append_left (List.getElem?_eq_some_iff.mp hy).1]; exact hy) hxy, fun k x hx => h2.2 k x (by rw [List.getElem?_append_left (List.getElem?_eq_some_iff.mp hx).1]; exact hx)⟩
      have hDW : va_D A (mkW a1 aK T' M9) := by
        refine ⟨fun a b x y hx hy hxy => ?_, fun k x hx => ?_⟩
        · obtain ⟨sa, ha, rfl⟩ := mkW_inv hx
          obtain ⟨sb, hb, rfl⟩ := mkW_inv hy
          exact hinj a b (List.getElem?_eq_some_iff.mp ha).1 (List.getElem?_eq_some_iff.mp hb).1 hxy
        · obtain ⟨sa, ha, rfl⟩ := mkW_inv hx
          have := h2.2 _ _ (hat k _ ha)
          exact this
      have hD2 : va_D A (E1 ++ mkW a1 aK T' M9) := va_D.app hDE hDW (fun a b x y hx hy hxy => (hapart a x hx).2 (by
        obtain ⟨sb, hb, rfl⟩ := mkW_inv hy
        exact Or.inl ⟨b, (List.getElem?_eq_some_iff.mp hb).1, hxy⟩))
      have hS2 : va_S A s.heap t.heap (locs ++ Lc) := by
        refine ⟨Nat.le_trans h3.1 f6, fun z z1 z2 => ?_, fun z hz => ?_⟩
        · rw [f7 z (Nat.lt_of_lt_of_le z1 h3.1) (fun w => z2 (hsub z w))]
          exact h3.2.1 z z1 z2
        · rcases List.mem_append.mp hz with w | w
          · exact h3.2.2 z w
          · exact hsub _ (f4 z w)
      obtain ⟨t2, b1, b2⟩ := k t.heap ls (locs ++ Lc) hP2 hD2 hS2 h4 (({ U.setVm vm1 with heap := t.heap, slotsUsed := t.slotsUsed } : State).setVm t.vm) rfl (hst Lc 0 0 f3)
      exact ⟨t2, hstep1 _ (fun acts => by rw [doInvoke_state]; exact (hret _ ho).trans b1), b2⟩
    · exact absurd rfl z
  rcases hl with hl | ⟨host, hl⟩
  · obtain ⟨vm1, Y1, hs1⟩ := Y.invokestatic X.hx X.hown (hts _ hl) hnamed hmethM hstatic hkP hinitP m5 (g := F0 m pc ls ((avs.map (vl ad)).reverse ++ S)) rfl (argsL := avs.map (vl ad)) (rest := S) (hlenP _ hsigM) rfl hdc
    exact fin vm1 Y1 hs1
  · obtain ⟨vm1, Y1, hs1⟩ := Y.invokestaticNest X.hx X.hown (hts _ hl) hnamed hmethM hstatic hkP hinitP m5 (g := F0 m pc ls ((avs.map (vl ad)).reverse ++ S)) rfl (argsL := avs.map (vl ad)) (rest := S) (hlenP _ hsigM) rfl hdc
    exact fin vm1 Y1 hs1
end NW
section NE
variable {p : Program} {l : Launch} {e : Env} {R : Room} {s : State} {m : MethodId} {args : Array Value} {below : List Frame} {meth : Method} {c : Code} {D : va_G} {aK : Nat → ClassId} {own : String} {cc : ByteArray} {nL h : Nat} {T' : List Sh} {M' : Mm} {kc kn : Nat}
theorem n_ret {X : Cn p l e R s m args below meth c D aK own cc nL h T' M' kc kn} {i j pc : Nat} {L : List (Nat × Value)} {E : va_W} (ad : Nat → Nat) (h0 : ad 0 = h) (hE : E = mkW ad aK T' M') (hi : i ≤ kc ∧ j ≤ kn) (hd : decode cc pc = .ok (.return_, 1)) : Wn X i j pc L [] E := by
  intro H ls locs h1 h2 h3 h4
  subst hE
  refine wq_mono (fun t ht => ?_) (W.vret (Qc := fun _ _ o t => o = .returned none ∧ t.heap = H) (free := dN h s.heap.size) X.hx X.hb X.hr (fun t ht _ => ⟨rfl, ht⟩) h3.2.2 hd X.hlocks)
  obtain ⟨o, q1, q2, ⟨q3, q4⟩, Lc, ⟨-, q5, q6⟩, q7⟩ := ht
  exact ⟨o, q1, q2, ad, Lc, h0, q5, q6.mono hi.1 hi.2, q7, by rw [q4]; exact h1, h2, by rw [q4]; exact h3.1, fun q a b => by rw [q4]; exact h3.2.1 q a b, q3⟩
end NE
theorem ctn_of {l : Launch} {y : MethodName} {rm : Room} {ci : Nat} {fs : List Value} {T' : List Sh} {M' : Mm} {kc kn : Nat} {cc : ByteArray} {nL : Nat} (hl : l.stackTraces = false) (hy : plainName y.cls = true) (hcode : Cond.code y cc nL none ∈ WA) (hn : 1 ≤ nL)
    (body : ∀ {p : Program} {e : Env} {s : State} {m : MethodId} {args : Array Value} {below : List Frame} {meth : Method} {c : Code} {D : va_G} {aK : Nat → ClassId} {h : Nat} (X : Cn p l e rm s m args below meth c D aK y.cls cc nL h T' M' kc kn), meth.name = y.name → Wn X 0 0 0 [(0, .ref h)] [] [(h, .inr (ci, fs))]) : CtN l y rm ci fs T' M' kc kn := by
  intro D aK h
  refine Jvm.Free.MetFree.of_bodyS (code := cc) (maxLocals := nL) (ret := none) hy ?_ ?_
  · intro args s m h hn
    obtain ⟨meth, c, h1, h2, h3, h4, h5, h6, -, -⟩ := Cond.code_spec hn (atoms_spec (ws := WA) h _ hcode)
    exact ⟨meth, c, h1, h2, h3, h4, h5, h6⟩
  · intro p e s m args below meth c s₁ B hml hP _
    obtain ⟨rfl, p2, p3, p5⟩ := hP
    have hts := atoms_spec (ws := WA) B.pre
    have hns : ∀ q cell, dN h s.heap.size q → s.heap[q]? = some cell → cell.vm.isStatics = false := by
      intro q cell hq hc
      rcases hq with rfl | hq
      · obtain ⟨r, -, cell', q1, -, q3, -⟩ := p2 0 _ rfl
        cases hc.symm.trans q1
        rw [q3]; rfl
      · exact absurd (Array.getElem?_eq_some_iff.mp hc).1 (by omega)
    have X : Cn p l e rm s m ([Value.ref h] : List Value).toArray below meth c D aK y.cls cc nL h T' M' kc kn :=
      ⟨B.exec, B.bytes, hml, hts, findClass_of_methodNamed B.named, p3, B.notSynchronized, B.returns, fun _ => B.noHandlers (hts _ hcode), hl, p5, hns, fun i hi => absurd hi (Nat.not_lt_zero _), fun q hq => Or.inr hq⟩
    have hD : va_D (dN h s.heap.size) [(h, (.inr (ci, fs) : va_E))] := by
      refine ⟨fun a b x y hx hy _ => ?_, fun k x hx => ?_⟩
      · have h1 : a < 1 := (List.getElem?_eq_some_iff.mp hx).1
        have h2 : b < 1 := (List.getElem?_eq_some_iff.mp hy).1
        omega
      · have hz : k < 1 := (List.getElem?_eq_some_iff.mp hx).1
        rw [show k = 0 by omega] at hx
        cases hx
        exact Or.inl rfl
    have hl0 := lv_entry ([.ref h]) (n := nL) hn
    have hw := body X (name_of_methodNamed B.named B.method).1 s.heap _ [] p2 hD va_S.rf hl0
    rw [← lg_entry_eq] at hw
    have hh0 : s₁.heap = s.heap := by rw [B.state]; rfl
    obtain ⟨t, a1, o, b1, b2, b3⟩ := hw s₁ hh0 (Stand.of_body B)
    exact ⟨t, o, a1, b1, b2, b3⟩
