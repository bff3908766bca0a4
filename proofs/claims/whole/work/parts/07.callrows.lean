/-! Rows for calls -/
def okv (mv : Nat → Bool) (v : Vv) : Bool := match v with
  | .inl _ => true
  | .inr q => !(mv q)
def oko (mv : Nat → Bool) (o : Option Vv) : Bool := match o with
  | none => true
  | some v => okv mv v
def pushv (ret : Option FieldType) (v : Int) (S : List Vv) : List Vv := match ret with
  | none => S
  | some _ => .inl v :: S
def MV (y : MethodName) (bytes : ByteArray) (maxL : Nat) (ret : Option FieldType) (n : Nat) : Prop := Cond.code y bytes maxL ret ∈ WA ∧ Cond.instanceMethod y ∈ WA ∧ Cond.selects y.cls y y ∈ WA ∧ Cond.initialized y.cls ∈ WA ∧ (y.cls ≠ "java/lang/invoke/MethodHandle" ∧ y.cls ≠ "java/lang/invoke/VarHandle") ∧ (parseMethodDescriptor y.desc).map (fun d => d.parameters.length) = some n
def MS (y : MethodName) (bytes : ByteArray) (maxL : Nat) (ret : Option FieldType) (n : Nat) : Prop := Cond.code y bytes maxL ret ∈ WA ∧ Cond.static y ∈ WA ∧ Cond.initialized y.cls ∈ WA ∧ (y.cls ≠ "java/lang/invoke/MethodHandle" ∧ y.cls ≠ "java/lang/invoke/VarHandle") ∧ (parseMethodDescriptor y.desc).map (fun d => d.parameters.length) = some n
def ML (own : String) (idx : Nat) (y : MethodName) : Prop := Cond.methodLink own idx y ∈ WA ∨ ∃ host, Cond.methodLinkNest own idx y host ∈ WA
theorem okv_vl {mv : Nat → Bool} {pm : Bool} {n : Nat} {a1 a2 : Nat → Nat} (h : agr mv pm n a1 a2) {v : Vv} (hv : okv mv v = true) : vl a2 v = vl a1 v := by
  cases v with
  | inl x => rfl
  | inr q =>
    have hq : mv q = false := by
      have h' : (!(mv q)) = true := hv
      cases hm : mv q with
      | false => rfl
      | true => rw [hm] at h'; cases h'
    show Value.ref (a2 q) = Value.ref (a1 q)
    rw [h.2.1 q hq]
theorem fix_S {mv : Nat → Bool} {pm : Bool} {n : Nat} {a1 a2 : Nat → Nat} (h : agr mv pm n a1 a2) : ∀ S : List Vv, (pm = false ∨ S.all (okv mv) = true) → S.map (vl a2) = S.map (vl a1)
  | S, Or.inl z => by rw [h.1 z]
  | [], Or.inr _ => rfl
  | v :: S, Or.inr z => by
    rw [List.all_cons, Bool.and_eq_true] at z
    rw [List.map_cons, List.map_cons, okv_vl h z.1, fix_S h S (Or.inr z.2)]
theorem fix_L {mv : Nat → Bool} {pm : Bool} {n nL : Nat} {a1 a2 : Nat → Nat} {ls : Array Slot} (h : agr mv pm n a1 a2) (L : List (Option Vv)) (z : pm = false ∨ L.all (oko mv) = true) (hl : lv_has ls nL (lvl a1 L)) : lv_has ls nL (lvl a2 L) := by
  rcases z with z | z
  · rw [h.1 z]; exact hl
  · refine ⟨hl.1, hl.2.1, fun q hq => ?_⟩
    obtain ⟨i, v, hi, rfl⟩ := mem_lvl.mp hq
    have hv : okv mv v = true := List.all_eq_true.mp z (some v) (List.mem_of_getElem? hi)
    rw [okv_vl h hv]
    exact hl.2.2 _ (mem_lvl.mpr ⟨i, v, hi, rfl⟩)
section XC
variable {p : Program} {l : Launch} {e : Env} {R : Room} {s : State} {m : MethodId} {args : Array Value} {below : List Frame} {meth : Method} {c : Code} {D : va_G} {aK : Nat → ClassId} {T : List Sh} {mv : Nat → Bool} {pm : Bool} {a0 : Nat → Nat} {own : String} {cc : ByteArray} {nL : Nat} {ret : Option FieldType} {r : Nat × Int × Mm}
variable {X : Cy p l e R s m args below meth c D aK T mv pm a0 own cc nL ret r} {pc : Nat} {L : List (Option Vv)} {S : List Vv} {M : Mm}
variable {y : MethodName} {rm : Room} {pm' : Bool} {ret' : Option FieldType} {avs : List Vv} {r' : Nat × Int × Mm} {bytes : ByteArray} {maxL n idx : Nat}
set_option maxHeartbeats 1000000 in
theorem m_fin (X : Cy p l e R s m args below meth c D aK T mv pm a0 own cc nL ret r) (hc : Ct l y rm T mv pm' ret' avs M r') (hcode : Cond.code y bytes maxL ret' ∈ WA) (hini : Cond.initialized y.cls ∈ WA) (hR : rm.frames + 1 ≤ R.frames ∧ 8 + (maxL + 11) + rm.locals ≤ R.locals ∧ rm.cells ≤ R.cells ∧ rm.slots ≤ R.slots) (hS8 : S.length ≤ 8)
    (hpm : pm' = true → pm = true) (hfS : pm' = false ∨ S.all (okv mv) = true) (hfL : pm' = false ∨ L.all (oko mv) = true) (k0 : r'.1 = 0 → Wm X (pc + 3) L (pushv ret' r'.2.1 S) r'.2.2) (kx : ¬ r'.1 = 0 → r.1 = r'.1 ∧ r.2.2 = r'.2.2)
    {ad : Nat → Nat} {H : Heap} {ls : Array Slot} {locs : List Loc} (h1 : agr mv pm T.length a0 ad) (h2 : va_P D vwCl (mkW ad aK T M) H) (h3 : va_S (AA a0 T.length s.heap.size) s.heap H locs) (h4 : lv_has ls nL (lvl ad L)) {U : State} (hU : U.heap = H) {stk : List Value} {vm1 : Vm} {mk : MethodId} {ig : Instr}
    (Y1 : Stand p l e R s m args below meth c (U.setVm vm1) locs 0 0) (hn : (U.setVm vm1).methodNamed? y = some mk) (hd : decode c.code pc = .ok (ig, 3))
    (hstep : ∀ target, (∀ acts, Steps p.tables e below (doInvoke e ((U.setVm vm1).setTop (F0 m pc ls (S.map (vl ad)))) acts mk (avs.map (vl ad)).toArray).1 target) → Steps p.tables e below (U.setTop (F0 m pc ls stk)) target) :
    ∃ t, Steps p.tables e below (U.setTop (F0 m pc ls stk)) t ∧ EQ below D aK T mv pm a0 ret r s t := by
  have hW1 : s.WarmedH vm1 := Y1.warmed
  have hAsub : ∀ q, AA ad T.length H.size q → AA a0 T.length s.heap.size q := by
    intro q hq
    rcases hq with ⟨i, hi, rfl⟩ | hq
    · obtain ⟨j, hj, e1⟩ := h1.2.2.2 i hi
      exact Or.inl ⟨j, hj, e1⟩
    · exact Or.inr (Nat.le_trans h3.1 hq)
  have hH : ((U.setVm vm1).calling (F0 m pc ls (S.map (vl ad))) mk (avs.map (vl ad)).toArray).heap = H := hU
  have hvm : ((U.setVm vm1).calling (F0 m pc ls (S.map (vl ad))) mk (avs.map (vl ad)).toArray).vm = vm1 := rfl
  have hP : PreI D aK T ad M avs (avs.map (vl ad)).toArray ((U.setVm vm1).calling (F0 m pc ls (S.map (vl ad))) mk (avs.map (vl ad)).toArray) := by
    refine ⟨rfl, by rw [hH]; exact h2, va_K.moved (by rw [hvm]; exact hW1.alike) X.hK, h1.2.2.1, ?_⟩
    unfold ThS
    rw [hH]
    exact ⟨((X.hth.1.kept h3.2.1).moved (by rw [hvm]; exact hW1.alike)).narrow hAsub, ((X.hth.2.kept h3.2.1).moved (by rw [hvm]; exact hW1.alike)).narrow hAsub⟩
  obtain ⟨o, t, hq, hst, hret, hthr⟩ := ct_run (hc D aK ad) Y1 (g := F0 m pc ls (S.map (vl ad))) rfl (by rw [X.hml]; exact h4.1) hd (by show 2 * 0 + _ ≤ 8; rw [st_cat]; omega) hn hR (WA_at (U := U.setVm vm1) hW1 X.hts) hcode hini hP (fun o t h => by
    obtain ⟨ad', Lc, k, n, -, e2, e3, -⟩ := h
    exact ⟨e2, Lc, k, n, e3⟩)
  obtain ⟨ad', Lc, k, n, f1, f2, f3, f4, f5, f6, f7, f8⟩ := hq
  have Y2 := hst Lc k n f3
  rw [hH] at f4 f6 f7
  have hS' : va_S (AA a0 T.length s.heap.size) s.heap t.heap (locs ++ Lc) := by
    refine ⟨Nat.le_trans h3.1 f6, fun q q1 q2 => ?_, fun q hq => ?_⟩
    · rw [f7 q (Nat.lt_of_lt_of_le q1 h3.1) (fun z => q2 (hAsub q z))]
      exact h3.2.1 q q1 q2
    · rcases List.mem_append.mp hq with z | z
      · exact h3.2.2 q z
      · exact hAsub _ (f4 q z)
  have hag : agr mv pm T.length a0 ad' := agr_tr h1 f1 hpm
  rcases f8 with ⟨z0, rfl, rfl, ho⟩ | ⟨z0, rfl, rfl, x, ho, hex⟩
  · have hwk := k0 z0 ad' t.heap ls (locs ++ Lc) hag f5 hS' (fix_L f1 L hfL h4)
    have hstk : (pushv ret' r'.2.1 S).map (vl ad') = (rv ret' r'.2.1).toList ++ S.map (vl ad) := by
      cases ret' with
      | none => exact fix_S f1 S hfS
      | some ty =>
        show vl ad' (.inl r'.2.1) :: S.map (vl ad') = _
        rw [fix_S f1 S hfS]
        rfl
    rw [hstk] at hwk
    obtain ⟨t2, b1, b2⟩ := hwk (({ U.setVm vm1 with heap := t.heap, slotsUsed := t.slotsUsed } : State).setVm t.vm) rfl Y2
    exact ⟨t2, hstep _ (fun acts => by rw [doInvoke_state]; exact (hret _ ho).trans b1), b2⟩
  · have hno : c.exceptionTable.toList = [] := by
      have h := X.hnoh rfl
      rw [Array.isEmpty_iff] at h
      rw [h]
    obtain ⟨l1, l2, l3, l4, l5⟩ := Y2.leaveThrown x (g := F0 m pc ls (S.map (vl ad))) rfl rfl rfl (fun z hz => by rw [hno] at hz; exact nomatch hz) X.hlocks
    obtain ⟨kx1, kx2⟩ := kx z0
    refine ⟨_, hstep _ (fun acts => by rw [doInvoke_state]; exact (hthr x ho).trans l1), .threw x, l2, l3, ad', locs ++ Lc, 0 + 1, 0 + 6, hag, l4, l5, hS'.2.2, by rw [kx2]; exact f5, hS'.1, hS'.2.1, Or.inr ⟨by rw [kx1]; exact z0, rfl, rfl, x, rfl, ?_⟩⟩
    obtain ⟨ce, c1, c2, c3⟩ := hex
    exact ⟨ce, c1, c2, by rw [kx1]; exact c3⟩
set_option maxHeartbeats 1000000 in
theorem m_cv {q ci : Nat} {fds : List (Option Nat)} (hc : Ct l y rm T mv pm' ret' (.inr q :: avs) M r') (hm : MV y bytes maxL ret' n) (hl : ML own idx y) (hq : T[q]? = some (.inl (ci, fds))) (hci : (vwCl[ci]?).map (fun z => z.1) = some y.cls) (hlen : avs.length = n) (hR : rm.frames + 1 ≤ R.frames ∧ 8 + (maxL + 11) + rm.locals ≤ R.locals ∧ rm.cells ≤ R.cells ∧ rm.slots ≤ R.slots) (hS8 : S.length ≤ 8) (hd : decode cc pc = .ok (.invokevirtual idx, 3))
    (hpm : pm' = true → pm = true) (hfS : pm' = false ∨ S.all (okv mv) = true) (hfL : pm' = false ∨ L.all (oko mv) = true) (k0 : r'.1 = 0 → Wm X (pc + 3) L (pushv ret' r'.2.1 S) r'.2.2) (kx : ¬ r'.1 = 0 → r.1 = r'.1 ∧ r.2.2 = r'.2.2) : Wm X pc L (avs.reverse ++ .inr q :: S) M := by
  intro ad H ls locs h1 h2 h3 h4 U hU Y
  obtain ⟨m1, m2, m3, m4, m5, m6⟩ := hm
  have hts := X.hts
  have hb := X.hb
  have hlenP : ∀ sig, parseMethodDescriptor y.desc = some sig → (avs.map (vl ad)).length = sig.parameters.length := by
    intro sig hs
    rw [hs] at m6
    rw [List.length_map, hlen]
    exact (Option.some.inj m6).symm
  obtain ⟨mk, methM, hnamed, hmethM, hstM, habM⟩ := Cond.instanceMethod_spec (hts _ m2)
  obtain ⟨methM', cM, hmethM', -, -, -, -, -, -, hsigM⟩ := Cond.code_spec hnamed (hts _ m1)
  cases hmethM.symm.trans hmethM'
  obtain ⟨c2, r2, mm2, q1, q2, q3, q4, kP, hkP, hkPi⟩ := Cond.selects_spec (hts _ m3)
  cases (State.methodFound?_of_named hnamed m5).symm.trans q2
  cases hnamed.symm.trans q3
  obtain ⟨zc, hzc, cell, e1, e2, e3, -⟩ := h2 q _ (mkW_at hq)
  obtain ⟨Cn, Tb, N⟩ := zc
  have hCn : Cn = y.cls := by rw [hzc] at hci; exact Option.some.inj hci
  subst hCn
  obtain ⟨-, hfc, -⟩ := X.hK.1 ci _ hzc
  have hfc' : s.vm.findClass y.cls = some (D.1 ci) := hfc
  cases hfc'.symm.trans q1
  have hselP : selectMethod e.platform s.vm cell.cls mk = .method mk := by rw [Launch.admits_selectMethod Y.admits, e2]; exact q4
  have hstk : (F0 m pc ls ((avs.reverse ++ .inr q :: S).map (vl ad))).stack = (avs.map (vl ad)).reverse ++ .ref (ad q) :: S.map (vl ad) := by
    show (avs.reverse ++ .inr q :: S).map (vl ad) = _
    rw [List.map_append, List.map_reverse]
    rfl
  have hdc : decode c.code pc = .ok (.invokevirtual idx, 3) := by rw [hb]; exact hd
  rcases hl with hl | ⟨host, hl⟩
  · obtain ⟨vm1, Y1, hs1⟩ := Y.invokevirtual X.hx X.hown (hts _ hl) hnamed hmethM hstM hkP hkPi m5 (a := ad q) (cell := cell) (by rw [hU]; exact e1) (fun z h => by rw [e3] at h; cases h) hselP hmethM habM hkP hkPi (g := F0 m pc ls ((avs.reverse ++ .inr q :: S).map (vl ad))) rfl (argsL := avs.map (vl ad)) (rest := S.map (vl ad)) (hlenP _ hsigM) hstk hdc
    exact m_fin X hc m1 m4 hR hS8 hpm hfS hfL k0 kx h1 h2 h3 h4 hU Y1 (Y1.named hnamed) hdc hs1
  · obtain ⟨vm1, Y1, hs1⟩ := Y.invokevirtualNest X.hx X.hown (hts _ hl) hnamed hmethM hstM hkP hkPi m5 (a := ad q) (cell := cell) (by rw [hU]; exact e1) (fun z h => by rw [e3] at h; cases h) hselP hmethM habM hkP hkPi (g := F0 m pc ls ((avs.reverse ++ .inr q :: S).map (vl ad))) rfl (argsL := avs.map (vl ad)) (rest := S.map (vl ad)) (hlenP _ hsigM) hstk hdc
    exact m_fin X hc m1 m4 hR hS8 hpm hfS hfL k0 kx h1 h2 h3 h4 hU Y1 (Y1.named hnamed) hdc hs1
set_option maxHeartbeats 1000000 in
theorem m_cs (hc : Ct l y rm T mv pm' ret' avs M r') (hm : MS y bytes maxL ret' n) (hl : ML own idx y) (hlen : avs.length = n) (hR : rm.frames + 1 ≤ R.frames ∧ 8 + (maxL + 11) + rm.locals ≤ R.locals ∧ rm.cells ≤ R.cells ∧ rm.slots ≤ R.slots) (hS8 : S.length ≤ 8) (hd : decode cc pc = .ok (.invokestatic idx, 3))
    (hpm : pm' = true → pm = true) (hfS : pm' = false ∨ S.all (okv mv) = true) (hfL : pm' = false ∨ L.all (oko mv) = true) (k0 : r'.1 = 0 → Wm X (pc + 3) L (pushv ret' r'.2.1 S) r'.2.2) (kx : ¬ r'.1 = 0 → r.1 = r'.1 ∧ r.2.2 = r'.2.2) : Wm X pc L (avs.reverse ++ S) M := by
  intro ad H ls locs h1 h2 h3 h4 U hU Y
  obtain ⟨m1, m2, m4, m5, m6⟩ := hm
  have hts := X.hts
  have hb := X.hb
  have hlenP : ∀ sig, parseMethodDescriptor y.desc = some sig → (avs.map (vl ad)).length = sig.parameters.length := by
    intro sig hs
    rw [hs] at m6
    rw [List.length_map, hlen]
    exact (Option.some.inj m6).symm
  obtain ⟨mk, hnamed⟩ := Cond.code_named (hts _ m1)
  obtain ⟨methM, cM, hmethM, -, -, -, -, -, -, hsigM⟩ := Cond.code_spec hnamed (hts _ m1)
  have hstatic : methM.isStatic = true := Cond.static_spec hnamed hmethM (hts _ m2)
  obtain ⟨kP, hkP, -⟩ := className_of_methodNamed hnamed
  have hinitP : kP.init = .initialized := Cond.initialized_spec (findClass_of_methodNamed hnamed) hkP (hts _ m4)
  have hstk : (F0 m pc ls ((avs.reverse ++ S).map (vl ad))).stack = (avs.map (vl ad)).reverse ++ S.map (vl ad) := by
    show (avs.reverse ++ S).map (vl ad) = _
    rw [List.map_append, List.map_reverse]
  have hdc : decode c.code pc = .ok (.invokestatic idx, 3) := by rw [hb]; exact hd
  rcases hl with hl | ⟨host, hl⟩
  · obtain ⟨vm1, Y1, hs1⟩ := Y.invokestatic X.hx X.hown (hts _ hl) hnamed hmethM hstatic hkP hinitP m5 (g := F0 m pc ls ((avs.reverse ++ S).map (vl ad))) rfl (argsL := avs.map (vl ad)) (rest := S.map (vl ad)) (hlenP _ hsigM) hstk hdc
    exact m_fin X hc m1 m4 hR hS8 hpm hfS hfL k0 kx h1 h2 h3 h4 hU Y1 (Y1.named hnamed) hdc hs1
  · obtain ⟨vm1, Y1, hs1⟩ := Y.invokestaticNest X.hx X.hown (hts _ hl) hnamed hmethM hstatic hkP hinitP m5 (g := F0 m pc ls ((avs.reverse ++ S).map (vl ad))) rfl (argsL := avs.map (vl ad)) (rest := S.map (vl ad)) (hlenP _ hsigM) hstk hdc
    exact m_fin X hc m1 m4 hR hS8 hpm hfS hfL k0 kx h1 h2 h3 h4 hU Y1 (Y1.named hnamed) hdc hs1
theorem x_cvni {q ci : Nat} {fds : List (Option Nat)} {ty : FieldType} {ρ : Type} {u : ρ} {g : Option (Int × Mm)} {K : Int → Mm → Option ρ} (hf : mcn g K = some u) (hc : ∀ v M', g = some (v, M') → Ct l y rm T mv false (some ty) (.inr q :: avs) M (0, v, M')) (hm : MV y bytes maxL (some ty) n) (hl : ML own idx y) (hq : T[q]? = some (.inl (ci, fds))) (hci : (vwCl[ci]?).map (fun z => z.1) = some y.cls) (hlen : avs.length = n) (hR : rm.frames + 1 ≤ R.frames ∧ 8 + (maxL + 11) + rm.locals ≤ R.locals ∧ rm.cells ≤ R.cells ∧ rm.slots ≤ R.slots) (hS8 : S.length ≤ 8) (hd : decode cc pc = .ok (.invokevirtual idx, 3)) (kk : ∀ v M', K v M' = some u → Wm X (pc + 3) L (.inl v :: S) M') : Wm X pc L (avs.reverse ++ .inr q :: S) M := by
  obtain ⟨v, M', hw, h0⟩ := mcn_of hf
  exact m_cv (hc v M' hw) hm hl hq hci hlen hR hS8 hd (fun z => nomatch z) (Or.inl rfl) (Or.inl rfl) (fun _ => kk _ _ h0) (fun z => absurd rfl z)
theorem x_cvxi {q ci : Nat} {fds : List (Option Nat)} {ty : FieldType} {g : Option (Nat × Int × Mm)} {K : Int → Mm → Option (Nat × Int × Mm)} (hf : mcx g K = some r) (hc : ∀ w, g = some w → Ct l y rm T mv false (some ty) (.inr q :: avs) M w) (hm : MV y bytes maxL (some ty) n) (hl : ML own idx y) (hq : T[q]? = some (.inl (ci, fds))) (hci : (vwCl[ci]?).map (fun z => z.1) = some y.cls) (hlen : avs.length = n) (hR : rm.frames + 1 ≤ R.frames ∧ 8 + (maxL + 11) + rm.locals ≤ R.locals ∧ rm.cells ≤ R.cells ∧ rm.slots ≤ R.slots) (hS8 : S.length ≤ 8) (hd : decode cc pc = .ok (.invokevirtual idx, 3)) (kk : ∀ v M', K v M' = some r → Wm X (pc + 3) L (.inl v :: S) M') : Wm X pc L (avs.reverse ++ .inr q :: S) M := by
  obtain ⟨w, hw, h0, hx⟩ := mcx_of hf
  exact m_cv (hc w hw) hm hl hq hci hlen hR hS8 hd (fun z => nomatch z) (Or.inl rfl) (Or.inl rfl) (fun z => kk _ _ (h0 z)) (fun z => by rw [hx z]; exact ⟨rfl, rfl⟩)
theorem x_cvpi {q ci : Nat} {fds : List (Option Nat)} {ty : FieldType} {ρ : Type} {u : ρ} {g : Option (Int × Mm)} {K : Int → Mm → Option ρ} (hf : mcn g K = some u) (hc : ∀ v M', g = some (v, M') → Ct l y rm T mv true (some ty) (.inr q :: avs) M (0, v, M')) (hm : MV y bytes maxL (some ty) n) (hl : ML own idx y) (hq : T[q]? = some (.inl (ci, fds))) (hci : (vwCl[ci]?).map (fun z => z.1) = some y.cls) (hlen : avs.length = n) (hR : rm.frames + 1 ≤ R.frames ∧ 8 + (maxL + 11) + rm.locals ≤ R.locals ∧ rm.cells ≤ R.cells ∧ rm.slots ≤ R.slots) (hS8 : S.length ≤ 8) (hd : decode cc pc = .ok (.invokevirtual idx, 3)) (hpm : pm = true) (hfS : S.all (okv mv) = true) (hfL : L.all (oko mv) = true) (kk : ∀ v M', K v M' = some u → Wm X (pc + 3) L (.inl v :: S) M') : Wm X pc L (avs.reverse ++ .inr q :: S) M := by
  obtain ⟨v, M', hw, h0⟩ := mcn_of hf
  exact m_cv (hc v M' hw) hm hl hq hci hlen hR hS8 hd (fun _ => hpm) (Or.inr hfS) (Or.inr hfL) (fun _ => kk _ _ h0) (fun z => absurd rfl z)
theorem x_cvnv {q ci : Nat} {fds : List (Option Nat)} {ρ : Type} {u : ρ} {g : Option (Int × Mm)} {K : Int → Mm → Option ρ} (hf : mcn g K = some u) (hc : ∀ v M', g = some (v, M') → Ct l y rm T mv false none (.inr q :: avs) M (0, v, M')) (hm : MV y bytes maxL none n) (hl : ML own idx y) (hq : T[q]? = some (.inl (ci, fds))) (hci : (vwCl[ci]?).map (fun z => z.1) = some y.cls) (hlen : avs.length = n) (hR : rm.frames + 1 ≤ R.frames ∧ 8 + (maxL + 11) + rm.locals ≤ R.locals ∧ rm.cells ≤ R.cells ∧ rm.slots ≤ R.slots) (hS8 : S.length ≤ 8) (hd : decode cc pc = .ok (.invokevirtual idx, 3)) (kk : ∀ v M', K v M' = some u → Wm X (pc + 3) L (S) M') : Wm X pc L (avs.reverse ++ .inr q :: S) M := by
  obtain ⟨v, M', hw, h0⟩ := mcn_of hf
  exact m_cv (hc v M' hw) hm hl hq hci hlen hR hS8 hd (fun z => nomatch z) (Or.inl rfl) (Or.inl rfl) (fun _ => kk _ _ h0) (fun z => absurd rfl z)
theorem x_cvxv {q ci : Nat} {fds : List (Option Nat)} {g : Option (Nat × Int × Mm)} {K : Int → Mm → Option (Nat × Int × Mm)} (hf : mcx g K = some r) (hc : ∀ w, g = some w → Ct l y rm T mv false none (.inr q :: avs) M w) (hm : MV y bytes maxL none n) (hl : ML own idx y) (hq : T[q]? = some (.inl (ci, fds))) (hci : (vwCl[ci]?).map (fun z => z.1) = some y.cls) (hlen : avs.length = n) (hR : rm.frames + 1 ≤ R.frames ∧ 8 + (maxL + 11) + rm.locals ≤ R.locals ∧ rm.cells ≤ R.cells ∧ rm.slots ≤ R.slots) (hS8 : S.length ≤ 8) (hd : decode cc pc = .ok (.invokevirtual idx, 3)) (kk : ∀ v M', K v M' = some r → Wm X (pc + 3) L (S) M') : Wm X pc L (avs.reverse ++ .inr q :: S) M := by
  obtain ⟨w, hw, h0, hx⟩ := mcx_of hf
  exact m_cv (hc w hw) hm hl hq hci hlen hR hS8 hd (fun z => nomatch z) (Or.inl rfl) (Or.inl rfl) (fun z => kk _ _ (h0 z)) (fun z => by rw [hx z]; exact ⟨rfl, rfl⟩)
theorem x_cvpv {q ci : Nat} {fds : List (Option Nat)} {ρ : Type} {u : ρ} {g : Option (Int × Mm)} {K : Int → Mm → Option ρ} (hf : mcn g K = some u) (hc : ∀ v M', g = some (v, M') → Ct l y rm T mv true none (.inr q :: avs) M (0, v, M')) (hm : MV y bytes maxL none n) (hl : ML own idx y) (hq : T[q]? = some (.inl (ci, fds))) (hci : (vwCl[ci]?).map (fun z => z.1) = some y.cls) (hlen : avs.length = n) (hR : rm.frames + 1 ≤ R.frames ∧ 8 + (maxL + 11) + rm.locals ≤ R.locals ∧ rm.cells ≤ R.cells ∧ rm.slots ≤ R.slots) (hS8 : S.length ≤ 8) (hd : decode cc pc = .ok (.invokevirtual idx, 3)) (hpm : pm = true) (hfS : S.all (okv mv) = true) (hfL : L.all (oko mv) = true) (kk : ∀ v M', K v M' = some u → Wm X (pc + 3) L (S) M') : Wm X pc L (avs.reverse ++ .inr q :: S) M := by
  obtain ⟨v, M', hw, h0⟩ := mcn_of hf
  exact m_cv (hc v M' hw) hm hl hq hci hlen hR hS8 hd (fun _ => hpm) (Or.inr hfS) (Or.inr hfL) (fun _ => kk _ _ h0) (fun z => absurd rfl z)
theorem x_csni {ty : FieldType} {ρ : Type} {u : ρ} {g : Option (Int × Mm)} {K : Int → Mm → Option ρ} (hf : mcn g K = some u) (hc : ∀ v M', g = some (v, M') → Ct l y rm T mv false (some ty) (avs) M (0, v, M')) (hm : MS y bytes maxL (some ty) n) (hl : ML own idx y) (hlen : avs.length = n) (hR : rm.frames + 1 ≤ R.frames ∧ 8 + (maxL + 11) + rm.locals ≤ R.locals ∧ rm.cells ≤ R.cells ∧ rm.slots ≤ R.slots) (hS8 : S.length ≤ 8) (hd : decode cc pc = .ok (.invokestatic idx, 3)) (kk : ∀ v M', K v M' = some u → Wm X (pc + 3) L (.inl v :: S) M') : Wm X pc L (avs.reverse ++ S) M := by
  obtain ⟨v, M', hw, h0⟩ := mcn_of hf
  exact m_cs (hc v M' hw) hm hl hlen hR hS8 hd (fun z => nomatch z) (Or.inl rfl) (Or.inl rfl) (fun _ => kk _ _ h0) (fun z => absurd rfl z)
theorem x_csnv {ρ : Type} {u : ρ} {g : Option (Int × Mm)} {K : Int → Mm → Option ρ} (hf : mcn g K = some u) (hc : ∀ v M', g = some (v, M') → Ct l y rm T mv false none (avs) M (0, v, M')) (hm : MS y bytes maxL none n) (hl : ML own idx y) (hlen : avs.length = n) (hR : rm.frames + 1 ≤ R.frames ∧ 8 + (maxL + 11) + rm.locals ≤ R.locals ∧ rm.cells ≤ R.cells ∧ rm.slots ≤ R.slots) (hS8 : S.length ≤ 8) (hd : decode cc pc = .ok (.invokestatic idx, 3)) (kk : ∀ v M', K v M' = some u → Wm X (pc + 3) L (S) M') : Wm X pc L (avs.reverse ++ S) M := by
  obtain ⟨v, M', hw, h0⟩ := mcn_of hf
  exact m_cs (hc v M' hw) hm hl hlen hR hS8 hd (fun z => nomatch z) (Or.inl rfl) (Or.inl rfl) (fun _ => kk _ _ h0) (fun z => absurd rfl z)
theorem x_cvqi {q ci : Nat} {fds : List (Option Nat)} {ty : FieldType} {g : Option (Nat × Int × Mm)} {K : Int → Mm → Option (Nat × Int × Mm)} (hf : mcx g K = some r) (hc : ∀ w, g = some w → Ct l y rm T mv true (some ty) (.inr q :: avs) M w) (hm : MV y bytes maxL (some ty) n) (hl : ML own idx y) (hq : T[q]? = some (.inl (ci, fds))) (hci : (vwCl[ci]?).map (fun z => z.1) = some y.cls) (hlen : avs.length = n) (hR : rm.frames + 1 ≤ R.frames ∧ 8 + (maxL + 11) + rm.locals ≤ R.locals ∧ rm.cells ≤ R.cells ∧ rm.slots ≤ R.slots) (hS8 : S.length ≤ 8) (hd : decode cc pc = .ok (.invokevirtual idx, 3)) (hpm : pm = true) (hfS : S.all (okv mv) = true) (hfL : L.all (oko mv) = true) (kk : ∀ v M', K v M' = some r → Wm X (pc + 3) L (.inl v :: S) M') : Wm X pc L (avs.reverse ++ .inr q :: S) M := by
  obtain ⟨w, hw, h0, hx⟩ := mcx_of hf
  exact m_cv (hc w hw) hm hl hq hci hlen hR hS8 hd (fun _ => hpm) (Or.inr hfS) (Or.inr hfL) (fun z => kk _ _ (h0 z)) (fun z => by rw [hx z]; exact ⟨rfl, rfl⟩)
end XC
