/-! A side's world: shapes and a memory of numbers; the walk over them -/
abbrev Vv : Type := Int ⊕ Nat
abbrev Sh : Type := (Nat × List (Option Nat)) ⊕ (Nat × Nat)
def vl (ad : Nat → Nat) (v : Vv) : Value := match v with
  | .inl x => .int (oI x)
  | .inr q => .ref (ad q)
theorem vl_cat (ad : Nat → Nat) (v : Vv) : (vl ad v).category = 1 := by cases v <;> rfl
def fv (ad : Nat → Nat) (M : Mm) (q k : Nat) (f : Option Nat) : Value := match f with
  | none => .int (oI (M q k))
  | some j => .ref (ad j)
def en (ad : Nat → Nat) (aK : Nat → ClassId) (M : Mm) (q : Nat) (h : Sh) : va_E := match h with
  | .inl o => .inr (o.1, o.2.mapIdx (fun k f => fv ad M q k f))
  | .inr a => cond (a.1 == 2) (.inl (aK 2, (a.2, .inr (.inl (fun i => Int64.ofInt (M q i)))))) (.inl (aK a.1, (a.2, .inl (fun i => oI (M q i)))))
def mkW (ad : Nat → Nat) (aK : Nat → ClassId) (T : List Sh) (M : Mm) : va_W := T.mapIdx (fun q h => (ad q, en ad aK M q h))
section MW
variable {ad : Nat → Nat} {aK : Nat → ClassId} {T : List Sh} {M : Mm} {q : Nat}
theorem mkW_at {h : Sh} (hT : T[q]? = some h) : (mkW ad aK T M)[q]? = some (ad q, en ad aK M q h) := by
  unfold mkW; rw [List.getElem?_mapIdx, hT]; rfl
theorem mkW_len : (mkW ad aK T M).length = T.length := by unfold mkW; exact List.length_mapIdx
theorem mkW_inv {k : Nat} {x : Nat × va_E} (h : (mkW ad aK T M)[k]? = some x) : ∃ sh, T[k]? = some sh ∧ x = (ad k, en ad aK M k sh) := by
  unfold mkW at h
  rw [List.getElem?_mapIdx] at h
  cases hT : T[k]? with
  | none => rw [hT] at h; cases h
  | some sh => rw [hT] at h; cases h; exact ⟨sh, rfl, rfl⟩
theorem en_off {M M' : Mm} {j : Nat} (h : M' j = M j) (sh : Sh) : en ad aK M' j sh = en ad aK M j sh := by
  cases sh with
  | inl o =>
    show Sum.inr (o.1, _) = Sum.inr (o.1, _)
    have e : (fun k f => fv ad M' j k f) = (fun k f => fv ad M j k f) := by
      funext k f
      cases f with
      | none => show Value.int (oI (M' j k)) = Value.int (oI (M j k)); rw [h]
      | some i => rfl
    rw [e]
  | inr a =>
    simp only [en, h]
/-- a world that differs from another at one place alone -/
theorem mkW_set {M' : Mm} {sh : Sh} {e : va_E} (hT : T[q]? = some sh) (h : ∀ j, j ≠ q → M' j = M j) (he : e = en ad aK M' q sh) : (mkW ad aK T M).set q (ad q, e) = mkW ad aK T M' := by
  apply List.ext_getElem?
  intro j
  rw [List.getElem?_set]
  by_cases hj : q = j
  · subst hj
    have hl : q < (mkW ad aK T M).length := by rw [mkW_len]; exact (List.getElem?_eq_some_iff.mp hT).1
    rw [if_pos rfl, if_pos hl, mkW_at hT, he]
  · rw [if_neg hj]
    unfold mkW
    rw [List.getElem?_mapIdx, List.getElem?_mapIdx]
    cases T[j]? with
    | none => rfl
    | some sh' =>
      show some (ad j, en ad aK M j sh') = some (ad j, en ad aK M' j sh')
      rw [en_off (h j (fun z => hj z.symm))]
theorem en_put {ci k : Nat} {fds : List (Option Nat)} {v : Int} (hk : fds[k]? = some none) : (Sum.inr (ci, (fds.mapIdx (fun k f => fv ad M q k f)).set k (.int (oI v))) : va_E) = en ad aK (st M q k v) q (.inl (ci, fds)) := by
  show Sum.inr (ci, _) = Sum.inr (ci, _)
  congr 2
  apply List.ext_getElem?
  intro j
  rw [List.getElem?_set, List.getElem?_mapIdx, List.getElem?_mapIdx]
  by_cases hj : k = j
  · subst hj
    have hl : k < (fds.mapIdx (fun k f => fv ad M q k f)).length := by rw [List.length_mapIdx]; exact (List.getElem?_eq_some_iff.mp hk).1
    rw [if_pos rfl, if_pos hl, hk]
    show some (Value.int (oI v)) = some (Value.int (oI (st M q k v q k)))
    rw [st_same]
  · rw [if_neg hj]
    cases fds[j]? with
    | none => rfl
    | some f =>
      cases f with
      | none =>
        show some (Value.int (oI (M q j))) = some (Value.int (oI (st M q k v q j)))
        rw [st_off (fun z => hj z.symm)]
      | some i => rfl
theorem en_arr {kd n i : Nat} {v : Int} (hk : (kd == 2) = false) : (Sum.inl (aK kd, (n, .inl (upd (fun i => oI (M q i)) i (oI v)))) : va_E) = en ad aK (st M q i v) q (.inr (kd, n)) := by
  have e : en ad aK (st M q i v) q (.inr (kd, n)) = Sum.inl (aK kd, (n, Sum.inl (fun j => oI (st M q i v q j)))) := by simp only [en, hk, cond_false]
  rw [e]
  congr 4
  funext j
  by_cases hj : j = i
  · subst hj; rw [st_same]; simp [upd]
  · rw [st_off hj]; simp [upd, hj]
end MW
/-! locals -/
def lvl (ad : Nat → Nat) (L : List (Option Vv)) : List (Nat × Value) := (List.range L.length).filterMap (fun i => (L[i]?.join).map (fun v => (i, vl ad v)))
theorem mem_lvl {ad : Nat → Nat} {L : List (Option Vv)} {q : Nat × Value} : q ∈ lvl ad L ↔ ∃ i v, L[i]? = some (some v) ∧ q = (i, vl ad v) := by
  unfold lvl
  rw [List.mem_filterMap]
  constructor
  · rintro ⟨i, -, h⟩
    cases hL : L[i]? with
    | none => rw [hL] at h; cases h
    | some o =>
      cases o with
      | none => rw [hL] at h; cases h
      | some v => rw [hL] at h; cases h; exact ⟨i, v, hL, rfl⟩
  · rintro ⟨i, v, h, rfl⟩
    exact ⟨i, List.mem_range.mpr (List.getElem?_eq_some_iff.mp h).1, by rw [h]; rfl⟩
theorem lvl_at {ad : Nat → Nat} {L : List (Option Vv)} {ls : Array Slot} {nL i : Nat} {v : Vv} (h : lv_has ls nL (lvl ad L)) (hi : L[i]? = some (some v)) : ls[i]? = some (.val (vl ad v)) := h.2.2 _ (mem_lvl.mpr ⟨i, v, hi, rfl⟩)
theorem lvl_set {ad : Nat → Nat} {L : List (Option Vv)} {ls : Array Slot} {nL i : Nat} {v : Vv} (h : lv_has ls nL ((i, vl ad v) :: (lvl ad L).filter (fun q => !(q.1 == i) && !(q.1 + 1 == i && q.2.category == 2)))) : lv_has ls nL (lvl ad (L.set i (some v))) := by
  refine ⟨h.1, h.2.1, fun q hq => h.2.2 q ?_⟩
  obtain ⟨j, w, hj, rfl⟩ := mem_lvl.mp hq
  rw [List.getElem?_set] at hj
  by_cases hij : i = j
  · subst hij
    rw [if_pos rfl] at hj
    by_cases hl : i < L.length
    · rw [if_pos hl] at hj; cases hj; exact List.mem_cons_self
    · rw [if_neg hl] at hj; cases hj
  · rw [if_neg hij] at hj
    refine List.mem_cons_of_mem _ (List.mem_filter.mpr ⟨mem_lvl.mpr ⟨j, w, hj, rfl⟩, ?_⟩)
    have h1 : (j == i) = false := beq_false_of_ne (fun z => hij z.symm)
    have h2 : ((vl ad w).category == 2) = false := by rw [vl_cat]; rfl
    simp only [h1, h2, Bool.and_false, Bool.not_false, Bool.and_self]
def msk : List Bool → List (Option Vv) → List (Option Vv)
  | b :: bs, o :: L => (cond b o none) :: msk bs L
  | _, _ => []
theorem msk_at : ∀ (bs : List Bool) (L : List (Option Vv)) (i : Nat) (v : Vv), (msk bs L)[i]? = some (some v) → L[i]? = some (some v)
  | [], L, i, v, h => by cases L <;> cases h
  | b :: bs, [], i, v, h => by cases h
  | b :: bs, o :: L, i, v, h => by
    cases i with
    | zero =>
      have h' : some (cond b o none) = some (some v) := h
      cases b with
      | true => exact h'
      | false => cases h'
    | succ i => exact msk_at bs L i v h
theorem lvl_msk {ad : Nat → Nat} {L : List (Option Vv)} {ls : Array Slot} {nL : Nat} (bs : List Bool) (h : lv_has ls nL (lvl ad L)) : lv_has ls nL (lvl ad (msk bs L)) := by
  refine ⟨h.1, h.2.1, fun q hq => h.2.2 q ?_⟩
  obtain ⟨j, w, hj, rfl⟩ := mem_lvl.mp hq
  exact mem_lvl.mpr ⟨j, w, msk_at bs L j w hj, rfl⟩
/-! addresses -/
def AA (a0 : Nat → Nat) (n sz : Nat) : Nat → Prop := fun q => (∃ i, i < n ∧ q = a0 i) ∨ sz ≤ q
def agr (mv : Nat → Bool) (pm : Bool) (n : Nat) (a0 ad : Nat → Nat) : Prop :=
  (pm = false → ad = a0) ∧ (∀ i, mv i = false → ad i = a0 i) ∧ (∀ i j, i < n → j < n → ad i = ad j → i = j) ∧ ∀ i, i < n → ∃ j, j < n ∧ ad i = a0 j
theorem agr_D {mv : Nat → Bool} {pm : Bool} {a0 ad : Nat → Nat} {aK : Nat → ClassId} {T : List Sh} {M : Mm} {sz : Nat} (h : agr mv pm T.length a0 ad) : va_D (AA a0 T.length sz) (mkW ad aK T M) := by
  have key : ∀ (k : Nat) (q : Nat × va_E), (mkW ad aK T M)[k]? = some q → k < T.length ∧ q.1 = ad k := by
    intro k q hq
    obtain ⟨sh, h1, rfl⟩ := mkW_inv hq
    exact ⟨(List.getElem?_eq_some_iff.mp h1).1, rfl⟩
  refine ⟨fun i j x y hi hj hxy => ?_, fun k q hk => ?_⟩
  · obtain ⟨h1, h2⟩ := key i x hi
    obtain ⟨h3, h4⟩ := key j y hj
    exact h.2.2.1 i j h1 h3 (by rw [← h2, ← h4]; exact hxy)
  · obtain ⟨h1, h2⟩ := key k q hk
    obtain ⟨j, h3, h4⟩ := h.2.2.2 k h1
    exact Or.inl ⟨j, h3, by rw [h2]; exact h4⟩
theorem agr_rf {mv : Nat → Bool} {pm : Bool} {n : Nat} {a0 : Nat → Nat} (h : ∀ i j, i < n → j < n → a0 i = a0 j → i = j) : agr mv pm n a0 a0 := ⟨fun _ => rfl, fun _ _ => rfl, h, fun i hi => ⟨i, hi, rfl⟩⟩
theorem agr_tr {mv : Nat → Bool} {pm pm' : Bool} {n : Nat} {a0 a1 a2 : Nat → Nat} (h1 : agr mv pm n a0 a1) (h2 : agr mv pm' n a1 a2) (hp : pm' = true → pm = true) : agr mv pm n a0 a2 := by
  refine ⟨fun z => ?_, fun i hi => (h2.2.1 i hi).trans (h1.2.1 i hi), h2.2.2.1, fun i hi => ?_⟩
  · have e1 := h1.1 z
    have z' : pm' = false := by
      cases pm' with
      | false => rfl
      | true => rw [hp rfl] at z; cases z
    rw [h2.1 z', e1]
  · obtain ⟨j, hj, e⟩ := h2.2.2.2 i hi
    obtain ⟨k, hk, e'⟩ := h1.2.2.2 j hj
    exact ⟨k, hk, e.trans e'⟩
/-- the cells of a world are no statics -/
theorem mkW_plain {D : va_G} {cl : List vw_C} {ad : Nat → Nat} {aK : Nat → ClassId} {T : List Sh} {M : Mm} {H : Heap} (hP : va_P D cl (mkW ad aK T M) H) {i : Nat} (hi : i < T.length) : ∃ cell : Cell, H[ad i]? = some cell ∧ cell.vm = .none := by
  have hT : T[i]? = some T[i] := List.getElem?_eq_getElem hi
  have h := hP i _ (mkW_at hT)
  cases hs : T[i] with
  | inl o =>
    rw [hs] at h
    obtain ⟨r, -, cell, q1, -, q3, -⟩ := h
    exact ⟨cell, q1, q3⟩
  | inr a =>
    rw [hs] at h
    have h2 : va_at D cl (ad i, cond (a.1 == 2) (.inl (aK 2, (a.2, .inr (.inl (fun j => Int64.ofInt (M i j)))))) (.inl (aK a.1, (a.2, .inl (fun j => oI (M i j)))))) H := h
    cases hk : (a.1 == 2) with
    | true => rw [hk] at h2; exact ⟨_, h2, rfl⟩
    | false => rw [hk] at h2; exact ⟨_, h2, rfl⟩
/-! the tables that every method carries -/
def tysK (aK : Nat → ClassId) : List (ClassId × FieldType) := [(aK 0, .int), (aK 1, .boolean), (aK 2, .long)]
abbrev thN : String := Jvm.Bundle.tN
abbrev thU : String := Jvm.Bundle.steD
abbrev thL : String := Jvm.Bundle.listD
/-- a static field that holds a reference or null, in a cell that nobody writes -/
def Zs (C n d : String) (A : Nat → Prop) (U : State) (H : Heap) : Prop := ∃ (c : ClassId) (k : Class) (i : Nat) (f : Field) (a : Nat) (cell : Cell) (w : Value), U.vm.findClass C = some c ∧ U.fieldFound? C n d = some (c, k, i, f) ∧ f.isStatic = true ∧ k.statics = some a ∧ H[a]? = some cell ∧ cell.vm.isStatics = true ∧ cell.cls = c ∧ f.slot < cell.slots.size ∧ k.staticTypes[f.slot]? = some f.type ∧ cell.slots[f.slot]? = some w ∧ (w = .null ∨ ∃ t, w = .ref t) ∧ ¬ A a
theorem Zs.moved {C n d : String} {A : Nat → Prop} {u U : State} {H : Heap} (hvm : u.vm.Alike U.vm) (h : Zs C n d A u H) : Zs C n d A U H := by
  obtain ⟨c, k, i, f, a, cell, w, h1, h2, h3, h4, h5, h6, h7, h8, h9, g⟩ := h
  obtain ⟨k', hi', he⟩ := State.fieldFound?_setVm hvm h2
  exact ⟨c, k', i, f, a, cell, w, by rw [hvm.findClass]; exact h1, hi', h3, by rw [he]; exact h4, h5, h6, h7, h8, by rw [he]; exact h9, g⟩
theorem Zs.kept {C n d : String} {A : Nat → Prop} {U : State} {H H1 : Heap} (h : Zs C n d A U H) (hq : ∀ a : Nat, a < H.size → ¬ A a → H1[a]? = H[a]?) : Zs C n d A U H1 := by
  obtain ⟨c, k, i, f, a, cell, w, h1, h2, h3, h4, h5, h6, h7, h8, h9, g1, g2, g3⟩ := h
  exact ⟨c, k, i, f, a, cell, w, h1, h2, h3, h4, (hq a (Array.getElem?_eq_some_iff.mp h5).1 g3).trans h5, h6, h7, h8, h9, g1, g2, g3⟩
theorem Zs.narrow {C n d : String} {A B : Nat → Prop} {U : State} {H : Heap} (h : Zs C n d A U H) (hAB : ∀ q, B q → A q) : Zs C n d B U H := by
  obtain ⟨c, k, i, f, a, cell, w, h1, h2, h3, h4, h5, h6, h7, h8, h9, g1, g2, g3⟩ := h
  exact ⟨c, k, i, f, a, cell, w, h1, h2, h3, h4, h5, h6, h7, h8, h9, g1, g2, fun z => g3 (hAB _ z)⟩
theorem Zs.of {args : Array Value} {s : State} {C n d : String} {A : Nat → Prop} (hl : (Cond.laysStatic C n d).before args s = true) (h : (Cond.isRef (.static C n d)).before args s = true) (hA : ∀ a : Nat, a < s.heap.size → ¬ A a) : Zs C n d A s s.heap := by
  obtain ⟨c, k, i, f, a, cell, h1, h2, h3, h4, h5, h6, h7, h8, h9⟩ := Cond.laysStatic_spec hl
  cases hv : (Term.static C n d).eval args s none [] s with
  | none => simp [Cond.before, Cond.holds, Cond.value, hv] at h
  | some w =>
    simp only [Cond.before, Cond.holds, Cond.value, hv] at h
    obtain ⟨-, a', cell', ha', hcell', -, hslot⟩ := Term.static_spec h2 hv
    cases h4.symm.trans ha'
    cases h5.symm.trans hcell'
    refine ⟨c, k, i, f, a, cell, w, h1, h2, h3, h4, h5, h6, h7, h8, h9, hslot, ?_, hA a (Array.getElem?_eq_some_iff.mp h5).1⟩
    cases w with
    | null => exact Or.inl rfl
    | ref t => exact Or.inr ⟨t, rfl⟩
    | _ => simp at h
theorem Zs.lay {args : Array Value} {C n d : String} {A : Nat → Prop} {U : State} (h : Zs C n d A U U.heap) : (Cond.laysStatic C n d).before args U = true := by
  obtain ⟨c, k, i, f, a, cell, w, h1, h2, h3, h4, h5, h6, h7, h8, h9, g1, g2, g3⟩ := h
  simp [Cond.before, Cond.holds, Cond.value, h1, h2, h3, h4, h5, h6, h7, h8, h9]
theorem Zs.ref {args : Array Value} {C n d : String} {A : Nat → Prop} {U : State} (h : Zs C n d A U U.heap) : (Cond.isRef (.static C n d)).before args U = true := by
  obtain ⟨c, k, i, f, a, cell, w, h1, h2, h3, h4, h5, h6, h7, h8, h9, g1, g2, g3⟩ := h
  have e : (Term.static C n d).eval args U none [] U = some w := by simp [Term.eval, State.fieldNamed?, h2, h3, h4, h5, h6, g1]
  rcases g2 with rfl | ⟨t, rfl⟩
  · simp [Cond.before, Cond.holds, Cond.value, e]
  · simp [Cond.before, Cond.holds, Cond.value, e]
def ThS (A : Nat → Prop) (U : State) : Prop := Zs thN "UNASSIGNED_STACK" thU A U U.heap ∧ Zs thN "SUPPRESSED_SENTINEL" thL A U U.heap
def exN (c : Nat) : String := match c with
  | 1 => "java/lang/IllegalArgumentException"
  | 2 => "java/lang/IllegalStateException"
  | 3 => "java/lang/IndexOutOfBoundsException"
  | _ => "java/lang/UnsupportedOperationException"
def exAt (c x : Nat) (t : State) : Prop := ∃ ce : Cell, t.heap[x]? = some ce ∧ ce.vm = .none ∧ t.vm.findClass (exN c) = some ce.cls
def rv (ret : Option FieldType) (v : Int) : Option Value := match ret with
  | none => none
  | some _ => some (.int (oI v))
def EndIs (D : va_G) (aK : Nat → ClassId) (T : List Sh) (mv : Nat → Bool) (pm : Bool) (a0 : Nat → Nat) (ret : Option FieldType) (r : Nat × Int × Mm) (s : State) (o : Outcome) (t : State) : Prop :=
  ∃ (ad : Nat → Nat) (L : List Loc) (k n : Nat), agr mv pm T.length a0 ad ∧ s.WarmedH t.vm ∧ s.sameButNew ({ t with vm := s.vm } : State) L k n ∧ (∀ q ∈ L, AA a0 T.length s.heap.size q.base) ∧ va_P D vwCl (mkW ad aK T r.2.2) t.heap ∧ s.heap.size ≤ t.heap.size ∧ (∀ q : Nat, q < s.heap.size → ¬ AA a0 T.length s.heap.size q → t.heap[q]? = s.heap[q]?) ∧
    ((r.1 = 0 ∧ k = 0 ∧ n = 0 ∧ o = .returned (rv ret r.2.1)) ∨ (¬ r.1 = 0 ∧ k = 1 ∧ n = 6 ∧ ∃ x, o = .threw x ∧ exAt r.1 x t))
/-- what a body knows -/
def Cx (p : Program) (l : Launch) (e : Env) (R : Room) (s : State) (m : MethodId) (args : Array Value) (below : List Frame) (meth : Method) (c : Code) (D : va_G) (aK : Nat → ClassId) (T : List Sh) (mv : Nat → Bool) (pm : Bool) (a0 : Nat → Nat) (own : String) (cc : ByteArray) (nL : Nat) (ret : Option FieldType) (nh : Bool) (A : Nat → Prop) (Q : State → Prop) (nc ns : Nat) : Prop :=
  p.tables.exec = Jvm.exec ∧ c.code = cc ∧ c.maxLocals = nL ∧ (∀ w ∈ WA, w.before args s = true) ∧ s.vm.findClass own = some m.cls ∧ va_K D vwCl (tysK aK) s ∧ meth.locks = false ∧ meth.sig.returnType = ret ∧ (nh = true → c.exceptionTable.isEmpty = true) ∧ l.stackTraces = false ∧ ThS A s ∧ (∀ q cell, A q → s.heap[q]? = some cell → cell.vm.isStatics = false) ∧ (∀ i, i < T.length → A (a0 i)) ∧ (∀ q, s.heap.size ≤ q → A q)
/-- where a walk ends -/
def EQ (below : List Frame) (D : va_G) (aK : Nat → ClassId) (T : List Sh) (mv : Nat → Bool) (pm : Bool) (a0 : Nat → Nat) (ret : Option FieldType) (r : Nat × Int × Mm) (s : State) : State → Prop := fun t => ∃ o, t.status = .running ∧ Ended t below o ∧ EndIs D aK T mv pm a0 ret r s o t
/-- a body of one side, that makes nothing -/
abbrev Cy (p : Program) (l : Launch) (e : Env) (R : Room) (s : State) (m : MethodId) (args : Array Value) (below : List Frame) (meth : Method) (c : Code) (D : va_G) (aK : Nat → ClassId) (T : List Sh) (mv : Nat → Bool) (pm : Bool) (a0 : Nat → Nat) (own : String) (cc : ByteArray) (nL : Nat) (ret : Option FieldType) (r : Nat × Int × Mm) : Prop :=
  Cx p l e R s m args below meth c D aK T mv pm a0 own cc nL ret true (AA a0 T.length s.heap.size) (EQ below D aK T mv pm a0 ret r s) 0 0
section XW
variable {p : Program} {l : Launch} {e : Env} {R : Room} {s : State} {m : MethodId} {args : Array Value} {below : List Frame} {meth : Method} {c : Code} {D : va_G} {aK : Nat → ClassId} {T : List Sh} {mv : Nat → Bool} {pm : Bool} {a0 : Nat → Nat} {own : String} {cc : ByteArray} {nL : Nat} {ret : Option FieldType} {nh : Bool} {A : Nat → Prop} {Q : State → Prop} {nc ns : Nat}
theorem Cx.hx (X : Cx p l e R s m args below meth c D aK T mv pm a0 own cc nL ret nh A Q nc ns) : p.tables.exec = Jvm.exec := X.1
theorem Cx.hb (X : Cx p l e R s m args below meth c D aK T mv pm a0 own cc nL ret nh A Q nc ns) : c.code = cc := X.2.1
theorem Cx.hml (X : Cx p l e R s m args below meth c D aK T mv pm a0 own cc nL ret nh A Q nc ns) : c.maxLocals = nL := X.2.2.1
theorem Cx.hts (X : Cx p l e R s m args below meth c D aK T mv pm a0 own cc nL ret nh A Q nc ns) : ∀ w ∈ WA, w.before args s = true := X.2.2.2.1
theorem Cx.hown (X : Cx p l e R s m args below meth c D aK T mv pm a0 own cc nL ret nh A Q nc ns) : s.vm.findClass own = some m.cls := X.2.2.2.2.1
theorem Cx.hK (X : Cx p l e R s m args below meth c D aK T mv pm a0 own cc nL ret nh A Q nc ns) : va_K D vwCl (tysK aK) s := X.2.2.2.2.2.1
theorem Cx.hlocks (X : Cx p l e R s m args below meth c D aK T mv pm a0 own cc nL ret nh A Q nc ns) : meth.locks = false := X.2.2.2.2.2.2.1
theorem Cx.hr (X : Cx p l e R s m args below meth c D aK T mv pm a0 own cc nL ret nh A Q nc ns) : meth.sig.returnType = ret := X.2.2.2.2.2.2.2.1
theorem Cx.hnoh (X : Cx p l e R s m args below meth c D aK T mv pm a0 own cc nL ret nh A Q nc ns) : nh = true → c.exceptionTable.isEmpty = true := X.2.2.2.2.2.2.2.2.1
theorem Cx.hst (X : Cx p l e R s m args below meth c D aK T mv pm a0 own cc nL ret nh A Q nc ns) : l.stackTraces = false := X.2.2.2.2.2.2.2.2.2.1
theorem Cx.hth (X : Cx p l e R s m args below meth c D aK T mv pm a0 own cc nL ret nh A Q nc ns) : ThS A s := X.2.2.2.2.2.2.2.2.2.2.1
theorem Cx.hns (X : Cx p l e R s m args below meth c D aK T mv pm a0 own cc nL ret nh A Q nc ns) : ∀ q cell, A q → s.heap[q]? = some cell → cell.vm.isStatics = false := X.2.2.2.2.2.2.2.2.2.2.2.1
theorem Cx.hA (X : Cx p l e R s m args below meth c D aK T mv pm a0 own cc nL ret nh A Q nc ns) : ∀ i, i < T.length → A (a0 i) := X.2.2.2.2.2.2.2.2.2.2.2.2.1
theorem Cx.hAs (X : Cx p l e R s m args below meth c D aK T mv pm a0 own cc nL ret nh A Q nc ns) : ∀ q, s.heap.size ≤ q → A q := X.2.2.2.2.2.2.2.2.2.2.2.2.2
/-- the walk at pc with locals L, stack S and memory M -/
def Wm (X : Cx p l e R s m args below meth c D aK T mv pm a0 own cc nL ret nh A Q nc ns) (pc : Nat) (L : List (Option Vv)) (S : List Vv) (M : Mm) : Prop :=
  ∀ (ad : Nat → Nat) (H : Heap) (ls : Array Slot) (locs : List Loc), agr mv pm T.length a0 ad → va_P D vwCl (mkW ad aK T M) H → va_S A s.heap H locs → lv_has ls nL (lvl ad L) → W p l e R s m args below meth c H locs nc ns Q (F0 m pc ls (S.map (vl ad)))
theorem Cx.hD (X : Cx p l e R s m args below meth c D aK T mv pm a0 own cc nL ret nh A Q nc ns) {ad : Nat → Nat} {M : Mm} (h : agr mv pm T.length a0 ad) : va_D A (mkW ad aK T M) := by
  have hd := agr_D (aK := aK) (M := M) (sz := s.heap.size) h
  refine hd.weaken (fun k q hk hq => ?_)
  rcases hq with ⟨i, hi, e⟩ | hq
  · rw [e]; exact X.hA i hi
  · exact X.hAs _ hq
variable {X : Cx p l e R s m args below meth c D aK T mv pm a0 own cc nL ret nh A Q nc ns} {pc : Nat} {L : List (Option Vv)} {S : List Vv} {M : Mm} {ρ : Type} {u : ρ}
theorem x_mask (bs : List Bool) (k : Wm X pc (msk bs L) S M) : Wm X pc L S M := fun ad H ls locs h1 h2 h3 h4 => k ad H ls locs h1 h2 h3 (lvl_msk bs h4)
theorem x_iconst {n : Int} (hd : decode cc pc = .ok (.iconst n, 1)) (k : Wm X (pc + 1) L (.inl n :: S) M) : Wm X pc L S M := fun ad H ls locs h1 h2 h3 h4 => lv_iconst X.hx X.hb hd rfl (k ad H ls locs h1 h2 h3 h4)
theorem x_bipush {n : Int} (hd : decode cc pc = .ok (.bipush n, 2)) (hn : -128 ≤ n ∧ n < 128) (k : Wm X (pc + 2) L (.inl n :: S) M) : Wm X pc L S M := fun ad H ls locs h1 h2 h3 h4 => lv_bipush X.hx X.hb hd (oI_8 hn) (k ad H ls locs h1 h2 h3 h4)
theorem x_sipush {n : Int} (hd : decode cc pc = .ok (.sipush n, 3)) (hn : -32768 ≤ n ∧ n < 32768) (k : Wm X (pc + 3) L (.inl n :: S) M) : Wm X pc L S M := fun ad H ls locs h1 h2 h3 h4 => lv_sipush X.hx X.hb hd (oI_16 hn) (k ad H ls locs h1 h2 h3 h4)
theorem x_ldc {n : Int} {i : Nat} {v : Int32} (hw : Cond.constant own i v ∈ WA) (hv : v = oI n) (hd : decode cc pc = .ok (.ldc i, 2)) (k : Wm X (pc + 2) L (.inl n :: S) M) : Wm X pc L S M := fun ad H ls locs h1 h2 h3 h4 => lv_ldc X.hx X.hb X.hown (X.hts _ (by rw [hv] at hw; exact hw)) hd (k ad H ls locs h1 h2 h3 h4)
theorem x_iloadn {i : Fin 4} {x : Int} (hd : decode cc pc = .ok (.iload_n i, 1)) (hL : L[(i : Nat)]? = some (some (.inl x))) (k : Wm X (pc + 1) L (.inl x :: S) M) : Wm X pc L S M := fun ad H ls locs h1 h2 h3 h4 => lv_iload_n X.hx X.hb hd rfl (lvl_at h4 hL) (k ad H ls locs h1 h2 h3 h4)
theorem x_iload {i : Nat} {x : Int} (hd : decode cc pc = .ok (.iload i, 2)) (hL : L[i]? = some (some (.inl x))) (k : Wm X (pc + 2) L (.inl x :: S) M) : Wm X pc L S M := fun ad H ls locs h1 h2 h3 h4 => lv_iload X.hx X.hb hd (lvl_at h4 hL) (k ad H ls locs h1 h2 h3 h4)
theorem x_aloadn {i : Fin 4} {x : Nat} (hd : decode cc pc = .ok (.aload_n i, 1)) (hL : L[(i : Nat)]? = some (some (.inr x))) (k : Wm X (pc + 1) L (.inr x :: S) M) : Wm X pc L S M := fun ad H ls locs h1 h2 h3 h4 => lv_aload_n X.hx X.hb hd rfl (lvl_at h4 hL) (k ad H ls locs h1 h2 h3 h4)
theorem x_aload {i : Nat} {x : Nat} (hd : decode cc pc = .ok (.aload i, 2)) (hL : L[i]? = some (some (.inr x))) (k : Wm X (pc + 2) L (.inr x :: S) M) : Wm X pc L S M := fun ad H ls locs h1 h2 h3 h4 => lv_aload X.hx X.hb hd (lvl_at h4 hL) (k ad H ls locs h1 h2 h3 h4)
theorem x_istoren {i : Fin 4} {x : Int} (hd : decode cc pc = .ok (.istore_n i, 1)) (hn : (i : Nat) < nL) (k : Wm X (pc + 1) (L.set (i : Nat) (some (.inl x))) S M) : Wm X pc L (.inl x :: S) M := fun ad H ls locs h1 h2 h3 h4 => lv_istore_n X.hx X.hb hd rfl h4 hn rfl (fun ls' h => k ad H ls' locs h1 h2 h3 (lvl_set h))
theorem x_istore {i : Nat} {x : Int} (hd : decode cc pc = .ok (.istore i, 2)) (hn : i < nL) (k : Wm X (pc + 2) (L.set i (some (.inl x))) S M) : Wm X pc L (.inl x :: S) M := fun ad H ls locs h1 h2 h3 h4 => lv_istore X.hx X.hb hd h4 hn rfl (fun ls' h => k ad H ls' locs h1 h2 h3 (lvl_set h))
theorem x_astoren {i : Fin 4} {x : Nat} (hd : decode cc pc = .ok (.astore_n i, 1)) (hn : (i : Nat) < nL) (k : Wm X (pc + 1) (L.set (i : Nat) (some (.inr x))) S M) : Wm X pc L (.inr x :: S) M := fun ad H ls locs h1 h2 h3 h4 => lv_astore_n X.hx X.hb hd rfl h4 hn rfl (fun ls' h => k ad H ls' locs h1 h2 h3 (lvl_set h))
theorem x_iinc {i : Nat} {n x : Int} (hd : decode cc pc = .ok (.iinc i n, 3)) (hL : L[i]? = some (some (.inl x))) (hn : i < nL) (k : Wm X (pc + 3) (L.set i (some (.inl (x + n)))) S M) : Wm X pc L S M := by
  intro ad H ls locs h1 h2 h3 h4
  obtain ⟨j, hj⟩ := List.getElem?_of_mem (mem_lvl.mpr ⟨i, .inl x, hL, rfl⟩ : (i, vl ad (.inl x)) ∈ lvl ad L)
  exact lv_iinc X.hx X.hb hd h4 hj (oI_add x n).symm hn rfl (fun ls' h => k ad H ls' locs h1 h2 h3 (lvl_set h))
theorem x_iadd {x y : Int} (hd : decode cc pc = .ok (.iadd, 1)) (k : Wm X (pc + 1) L (.inl (x + y) :: S) M) : Wm X pc L (.inl y :: .inl x :: S) M := fun ad H ls locs h1 h2 h3 h4 => lv_iadd (x := oI x) (y := oI y) X.hx X.hb hd (by rw [← oI_add]; exact k ad H ls locs h1 h2 h3 h4)
theorem x_isub {x y : Int} (hd : decode cc pc = .ok (.isub, 1)) (k : Wm X (pc + 1) L (.inl (x - y) :: S) M) : Wm X pc L (.inl y :: .inl x :: S) M := fun ad H ls locs h1 h2 h3 h4 => lv_isub (x := oI x) (y := oI y) X.hx X.hb hd (by rw [← oI_sub]; exact k ad H ls locs h1 h2 h3 h4)
theorem x_imul {x y : Int} (hd : decode cc pc = .ok (.imul, 1)) (k : Wm X (pc + 1) L (.inl (x * y) :: S) M) : Wm X pc L (.inl y :: .inl x :: S) M := fun ad H ls locs h1 h2 h3 h4 => lv_imul (x := oI x) (y := oI y) X.hx X.hb hd (by rw [← oI_mul]; exact k ad H ls locs h1 h2 h3 h4)
theorem x_idiv {x y : Int} {K : Int → Option ρ} (hf : mdiv x y K = some u) (hd : decode cc pc = .ok (.idiv, 1)) (k : ∀ v : Int, K v = some u → Wm X (pc + 1) L (.inl v :: S) M) : Wm X pc L (.inl y :: .inl x :: S) M := by
  intro ad H ls locs h1 h2 h3 h4
  obtain ⟨⟨q0, q1, q2, q3⟩, hf⟩ := mif_of hf
  refine lv_idiv (x := oI x) (y := oI y) X.hx X.hb hd (fun z => ?_) ?_
  · rw [← oI_0, oI_eq ⟨by omega, by omega⟩ rI_0] at z; omega
  · rw [oI_div q0 q1 q2 q3]; exact k _ hf ad H ls locs h1 h2 h3 h4
theorem x_irem {x y : Int} {K : Int → Option ρ} (hf : mrem x y K = some u) (hd : decode cc pc = .ok (.irem, 1)) (k : ∀ v : Int, K v = some u → Wm X (pc + 1) L (.inl v :: S) M) : Wm X pc L (.inl y :: .inl x :: S) M := by
  intro ad H ls locs h1 h2 h3 h4
  obtain ⟨⟨q0, q1, q2, q3⟩, hf⟩ := mif_of hf
  refine lv_irem (x := oI x) (y := oI y) X.hx X.hb hd (fun z => ?_) ?_
  · rw [← oI_0, oI_eq ⟨by omega, by omega⟩ rI_0] at z; omega
  · rw [oI_rem q0 q1 q2 q3]; exact k _ hf ad H ls locs h1 h2 h3 h4
theorem x_iandm {x y z : Int} (hz : oI x &&& oI y = oI z) (hd : decode cc pc = .ok (.iand, 1)) (k : Wm X (pc + 1) L (.inl z :: S) M) : Wm X pc L (.inl y :: .inl x :: S) M := fun ad H ls locs h1 h2 h3 h4 => lv_iand (x := oI x) (y := oI y) X.hx X.hb hd (by rw [hz]; exact k ad H ls locs h1 h2 h3 h4)
theorem x_iand {x y : Int} {K : Int → Option ρ} (hf : mland x y K = some u) (hd : decode cc pc = .ok (.iand, 1)) (k : ∀ v : Int, K v = some u → Wm X (pc + 1) L (.inl v :: S) M) : Wm X pc L (.inl y :: .inl x :: S) M := by
  intro ad H ls locs h1 h2 h3 h4
  obtain ⟨⟨q0, -, q2, -⟩, hf⟩ := mif_of hf
  exact lv_iand (x := oI x) (y := oI y) X.hx X.hb hd (by rw [oI_land q0 q2]; exact k _ hf ad H ls locs h1 h2 h3 h4)
theorem x_ior {x y : Int} {K : Int → Option ρ} (hf : mlor x y K = some u) (hd : decode cc pc = .ok (.ior, 1)) (k : ∀ v : Int, K v = some u → Wm X (pc + 1) L (.inl v :: S) M) : Wm X pc L (.inl y :: .inl x :: S) M := by
  intro ad H ls locs h1 h2 h3 h4
  obtain ⟨⟨q0, -, q2, -⟩, hf⟩ := mif_of hf
  exact lv_ior (x := oI x) (y := oI y) X.hx X.hb hd (by rw [oI_lor q0 q2]; exact k _ hf ad H ls locs h1 h2 h3 h4)
theorem x_ixor {x y : Int} {K : Int → Option ρ} (hf : mlxor x y K = some u) (hd : decode cc pc = .ok (.ixor, 1)) (k : ∀ v : Int, K v = some u → Wm X (pc + 1) L (.inl v :: S) M) : Wm X pc L (.inl y :: .inl x :: S) M := by
  intro ad H ls locs h1 h2 h3 h4
  obtain ⟨⟨q0, -, q2, -⟩, hf⟩ := mif_of hf
  exact lv_ixor (x := oI x) (y := oI y) X.hx X.hb hd (by rw [oI_lxor q0 q2]; exact k _ hf ad H ls locs h1 h2 h3 h4)
theorem x_ishl {x y z : Int} (hz : oI x <<< (oI y &&& 31) = oI z) (hd : decode cc pc = .ok (.ishl, 1)) (k : Wm X (pc + 1) L (.inl z :: S) M) : Wm X pc L (.inl y :: .inl x :: S) M := fun ad H ls locs h1 h2 h3 h4 => lv_ishl (x := oI x) (y := oI y) X.hx X.hb hd (by rw [hz]; exact k ad H ls locs h1 h2 h3 h4)
theorem x_ishr {x y : Int} {K : Int → Option ρ} (hf : mshr x y K = some u) (hd : decode cc pc = .ok (.ishr, 1)) (k : ∀ v : Int, K v = some u → Wm X (pc + 1) L (.inl v :: S) M) : Wm X pc L (.inl y :: .inl x :: S) M := by
  intro ad H ls locs h1 h2 h3 h4
  obtain ⟨⟨q0, q1, q2⟩, hf⟩ := mif_of hf
  exact lv_ishr (x := oI x) (y := oI y) X.hx X.hb hd (by rw [oI_shr q0 q1 q2]; exact k _ hf ad H ls locs h1 h2 h3 h4)
theorem x_iushr {x y : Int} {K : Int → Option ρ} (hf : mushr x y K = some u) (hd : decode cc pc = .ok (.iushr, 1)) (k : ∀ v : Int, K v = some u → Wm X (pc + 1) L (.inl v :: S) M) : Wm X pc L (.inl y :: .inl x :: S) M := by
  intro ad H ls locs h1 h2 h3 h4
  obtain ⟨⟨q1, q2⟩, hf⟩ := mif_of hf
  exact lv_iushr (x := oI x) (y := oI y) X.hx X.hb hd (oI_ushr q1 q2) (k _ hf ad H ls locs h1 h2 h3 h4)
theorem x_dup {v : Vv} (hd : decode cc pc = .ok (.dup, 1)) (k : Wm X (pc + 1) L (v :: v :: S) M) : Wm X pc L (v :: S) M := fun ad H ls locs h1 h2 h3 h4 => lv_dup X.hx X.hb hd (vl_cat ad v) (k ad H ls locs h1 h2 h3 h4)
theorem x_dup2 {v w : Vv} (hd : decode cc pc = .ok (.dup2, 1)) (k : Wm X (pc + 1) L (v :: w :: v :: w :: S) M) : Wm X pc L (v :: w :: S) M := fun ad H ls locs h1 h2 h3 h4 => lv_dup2_11 X.hx X.hb hd (vl_cat ad v) (vl_cat ad w) (k ad H ls locs h1 h2 h3 h4)
theorem x_pop {v : Vv} (hd : decode cc pc = .ok (.pop, 1)) (k : Wm X (pc + 1) L S M) : Wm X pc L (v :: S) M := fun ad H ls locs h1 h2 h3 h4 => lv_pop X.hx X.hb hd (vl_cat ad v) (k ad H ls locs h1 h2 h3 h4)
theorem x_goto {off : Int} {tgt : Nat} (hd : decode cc pc = .ok (.goto off, 3)) (ht : (pc : Int) + off = (tgt : Int)) (k : Wm X tgt L S M) : Wm X pc L S M := fun ad H ls locs h1 h2 h3 h4 => lv_goto X.hx X.hb hd ht (k ad H ls locs h1 h2 h3 h4)
end XW
section XB
variable {p : Program} {l : Launch} {e : Env} {R : Room} {s : State} {m : MethodId} {args : Array Value} {below : List Frame} {meth : Method} {c : Code} {D : va_G} {aK : Nat → ClassId} {T : List Sh} {mv : Nat → Bool} {pm : Bool} {a0 : Nat → Nat} {own : String} {cc : ByteArray} {nL : Nat} {ret : Option FieldType} {nh : Bool} {A : Nat → Prop} {Q : State → Prop} {nc ns : Nat}
variable {X : Cx p l e R s m args below meth c D aK T mv pm a0 own cc nL ret nh A Q nc ns} {pc : Nat} {L : List (Option Vv)} {S : List Vv} {M : Mm} {ρ : Type} {u : ρ}
theorem x_eq {x y : Int} {off : Int} {tgt : Nat} {tA tB : Option ρ} (hf : meq x y tA tB = some u) (hd : decode cc pc = .ok (.if_icmp .eq off, 3)) (ht : (pc : Int) + off = (tgt : Int)) (kt : tA = some u → Wm X tgt L S M) (kf : tB = some u → Wm X (pc + 3) L S M) : Wm X pc L (.inl y :: .inl x :: S) M := by
  intro ad H ls locs h1 h2 h3 h4
  obtain ⟨h5, h6, h7, h8⟩ := meq_of hf
  exact lv_icmp_eq (x := oI x) (y := oI y) X.hx X.hb hd ht (fun q => kt (h7 ((oI_eq h5 h6).mp q)) ad H ls locs h1 h2 h3 h4) (fun q => kf (h8 (fun w => q ((oI_eq h5 h6).mpr w))) ad H ls locs h1 h2 h3 h4)
theorem x_ne {x y : Int} {off : Int} {tgt : Nat} {tA tB : Option ρ} (hf : meq x y tB tA = some u) (hd : decode cc pc = .ok (.if_icmp .ne off, 3)) (ht : (pc : Int) + off = (tgt : Int)) (kt : tA = some u → Wm X tgt L S M) (kf : tB = some u → Wm X (pc + 3) L S M) : Wm X pc L (.inl y :: .inl x :: S) M := by
  intro ad H ls locs h1 h2 h3 h4
  obtain ⟨h5, h6, h7, h8⟩ := meq_of hf
  exact lv_icmp_ne (x := oI x) (y := oI y) X.hx X.hb hd ht (fun q => kt (h8 (fun w => q ((oI_eq h5 h6).mpr w))) ad H ls locs h1 h2 h3 h4) (fun q => kf (h7 ((oI_eq h5 h6).mp q)) ad H ls locs h1 h2 h3 h4)
theorem x_lt {x y : Int} {off : Int} {tgt : Nat} {tA tB : Option ρ} (hf : mlt x y tA tB = some u) (hd : decode cc pc = .ok (.if_icmp .lt off, 3)) (ht : (pc : Int) + off = (tgt : Int)) (kt : tA = some u → Wm X tgt L S M) (kf : tB = some u → Wm X (pc + 3) L S M) : Wm X pc L (.inl y :: .inl x :: S) M := by
  intro ad H ls locs h1 h2 h3 h4
  obtain ⟨h5, h6, h7, h8⟩ := mlt_of hf
  exact lv_icmp_lt (x := oI x) (y := oI y) X.hx X.hb hd ht (fun q => kt (h7 ((oI_lt h5 h6).mp q)) ad H ls locs h1 h2 h3 h4) (fun q => kf (h8 (fun w => q ((oI_lt h5 h6).mpr w))) ad H ls locs h1 h2 h3 h4)
theorem x_ge {x y : Int} {off : Int} {tgt : Nat} {tA tB : Option ρ} (hf : mlt x y tB tA = some u) (hd : decode cc pc = .ok (.if_icmp .ge off, 3)) (ht : (pc : Int) + off = (tgt : Int)) (kt : tA = some u → Wm X tgt L S M) (kf : tB = some u → Wm X (pc + 3) L S M) : Wm X pc L (.inl y :: .inl x :: S) M := by
  intro ad H ls locs h1 h2 h3 h4
  obtain ⟨h5, h6, h7, h8⟩ := mlt_of hf
  exact lv_icmp_ge (x := oI x) (y := oI y) X.hx X.hb hd ht (fun q => kt (h8 (Int.not_lt.mpr ((oI_le h6 h5).mp q))) ad H ls locs h1 h2 h3 h4) (fun q => kf (h7 (Int.not_le.mp (fun w => q ((oI_le h6 h5).mpr w)))) ad H ls locs h1 h2 h3 h4)
theorem x_gt {x y : Int} {off : Int} {tgt : Nat} {tA tB : Option ρ} (hf : mlt y x tA tB = some u) (hd : decode cc pc = .ok (.if_icmp .gt off, 3)) (ht : (pc : Int) + off = (tgt : Int)) (kt : tA = some u → Wm X tgt L S M) (kf : tB = some u → Wm X (pc + 3) L S M) : Wm X pc L (.inl y :: .inl x :: S) M := by
  intro ad H ls locs h1 h2 h3 h4
  obtain ⟨h5, h6, h7, h8⟩ := mlt_of hf
  exact lv_icmp_gt (x := oI x) (y := oI y) X.hx X.hb hd ht (fun q => kt (h7 ((oI_lt h5 h6).mp q)) ad H ls locs h1 h2 h3 h4) (fun q => kf (h8 (fun w => q ((oI_lt h5 h6).mpr w))) ad H ls locs h1 h2 h3 h4)
theorem x_le {x y : Int} {off : Int} {tgt : Nat} {tA tB : Option ρ} (hf : mlt y x tB tA = some u) (hd : decode cc pc = .ok (.if_icmp .le off, 3)) (ht : (pc : Int) + off = (tgt : Int)) (kt : tA = some u → Wm X tgt L S M) (kf : tB = some u → Wm X (pc + 3) L S M) : Wm X pc L (.inl y :: .inl x :: S) M := by
  intro ad H ls locs h1 h2 h3 h4
  obtain ⟨h5, h6, h7, h8⟩ := mlt_of hf
  exact lv_icmp_le (x := oI x) (y := oI y) X.hx X.hb hd ht (fun q => kt (h8 (Int.not_lt.mpr ((oI_le h6 h5).mp q))) ad H ls locs h1 h2 h3 h4) (fun q => kf (h7 (Int.not_le.mp (fun w => q ((oI_le h6 h5).mpr w)))) ad H ls locs h1 h2 h3 h4)
theorem x_eq0 {x : Int} {off : Int} {tgt : Nat} {tA tB : Option ρ} (hf : meq x 0 tA tB = some u) (hd : decode cc pc = .ok (.ifCond .eq off, 3)) (ht : (pc : Int) + off = (tgt : Int)) (kt : tA = some u → Wm X tgt L S M) (kf : tB = some u → Wm X (pc + 3) L S M) : Wm X pc L (.inl x :: S) M := by
  intro ad H ls locs h1 h2 h3 h4
  obtain ⟨h5, h6, h7, h8⟩ := meq_of hf
  exact lv_if_eq (x := oI x) X.hx X.hb hd ht (fun q => kt (h7 ((oI_eq h5 h6).mp q)) ad H ls locs h1 h2 h3 h4) (fun q => kf (h8 (fun w => q ((oI_eq h5 h6).mpr w))) ad H ls locs h1 h2 h3 h4)
theorem x_ne0 {x : Int} {off : Int} {tgt : Nat} {tA tB : Option ρ} (hf : meq x 0 tB tA = some u) (hd : decode cc pc = .ok (.ifCond .ne off, 3)) (ht : (pc : Int) + off = (tgt : Int)) (kt : tA = some u → Wm X tgt L S M) (kf : tB = some u → Wm X (pc + 3) L S M) : Wm X pc L (.inl x :: S) M := by
  intro ad H ls locs h1 h2 h3 h4
  obtain ⟨h5, h6, h7, h8⟩ := meq_of hf
  exact lv_if_ne (x := oI x) X.hx X.hb hd ht (fun q => kt (h8 (fun w => q ((oI_eq h5 h6).mpr w))) ad H ls locs h1 h2 h3 h4) (fun q => kf (h7 ((oI_eq h5 h6).mp q)) ad H ls locs h1 h2 h3 h4)
theorem x_lt0 {x : Int} {off : Int} {tgt : Nat} {tA tB : Option ρ} (hf : mlt x 0 tA tB = some u) (hd : decode cc pc = .ok (.ifCond .lt off, 3)) (ht : (pc : Int) + off = (tgt : Int)) (kt : tA = some u → Wm X tgt L S M) (kf : tB = some u → Wm X (pc + 3) L S M) : Wm X pc L (.inl x :: S) M := by
  intro ad H ls locs h1 h2 h3 h4
  obtain ⟨h5, h6, h7, h8⟩ := mlt_of hf
  exact lv_if_lt (x := oI x) X.hx X.hb hd ht (fun q => kt (h7 ((oI_lt h5 h6).mp q)) ad H ls locs h1 h2 h3 h4) (fun q => kf (h8 (fun w => q ((oI_lt h5 h6).mpr w))) ad H ls locs h1 h2 h3 h4)
theorem x_ge0 {x : Int} {off : Int} {tgt : Nat} {tA tB : Option ρ} (hf : mlt x 0 tB tA = some u) (hd : decode cc pc = .ok (.ifCond .ge off, 3)) (ht : (pc : Int) + off = (tgt : Int)) (kt : tA = some u → Wm X tgt L S M) (kf : tB = some u → Wm X (pc + 3) L S M) : Wm X pc L (.inl x :: S) M := by
  intro ad H ls locs h1 h2 h3 h4
  obtain ⟨h5, h6, h7, h8⟩ := mlt_of hf
  exact lv_if_ge (x := oI x) X.hx X.hb hd ht (fun q => kt (h8 (Int.not_lt.mpr ((oI_le h6 h5).mp q))) ad H ls locs h1 h2 h3 h4) (fun q => kf (h7 (Int.not_le.mp (fun w => q ((oI_le h6 h5).mpr w)))) ad H ls locs h1 h2 h3 h4)
theorem x_gt0 {x : Int} {off : Int} {tgt : Nat} {tA tB : Option ρ} (hf : mlt 0 x tA tB = some u) (hd : decode cc pc = .ok (.ifCond .gt off, 3)) (ht : (pc : Int) + off = (tgt : Int)) (kt : tA = some u → Wm X tgt L S M) (kf : tB = some u → Wm X (pc + 3) L S M) : Wm X pc L (.inl x :: S) M := by
  intro ad H ls locs h1 h2 h3 h4
  obtain ⟨h5, h6, h7, h8⟩ := mlt_of hf
  exact lv_if_gt (x := oI x) X.hx X.hb hd ht (fun q => kt (h7 ((oI_lt h5 h6).mp q)) ad H ls locs h1 h2 h3 h4) (fun q => kf (h8 (fun w => q ((oI_lt h5 h6).mpr w))) ad H ls locs h1 h2 h3 h4)
theorem x_le0 {x : Int} {off : Int} {tgt : Nat} {tA tB : Option ρ} (hf : mlt 0 x tB tA = some u) (hd : decode cc pc = .ok (.ifCond .le off, 3)) (ht : (pc : Int) + off = (tgt : Int)) (kt : tA = some u → Wm X tgt L S M) (kf : tB = some u → Wm X (pc + 3) L S M) : Wm X pc L (.inl x :: S) M := by
  intro ad H ls locs h1 h2 h3 h4
  obtain ⟨h5, h6, h7, h8⟩ := mlt_of hf
  exact lv_if_le (x := oI x) X.hx X.hb hd ht (fun q => kt (h8 (Int.not_lt.mpr ((oI_le h6 h5).mp q))) ad H ls locs h1 h2 h3 h4) (fun q => kf (h7 (Int.not_le.mp (fun w => q ((oI_le h6 h5).mpr w)))) ad H ls locs h1 h2 h3 h4)
end XB
