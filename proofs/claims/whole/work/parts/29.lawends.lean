/-! The law's own instructions: the script, chars, longs; how its methods end -/
theorem oI_back (x : Int32) : oI x.toInt = x := Int32.ofInt_toInt x
theorem oI_rng (x : Int32) : rI x.toInt := ⟨Int32.le_toInt x, Int32.toInt_lt x⟩
theorem oI_i2c (z : Int) : ((oI z).toUInt32 % 65536).toInt32 = oI (z % 65536) := by
  rw [pk_char, ← oI_nat, oI_tn]
  congr 1
  omega
theorem oI_i2l {v : Int} (h : rI v) : (oI v).toInt64 = Int64.ofInt v := by
  apply Int64.toInt_inj.mp
  rw [Int32.toInt_toInt64, oI_int h]
  exact (Int64.toInt_ofInt_of_le (by have := h.1; omega) (by have := h.2; omega)).symm
section XE
variable {p : Program} {l : Launch} {e : Env} {R : Room} {s : State} {m : MethodId} {args : Array Value} {below : List Frame} {meth : Method} {c : Code} {D : va_G} {aK : Nat → ClassId} {T : List Sh} {mv : Nat → Bool} {pm : Bool} {a0 : Nat → Nat} {own : String} {cc : ByteArray} {nL : Nat} {ret : Option FieldType} {nh : Bool} {A : Nat → Prop} {Q : State → Prop} {nc ns : Nat}
variable {X : Cx p l e R s m args below meth c D aK T mv pm a0 own cc nL ret nh A Q nc ns} {pc : Nat} {L : List (Option Vv)} {S : List Vv} {M : Mm}
theorem y_slen {b n : Nat} {xs : Nat → Int32} (hX : va_X b n xs s s.heap) (hb : b < s.heap.size) (hA : ¬ A b) (ha : a0 999 = b) (hmv : mv 999 = false) (hd : decode cc pc = .ok (.arraylength, 1)) (k : Wm X (pc + 1) L (.inl (n : Int) :: S) M) : Wm X pc L (.inr 999 :: S) M := by
  intro ad H ls locs h1 h2 h3 h4
  have e1 : ad 999 = b := (h1.2.1 999 hmv).trans ha
  show W p l e R s m args below meth c H locs nc ns Q (F0 m pc ls (.ref (ad 999) :: S.map (vl ad)))
  rw [e1]
  refine va_slen X.hx X.hb hX hb hA h3 hd ?_
  have := k ad H ls locs h1 h2 h3 h4
  rw [List.map_cons, show vl ad (.inl (n : Int)) = .int (Int32.ofNat n) from congrArg Value.int (oI_nat n)] at this
  exact this
theorem y_sld {b n : Nat} {xs : Nat → Int32} {i : Int} (hX : va_X b n xs s s.heap) (hb : b < s.heap.size) (hA : ¬ A b) (ha : a0 999 = b) (hmv : mv 999 = false) (hn : n < 2147483648) (hi : 0 ≤ i ∧ i < n) (hd : decode cc pc = .ok (.iaload, 1)) (k : Wm X (pc + 1) L (.inl (xs i.toNat).toInt :: S) M) : Wm X pc L (.inl i :: .inr 999 :: S) M := by
  intro ad H ls locs h1 h2 h3 h4
  have e1 : ad 999 = b := (h1.2.1 999 hmv).trans ha
  show W p l e R s m args below meth c H locs nc ns Q (F0 m pc ls (.int (oI i) :: .ref (ad 999) :: S.map (vl ad)))
  rw [e1]
  refine va_sld X.hx X.hb hX hb hA h3 (oI_in hi.1 hi.2 hn) hd ?_
  have := k ad H ls locs h1 h2 h3 h4
  rw [List.map_cons, show vl ad (.inl (xs i.toNat).toInt) = .int (xs i.toNat) from congrArg Value.int (oI_back _)] at this
  rw [oI_cl hi.1 (by omega)]
  exact this
theorem y_i2c {x : Int} (hd : decode cc pc = .ok (.i2c, 1)) (k : Wm X (pc + 1) L (.inl (x % 65536) :: S) M) : Wm X pc L (.inl x :: S) M := fun ad H ls locs h1 h2 h3 h4 => lv_i2c (x := oI x) X.hx X.hb hd (oI_i2c x) (k ad H ls locs h1 h2 h3 h4)
theorem y_out {q n : Nat} {v : Int} (hT : T[q]? = some (.inr (2, n))) (hn : 0 < n ∧ n < 2147483648) (hv : rI v) (hd : decode cc pc = .ok (.i2l, 1)) (hd2 : decode cc (pc + 1) = .ok (.lastore, 1)) (k : Wm X (pc + 2) L S (st M q 0 v)) : Wm X pc L (.inl v :: .inl 0 :: .inr q :: S) M := by
  intro ad H ls locs h1 h2 h3 h4
  have he : (mkW ad aK T M)[q]? = some (ad q, .inl (aK 2, (n, .inr (.inl (fun i => Int64.ofInt (M q i)))))) := mkW_at hT
  refine lv_i2l (x := oI v) X.hx X.hb hd (oI_i2l hv) ?_
  refine va_last (i := oI 0) X.hx X.hb X.hK h2 (X.hD h1) h3 q 2 he rfl (oI_in (Int.le_refl 0) (by omega) hn.2) hd2 (fun H1 locs1 q1 _ q3 => ?_)
  have hset : (mkW ad aK T M).set q (ad q, .inl (aK 2, (n, .inr (.inl (vp_updL (fun i => Int64.ofInt (M q i)) (oI 0).toNatClampNeg (Int64.ofInt v)))))) = mkW ad aK T (st M q 0 v) := by
    refine mkW_set hT (fun j hj => st_ne hj) ?_
    show Sum.inl (aK 2, (n, Sum.inr (Sum.inl (vp_updL (fun i => Int64.ofInt (M q i)) (oI 0).toNatClampNeg (Int64.ofInt v))))) = Sum.inl (aK 2, (n, Sum.inr (Sum.inl (fun i => Int64.ofInt (st M q 0 v q i)))))
    congr 5
    funext j
    rw [oI_cl (Int.le_refl 0) (by decide)]
    show (if j = (0 : Int).toNat then Int64.ofInt v else Int64.ofInt (M q j)) = _
    by_cases hj : j = 0
    · subst hj; rw [st_same]; rfl
    · rw [st_off hj, if_neg (by simpa using hj)]
  rw [hset] at q1
  exact k ad H1 ls locs1 h1 q1 q3 h4
/-- the law's own comparison of two longs that are equal -/
theorem y_same {q n i : Nat} {w off : Int} {tgt : Nat} (hT : T[q]? = some (.inr (2, n))) (hn : 0 < n ∧ n < 2147483648) (hw : rI w) (hM : M q 0 = w) (hL : L[i]? = some (some (.inl w))) (d0 : decode cc pc = .ok (.laload, 1)) (d1 : decode cc (pc + 1) = .ok (.iload i, 2)) (d2 : decode cc (pc + 1 + 2) = .ok (.i2l, 1)) (d3 : decode cc (pc + 1 + 2 + 1) = .ok (.lcmp, 1)) (d4 : decode cc (pc + 1 + 2 + 1 + 1) = .ok (.ifCond .eq off, 3)) (ht : ((pc + 1 + 2 + 1 + 1 : Nat) : Int) + off = (tgt : Int)) (k : Wm X tgt L S M) : Wm X pc L (.inl 0 :: .inr q :: S) M := by
  intro ad H ls locs h1 h2 h3 h4
  have he : (mkW ad aK T M)[q]? = some (ad q, .inl (aK 2, (n, .inr (.inl (fun i => Int64.ofInt (M q i)))))) := mkW_at hT
  refine va_lald (i := oI 0) X.hx X.hb X.hK h2 q 2 he rfl (oI_in (Int.le_refl 0) (by omega) hn.2) d0 ?_
  rw [oI_cl (Int.le_refl 0) (by decide)]
  refine lv_iload X.hx X.hb d1 (lvl_at h4 hL) ?_
  refine lv_i2l (x := oI w) X.hx X.hb d2 (oI_i2l hw) ?_
  refine W.lcmp X.hx X.hb d3 ?_
  have e0 : lg_cmp (Int64.ofInt (M q (0 : Int).toNat)) (Int64.ofInt w) = 0 := by
    show lg_cmp (Int64.ofInt (M q 0)) (Int64.ofInt w) = 0
    rw [hM]
    simp [lg_cmp]
  rw [e0]
  exact lv_if_eq X.hx X.hb d4 ht (fun _ => k ad H ls locs h1 h2 h3 h4) (fun z => absurd rfl z)
end XE
def EQW (below : List Frame) (D : va_G) (aK : Nat → ClassId) (T : List Sh) (mv : Nat → Bool) (pm : Bool) (a0 : Nat → Nat) (ret : Option FieldType) (v : Int) (M' : Mm) (s : State) : State → Prop := fun t => ∃ o, t.status = .running ∧ Ended t below o ∧ EndW D aK T mv pm a0 ret v M' 1 6 s o t
/-- a body of the law's, with a table of handlers -/
abbrev Cz (p : Program) (l : Launch) (e : Env) (R : Room) (s : State) (m : MethodId) (args : Array Value) (below : List Frame) (meth : Method) (c : Code) (D : va_G) (aK : Nat → ClassId) (T : List Sh) (mv : Nat → Bool) (pm : Bool) (a0 : Nat → Nat) (own : String) (cc : ByteArray) (nL : Nat) (ret : Option FieldType) (v : Int) (M' : Mm) (nc ns : Nat) : Prop :=
  Cx p l e R s m args below meth c D aK T mv pm a0 own cc nL ret false (AA a0 T.length s.heap.size) (EQW below D aK T mv pm a0 ret v M' s) nc ns
def mkE (h : Nat × Nat × Nat × Nat) : ExceptionTableEntry := ⟨h.1, h.2.1, h.2.2.1, h.2.2.2⟩
theorem mkE_of : ∀ (es : List ExceptionTableEntry) (hs : List (Nat × Nat × Nat × Nat)), es.map (fun h => (h.startPc, h.endPc, h.handlerPc, h.catchType)) = hs → es = hs.map mkE
  | [], hs, h => by subst h; rfl
  | x :: es, hs, h => by
    subst h
    rw [List.map_cons, List.map_cons, ← mkE_of es _ rfl]
    rfl
section XZ
variable {p : Program} {l : Launch} {e : Env} {R : Room} {s : State} {m : MethodId} {args : Array Value} {below : List Frame} {meth : Method} {c : Code} {D : va_G} {aK : Nat → ClassId} {T : List Sh} {mv : Nat → Bool} {pm : Bool} {a0 : Nat → Nat} {own : String} {cc : ByteArray} {nL : Nat} {ret : Option FieldType} {nc ns : Nat}
variable {v : Int} {M' : Mm} {X : Cz p l e R s m args below meth c D aK T mv pm a0 own cc nL ret v M' nc ns} {pc : Nat} {L : List (Option Vv)} {S : List Vv} {M : Mm}
theorem y_iret (hM : M = M') (hk : nc ≤ 1 ∧ ns ≤ 6) (hret : ret = some .int) (hd : decode cc pc = .ok (.ireturn, 1)) : Wm X pc L [.inl v] M := by
  intro ad H ls locs h1 h2 h3 h4
  subst hret
  subst hM
  refine wq_mono (fun t ht => ?_) (W.iret (v := oI v) (Qc := fun _ _ o t => o = .returned (some (.int (oI v))) ∧ t.heap = H) (free := AA a0 T.length s.heap.size) X.hx X.hb X.hr (fun t ht _ => ⟨rfl, ht⟩) h3.2.2 hd X.hlocks)
  obtain ⟨o, q1, q2, ⟨q3, q4⟩, Lc, ⟨-, q5, q6⟩, q7⟩ := ht
  exact ⟨o, q1, q2, ad, Lc, h1, q5, q6.mono hk.1 hk.2, q7, by rw [q4]; exact h2, by rw [q4]; exact h3.1, fun q a b => by rw [q4]; exact h3.2.1 q a b, q3⟩
end XZ
theorem ctw_body {l : Launch} {y : MethodName} {rm : Room} {T : List Sh} {mv : Nat → Bool} {pm : Bool} {ret : Option FieldType} {avs : List Vv} {M : Mm} {v : Int} {M' : Mm} {cc : ByteArray} {nL : Nat} {hs : List (Nat × Nat × Nat × Nat)} (hl : l.stackTraces = false) (hy : plainName y.cls = true) (hcode : Cond.codeWith y cc nL ret hs ∈ WA) (hn : avs.length ≤ nL)
    (body : ∀ {p : Program} {e : Env} {s : State} {m : MethodId} {args : Array Value} {below : List Frame} {meth : Method} {c : Code} {D : va_G} {aK : Nat → ClassId} {a0 : Nat → Nat} (X : Cz p l e rm s m args below meth c D aK T mv pm a0 y.cls cc nL ret v M' 0 0), NcA s → c.exceptionTable.toList = hs.map mkE → Wm X 0 (avs.map some ++ List.replicate (nL - avs.length) none) [] M) : CtW l y rm T mv pm ret avs M v M' 1 6 := by
  intro D aK ad
  refine Jvm.Free.MetFree.of_bodyS (code := cc) (maxLocals := nL) (ret := ret) hy ?_ ?_
  · intro args s m h hn
    obtain ⟨m', meth, c, h0, h1, h2, h3, h4, -, h5, h6, -⟩ := Cond.codeWith_spec (atoms_spec (ws := WA) h _ hcode)
    cases hn.symm.trans h0
    exact ⟨meth, c, h1, h2, h3, h4, h5, h6⟩
  · intro p e s m args below meth c s₁ B hml hP _
    obtain ⟨⟨rfl, p2, p3, p4, p5⟩, p6⟩ := hP
    have hts := atoms_spec (ws := WA) B.pre
    obtain ⟨m', meth', c', h0, h1, h2, -, -, h7, -, -, -⟩ := Cond.codeWith_spec (hts _ hcode)
    cases B.named.symm.trans h0
    cases B.method.symm.trans h1
    cases (Stand.of_body B).code.symm.trans h2
    have hns : ∀ q cell, AA ad T.length s.heap.size q → s.heap[q]? = some cell → cell.vm.isStatics = false := by
      intro q cell hq hc
      rcases hq with ⟨i, hi, rfl⟩ | hq
      · obtain ⟨cell', e1, e2⟩ := mkW_plain p2 hi
        cases hc.symm.trans e1
        rw [e2]; rfl
      · exact absurd (Array.getElem?_eq_some_iff.mp hc).1 (by omega)
    have X : Cz p l e rm s m (avs.map (vl ad)).toArray below meth c D aK T mv pm ad y.cls cc nL ret v M' 0 0 :=
      ⟨B.exec, B.bytes, hml, hts, findClass_of_methodNamed B.named, p3, B.notSynchronized, B.returns, (fun z => nomatch z), hl, p5, hns, fun i hi => Or.inl ⟨i, hi, rfl⟩, fun q hq => Or.inr hq⟩
    have hS : va_S (AA ad T.length s.heap.size) s.heap s.heap [] := va_S.rf
    have hl0 := lv_entry (avs.map (vl ad)) (n := nL) (by rw [sl_len]; exact hn)
    have hlv : lv_has ((lg_sl (avs.map (vl ad)) ++ List.replicate (nL - (lg_sl (avs.map (vl ad))).length) Slot.unset).toArray) nL (lvl ad (avs.map some ++ List.replicate (nL - avs.length) none)) := by
      refine ⟨hl0.1, hl0.2.1, fun q hq => hl0.2.2 q ?_⟩
      obtain ⟨i, v, hi, rfl⟩ := mem_lvl.mp hq
      by_cases hlt : i < avs.length
      · rw [List.getElem?_append_left (by rw [List.length_map]; exact hlt), List.getElem?_map] at hi
        have hv : avs[i]? = some v := by
          cases ha : avs[i]? with
          | none => rw [ha] at hi; cases hi
          | some w => rw [ha] at hi; cases hi; rfl
        have := la_mem ad avs 0 i v hv
        rw [Nat.zero_add] at this
        exact this
      · rw [List.getElem?_append_right (by rw [List.length_map]; omega)] at hi
        have := List.mem_of_getElem? hi
        rw [List.mem_replicate] at this
        cases this.2
    have hw := body X p6 (mkE_of _ _ h7) ad s.heap _ [] (agr_rf p4) p2 hS hlv
    rw [List.map_nil, ← lg_entry_eq] at hw
    have hh0 : s₁.heap = s.heap := by rw [B.state]; rfl
    obtain ⟨t, a1, o, b1, b2, b3⟩ := hw s₁ hh0 (Stand.of_body B)
    exact ⟨t, o, a1, b1, b2, b3⟩
