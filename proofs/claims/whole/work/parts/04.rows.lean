/-! Fields, arrays, answers -/
def FL (own : String) (idx ci k : Nat) : Prop := ∃ (C : String) (Tb : u_T) (N : Nat), vwCl[ci]? = some (C, Tb, N) ∧ k < N ∧ (∀ w ∈ u_ws C Tb N, w ∈ WA) ∧ (Cond.fieldLink own idx (Tb k).1 (Tb k).2.1 (Tb k).2.2.1 ∈ WA ∨ ∃ host, Cond.fieldLinkNest own idx (Tb k).1 (Tb k).2.1 (Tb k).2.2.1 host ∈ WA)
def FP (ci k : Nat) (ty : FieldType) : Prop := ∃ (C : String) (Tb : u_T) (N : Nat) (ty0 : Nat → FieldType), vwCl[ci]? = some (C, Tb, N) ∧ (∀ k, k < N → parseFieldDescriptor (Tb k).2.2.1 = some (ty0 k)) ∧ (∀ a, a < N → ∀ b, b < N → a ≠ b → (Tb a).2.1 ≠ (Tb b).2.1) ∧ (Tb k).2.2.2 = false ∧ parseFieldDescriptor (Tb k).2.2.1 = some ty
theorem st_cat (ad : Nat → Nat) : ∀ S : List Vv, ((S.map (vl ad)).map fun v => v.category).sum = S.length
  | [] => rfl
  | v :: S => by
    have h := st_cat ad S
    simp only [List.map_cons, List.sum_cons, vl_cat, List.length_cons, h]; omega
section XF
variable {p : Program} {l : Launch} {e : Env} {R : Room} {s : State} {m : MethodId} {args : Array Value} {below : List Frame} {meth : Method} {c : Code} {D : va_G} {aK : Nat → ClassId} {T : List Sh} {mv : Nat → Bool} {pm : Bool} {a0 : Nat → Nat} {own : String} {cc : ByteArray} {nL : Nat} {ret : Option FieldType} {nh : Bool} {A : Nat → Prop} {Q : State → Prop} {nc ns : Nat} {r : Nat × Int × Mm}
variable {X : Cx p l e R s m args below meth c D aK T mv pm a0 own cc nL ret nh A Q nc ns} {pc : Nat} {L : List (Option Vv)} {S : List Vv} {M : Mm} {ρ : Type} {u : ρ}
theorem x_get {idx ci k q : Nat} {fds : List (Option Nat)} {f : Option Nat} {v : Vv} (hf : FL own idx ci k) (hT : T[q]? = some (.inl (ci, fds))) (hk : fds[k]? = some f) (hv : ∀ ad, fv ad M q k f = vl ad v) (hd : decode cc pc = .ok (.getfield idx, 3)) (kk : Wm X (pc + 3) L (v :: S) M) : Wm X pc L (.inr q :: S) M := by
  intro ad H ls locs h1 h2 h3 h4
  obtain ⟨C, Tb, N, hc, hkN, hin, hl⟩ := hf
  have he : (mkW ad aK T M)[q]? = some (ad q, .inr (ci, fds.mapIdx (fun k f => fv ad M q k f))) := mkW_at hT
  have hw : (fds.mapIdx (fun k f => fv ad M q k f))[k]? = some (vl ad v) := by rw [List.getElem?_mapIdx, hk, ← hv ad]; rfl
  rcases hl with hl | ⟨host, hl⟩
  · exact va_get X.hx X.hb X.hts hin X.hown X.hK h2 q he hc k hkN (X.hts _ hl) (fun _ h => h) hw hd (kk ad H ls locs h1 h2 h3 h4)
  · exact va_getN X.hx X.hb X.hts hin X.hown X.hK h2 q he hc k hkN (X.hts _ hl) (fun _ h => h) hw hd (kk ad H ls locs h1 h2 h3 h4)
theorem x_getI {idx ci k q : Nat} {fds : List (Option Nat)} (hf : FL own idx ci k) (hT : T[q]? = some (.inl (ci, fds))) (hk : fds[k]? = some none) (hd : decode cc pc = .ok (.getfield idx, 3)) (kk : Wm X (pc + 3) L (.inl (M q k) :: S) M) : Wm X pc L (.inr q :: S) M := x_get hf hT hk (fun _ => rfl) hd kk
theorem x_getR {idx ci k q j : Nat} {fds : List (Option Nat)} (hf : FL own idx ci k) (hT : T[q]? = some (.inl (ci, fds))) (hk : fds[k]? = some (some j)) (hd : decode cc pc = .ok (.getfield idx, 3)) (kk : Wm X (pc + 3) L (.inr j :: S) M) : Wm X pc L (.inr q :: S) M := x_get hf hT hk (fun _ => rfl) hd kk
theorem x_putv {idx ci k q : Nat} {fds : List (Option Nat)} {v : Int} {ty : FieldType} (hf : FL own idx ci k) (hp : FP ci k ty) (hn : narrow ty (.int (oI v)) = .int (oI v)) (hfit : fits ty (.int (oI v)) = true) (hT : T[q]? = some (.inl (ci, fds))) (hk : fds[k]? = some none) (hd : decode cc pc = .ok (.putfield idx, 3)) (kk : Wm X (pc + 3) L S (st M q k v)) : Wm X pc L (.inl v :: .inr q :: S) M := by
  intro ad H ls locs h1 h2 h3 h4
  obtain ⟨C, Tb, N, hc, hkN, hin, hl⟩ := hf
  obtain ⟨C', Tb', N', ty0, hc', g1, g2, g3, g4⟩ := hp
  cases hc.symm.trans hc'
  have he : (mkW ad aK T M)[q]? = some (ad q, .inr (ci, fds.mapIdx (fun k f => fv ad M q k f))) := mkW_at hT
  have hlen : k < (fds.mapIdx (fun k f => fv ad M q k f)).length := by rw [List.length_mapIdx]; exact (List.getElem?_eq_some_iff.mp hk).1
  have hset : (mkW ad aK T M).set q (ad q, .inr (ci, (fds.mapIdx (fun k f => fv ad M q k f)).set k (.int (oI v)))) = mkW ad aK T (st M q k v) := mkW_set hT (fun j hj => st_ne hj) (en_put hk)
  rcases hl with hl | ⟨host, hl⟩
  · exact va_put X.hx X.hb X.hts hin ty0 g1 g2 X.hown X.hK h2 (X.hD h1) h3 q he hc k hkN (X.hts _ hl) (fun _ h => h) g3 g4 hn hfit hlen hd (fun H1 locs1 q1 _ q3 => kk ad H1 ls locs1 h1 (by rw [← hset]; exact q1) q3 h4)
  · exact va_putN X.hx X.hb X.hts hin ty0 g1 g2 X.hown X.hK h2 (X.hD h1) h3 q he hc k hkN (X.hts _ hl) (fun _ h => h) g3 g4 hn hfit hlen hd (fun H1 locs1 q1 _ q3 => kk ad H1 ls locs1 h1 (by rw [← hset]; exact q1) q3 h4)
theorem x_put {idx ci k q : Nat} {fds : List (Option Nat)} {v : Int} {K : Mm → Option ρ} (hm : mput M q k v K = some u) (hf : FL own idx ci k) (hp : FP ci k .int) (hT : T[q]? = some (.inl (ci, fds))) (hk : fds[k]? = some none) (hd : decode cc pc = .ok (.putfield idx, 3)) (kk : ∀ M', K M' = some u → Wm X (pc + 3) L S M') : Wm X pc L (.inl v :: .inr q :: S) M :=
  x_putv hf hp rfl rfl hT hk hd (kk _ hm)
theorem x_putz {idx ci k q : Nat} {fds : List (Option Nat)} {v : Int} {K : Mm → Option ρ} (hm : mpuz M q k v K = some u) (hf : FL own idx ci k) (hp : FP ci k .boolean) (hT : T[q]? = some (.inl (ci, fds))) (hk : fds[k]? = some none) (hd : decode cc pc = .ok (.putfield idx, 3)) (kk : ∀ M', K M' = some u → Wm X (pc + 3) L S M') : Wm X pc L (.inl v :: .inr q :: S) M := by
  obtain ⟨hz, hm⟩ := mif_of hm
  exact x_putv hf hp (nar_z hz) (fit_z hz) hT hk hd (kk _ hm)
theorem x_iald {q n : Nat} {i : Int} {K : Int → Option ρ} (hm : mrd M q n i K = some u) (hT : T[q]? = some (.inr (0, n))) (hn : n < 2147483648) (hd : decode cc pc = .ok (.iaload, 1)) (kk : ∀ v, K v = some u → Wm X (pc + 1) L (.inl v :: S) M) : Wm X pc L (.inl i :: .inr q :: S) M := by
  intro ad H ls locs h1 h2 h3 h4
  obtain ⟨⟨g1, g2⟩, hm⟩ := mif_of hm
  have he : (mkW ad aK T M)[q]? = some (ad q, .inl (aK 0, (n, .inl (fun i => oI (M q i))))) := mkW_at hT
  refine va_iald X.hx X.hb X.hK h2 q 0 he rfl (oI_in g1 g2 hn) hd ?_
  rw [oI_cl g1 (by omega)]
  exact kk _ hm ad H ls locs h1 h2 h3 h4
theorem x_zald {q n : Nat} {i : Int} {K : Int → Option ρ} (hm : mrd M q n i K = some u) (hT : T[q]? = some (.inr (1, n))) (hn : n < 2147483648) (hd : decode cc pc = .ok (.baload, 1)) (kk : ∀ v, K v = some u → Wm X (pc + 1) L (.inl v :: S) M) : Wm X pc L (.inl i :: .inr q :: S) M := by
  intro ad H ls locs h1 h2 h3 h4
  obtain ⟨⟨g1, g2⟩, hm⟩ := mif_of hm
  have he : (mkW ad aK T M)[q]? = some (ad q, .inl (aK 1, (n, .inl (fun i => oI (M q i))))) := mkW_at hT
  refine va_zald X.hx X.hb X.hK h2 q 1 he rfl (oI_in g1 g2 hn) hd ?_
  rw [oI_cl g1 (by omega)]
  exact kk _ hm ad H ls locs h1 h2 h3 h4
theorem x_iast {q n : Nat} {i v : Int} {K : Mm → Option ρ} (hm : mwr M q n i v K = some u) (hT : T[q]? = some (.inr (0, n))) (hn : n < 2147483648) (hd : decode cc pc = .ok (.iastore, 1)) (kk : ∀ M', K M' = some u → Wm X (pc + 1) L S M') : Wm X pc L (.inl v :: .inl i :: .inr q :: S) M := by
  intro ad H ls locs h1 h2 h3 h4
  obtain ⟨⟨g1, g2⟩, hm⟩ := mif_of hm
  have he : (mkW ad aK T M)[q]? = some (ad q, .inl (aK 0, (n, .inl (fun i => oI (M q i))))) := mkW_at hT
  refine va_iast X.hx X.hb X.hK h2 (X.hD h1) h3 q 0 he rfl (oI_in g1 g2 hn) hd (fun H1 locs1 q1 _ q3 => ?_)
  rw [oI_cl g1 (by omega), mkW_set hT (fun j hj => st_ne hj) (en_arr rfl)] at q1
  exact kk _ hm ad H1 ls locs1 h1 q1 q3 h4
theorem x_zast {q n : Nat} {i v : Int} {K : Mm → Option ρ} (hm : mwz M q n i v K = some u) (hT : T[q]? = some (.inr (1, n))) (hn : n < 2147483648) (hd : decode cc pc = .ok (.bastore, 1)) (kk : ∀ M', K M' = some u → Wm X (pc + 1) L S M') : Wm X pc L (.inl v :: .inl i :: .inr q :: S) M := by
  intro ad H ls locs h1 h2 h3 h4
  obtain ⟨⟨⟨g1, g2⟩, g3⟩, hm⟩ := mif_of hm
  have he : (mkW ad aK T M)[q]? = some (ad q, .inl (aK 1, (n, .inl (fun i => oI (M q i))))) := mkW_at hT
  refine va_zast X.hx X.hb X.hK h2 (X.hD h1) h3 q 1 he rfl (oI_in g1 g2 hn) hd (fun H1 locs1 q1 _ q3 => ?_)
  have hv : vp_nar .boolean (oI v) = oI v := by unfold vp_nar; rw [nar_z g3]
  rw [hv, oI_cl g1 (by omega), mkW_set hT (fun j hj => st_ne hj) (en_arr rfl)] at q1
  exact kk _ hm ad H1 ls locs1 h1 q1 q3 h4
theorem x_alen {q n : Nat} (hT : T[q]? = some (.inr (0, n))) (hd : decode cc pc = .ok (.arraylength, 1)) (kk : Wm X (pc + 1) L (.inl (n : Int) :: S) M) : Wm X pc L (.inr q :: S) M := by
  intro ad H ls locs h1 h2 h3 h4
  have he : (mkW ad aK T M)[q]? = some (ad q, .inl (aK 0, (n, .inl (fun i => oI (M q i))))) := mkW_at hT
  exact va_alen X.hx X.hb X.hK h2 q 0 he rfl (v := oI (n : Int)) (oI_nat n).symm hd (kk ad H ls locs h1 h2 h3 h4)
theorem wq_mono {H : Heap} {locs : List Loc} {cells slots : Nat} {Q Q' : State → Prop} {g : JFrame} (h : ∀ t, Q t → Q' t) (k : W p l e R s m args below meth c H locs cells slots Q g) : W p l e R s m args below meth c H locs cells slots Q' g := fun Tt hT Y => by
  obtain ⟨t, a, b⟩ := k Tt hT Y
  exact ⟨t, a, h t b⟩
theorem eq_of {H : Heap} {locs : List Loc} {ad : Nat → Nat} {v : Int} (h1 : agr mv pm T.length a0 ad) (h2 : va_P D vwCl (mkW ad aK T M) H) (h3 : va_S (AA a0 T.length s.heap.size) s.heap H locs) (hE : r = (0, v, M)) {t : State}
    (ht : MQ below (fun _ _ o t => o = .returned (rv ret v) ∧ t.heap = H) args s 0 0 (AA a0 T.length s.heap.size) t) : EQ below D aK T mv pm a0 ret r s t := by
  subst hE
  obtain ⟨o, q1, q2, ⟨q3, q4⟩, Lc, ⟨-, q5, q6⟩, q7⟩ := ht
  exact ⟨o, q1, q2, ad, Lc, 0, 0, h1, q5, q6, q7, by rw [q4]; exact h2, by rw [q4]; exact h3.1, fun q a b => by rw [q4]; exact h3.2.1 q a b, Or.inl ⟨rfl, rfl, rfl, q3⟩⟩
theorem x_iret {X : Cy p l e R s m args below meth c D aK T mv pm a0 own cc nL ret r} {v : Int} (hE : r = (0, v, M)) (hret : ret = some .int) (hd : decode cc pc = .ok (.ireturn, 1)) : Wm X pc L [.inl v] M := by
  intro ad H ls locs h1 h2 h3 h4
  subst hret
  exact wq_mono (fun t ht => eq_of h1 h2 h3 hE ht) (W.iret (v := oI v) X.hx X.hb X.hr (fun t ht _ => ⟨rfl, ht⟩) h3.2.2 hd X.hlocks)
theorem x_zret {X : Cy p l e R s m args below meth c D aK T mv pm a0 own cc nL ret r} {v : Int} (hE : r = (0, v, M)) (hz : 0 ≤ v ∧ v < 2) (hret : ret = some .boolean) (hd : decode cc pc = .ok (.ireturn, 1)) : Wm X pc L [.inl v] M := by
  intro ad H ls locs h1 h2 h3 h4
  subst hret
  exact wq_mono (fun t ht => eq_of h1 h2 h3 hE ht) (W.zret (v := oI v) X.hx X.hb X.hr (nar_z hz) (fun t ht _ => ⟨rfl, ht⟩) h3.2.2 hd X.hlocks)
theorem x_vret {X : Cy p l e R s m args below meth c D aK T mv pm a0 own cc nL ret r} (hE : ∃ v, r = (0, v, M)) (hret : ret = none) (hd : decode cc pc = .ok (.return_, 1)) : Wm X pc L [] M := by
  intro ad H ls locs h1 h2 h3 h4
  subst hret
  obtain ⟨v, hE⟩ := hE
  exact wq_mono (fun t ht => eq_of h1 h2 h3 hE ht) (W.vret X.hx X.hb X.hr (fun t ht _ => ⟨rfl, ht⟩) h3.2.2 hd X.hlocks)
theorem x_min {X : Cy p l e R s m args below meth c D aK T mv pm a0 own cc nL ret r} {x y : Int} {K : Int → Option ρ} {idx : Nat} (hm : mmin x y K = some u) (hl : Cond.methodLink own idx Lib.Math.min.name ∈ WA) (hw : Cond.static Lib.Math.min.name ∈ WA ∧ Cond.initialized "java/lang/Math" ∈ WA ∧ Cond.code Lib.Math.min.name Lib.Math.min.code 2 (some .int) ∈ WA) (hR : 1 ≤ R.frames ∧ S.length + 13 ≤ R.locals) (hd : decode cc pc = .ok (.invokestatic idx, 3)) (kk : ∀ v, K v = some u → Wm X (pc + 3) L (.inl v :: S) M) : Wm X pc L (.inl y :: .inl x :: S) M := by
  intro ad H ls locs h1 h2 h3 h4
  obtain ⟨⟨g1, g2⟩, hm⟩ := mif_of hm
  have hcat := st_cat ad S
  refine va_mmin (x := oI x) (y := oI y) X.hx X.hb (by rw [X.hml]; exact h4.1.symm) X.hown (X.hts _ hl) (X.hts _ hw.1) (X.hts _ hw.2.1) (X.hts _ hw.2.2) hR.1 (by rw [hcat]; exact hR.2) (Nat.zero_le _) (Nat.zero_le _) hd ?_
  have e : (if oI y < oI x then oI y else oI x) = oI (if y < x then y else x) := by
    by_cases h : y < x
    · rw [if_pos h, if_pos ((oI_lt g2 g1).mpr h)]
    · rw [if_neg h, if_neg (fun z => h ((oI_lt g2 g1).mp z))]
  rw [e]
  exact kk _ hm ad H ls locs h1 h2 h3 h4
theorem x_copy {q0 n0 q1 n1 : Nat} {sp dp n : Int} {K : Mm → Option ρ} {idx : Nat} (hm : mcp M q0 n0 sp q1 n1 dp n K = some u) (hT0 : T[q0]? = some (.inr (0, n0))) (hT1 : T[q1]? = some (.inr (0, n1))) (hn : n0 < 2147483648 ∧ n1 < 2147483648) (hl : Cond.methodLink own idx arraycopyName ∈ WA) (hw : Cond.native arraycopyName ∈ WA ∧ Cond.static arraycopyName ∈ WA ∧ Cond.initialized "java/lang/System" ∈ WA) (hR : 1 ≤ R.frames ∧ S.length + (nativeFrameWords "java/lang/System" "arraycopy" 5 + 11) ≤ R.locals) (hd : decode cc pc = .ok (.invokestatic idx, 3)) (kk : ∀ M', K M' = some u → Wm X (pc + 3) L S M') : Wm X pc L (.inl n :: .inl dp :: .inr q1 :: .inl sp :: .inr q0 :: S) M := by
  intro ad H ls locs h1 h2 h3 h4
  obtain ⟨⟨g1, g2, g3, g4, g5⟩, hm⟩ := mif_of hm
  have hcat := st_cat ad S
  have he0 : (mkW ad aK T M)[q0]? = some (ad q0, .inl (aK 0, (n0, .inl (fun i => oI (M q0 i))))) := mkW_at hT0
  have he1 : (mkW ad aK T M)[q1]? = some (ad q1, .inl (aK 0, (n1, .inl (fun i => oI (M q1 i))))) := mkW_at hT1
  have ng : ∀ z : Int, 0 ≤ z → z < 2147483648 → ¬ oI z < 0 := fun z z0 z1 w => by
    have := (oI_lt (a := z) (b := 0) ⟨by omega, z1⟩ rI_0).mp w
    omega
  have hsp := oI_cl g1 (by omega)
  have hdp := oI_cl g2 (by omega)
  have hnn := oI_cl g3 (by omega)
  refine va_copyi (sp := oI sp) (dp := oI dp) (n := oI n) X.hx X.hb (by rw [X.hml]; exact h4.1.symm) X.hown (X.hts _ hl) (X.hts _ hw.1) (X.hts _ hw.2.1) (X.hts _ hw.2.2) X.hK h2 (X.hD h1) h3 q0 q1 0 0 he0 he1 rfl rfl rfl (ng sp g1 (by omega)) (ng dp g2 (by omega)) (ng n g3 (by omega)) (by rw [hsp, hnn]; omega) (by rw [hdp, hnn]; omega) (fun i _ => rfl) hR.1 (by rw [hcat]; exact hR.2) hd (fun H1 locs1 p1 _ p3 => ?_)
  have hset : (mkW ad aK T M).set q1 (ad q1, .inl (aK 0, (n1, .inl (va_cpy (fun i => oI (M q0 i)) (fun i => oI (M q1 i)) sp.toNat dp.toNat n.toNat)))) = mkW ad aK T (cpM M q0 q1 sp.toNat dp.toNat n.toNat) := by
    refine mkW_set hT1 (fun j hj => ?_) ?_
    · funext i; unfold cpM; rw [if_neg (fun z => hj z.1)]
    · show Sum.inl (aK 0, (n1, Sum.inl (va_cpy (fun i => oI (M q0 i)) (fun i => oI (M q1 i)) sp.toNat dp.toNat n.toNat))) = Sum.inl (aK 0, (n1, Sum.inl (fun i => oI (cpM M q0 q1 sp.toNat dp.toNat n.toNat q1 i))))
      congr 4
      funext i
      unfold va_cpy cpM
      by_cases h : dp.toNat ≤ i ∧ i < dp.toNat + n.toNat
      · rw [if_pos h, if_pos ⟨rfl, h⟩]
      · rw [if_neg h, if_neg (fun z => h z.2)]
  rw [hsp, hdp, hnn, hset] at p1
  exact kk _ hm ad H1 ls locs1 h1 p1 p3 h4
/-- a switch whose rows are told one by one: the number is known to differ from those before -/
theorem x_table {x : Int} {dflt lo hi : Int} {offs : Array Int} {len : Nat} (hr : rI x) (hd : decode cc pc = .ok (.tableswitch dflt lo hi offs, len)) {tgt : Nat} (hin : ¬ x < lo → ¬ hi < x → ∃ off, offs[(x - lo).toNat]? = some off ∧ (pc : Int) + off = (tgt : Int)) (hout : (x < lo ∨ hi < x) → (pc : Int) + dflt = (tgt : Int)) (kk : Wm X tgt L S M) : Wm X pc L (.inl x :: S) M := by
  intro ad H ls locs h1 h2 h3 h4
  by_cases h : x < lo ∨ hi < x
  · exact lv_tableOut (x := oI x) X.hx X.hb hd (by rw [oI_int hr]; exact h) (hout h) (kk ad H ls locs h1 h2 h3 h4)
  · obtain ⟨off, e1, e2⟩ := hin (fun z => h (Or.inl z)) (fun z => h (Or.inr z))
    exact lv_tableIn (x := oI x) X.hx X.hb hd (by rw [oI_int hr]; exact fun z => h (Or.inl z)) (by rw [oI_int hr]; exact fun z => h (Or.inr z)) (by rw [oI_int hr]; exact e1) e2 (kk ad H ls locs h1 h2 h3 h4)
theorem x_lookup {x : Int} {dflt : Int} {ps : Array (Int × Int)} {len : Nat} {off : Int} (hr : rI x) (hd : decode cc pc = .ok (.lookupswitch dflt ps, len)) (hp : (ps.toList.zip (ps.toList.drop 1)).all (fun (a, next) => a.1 < next.1) = true) {tgt : Nat} (ho : Op.lookupswitch.offset ps.toList dflt x = off) (ht : (pc : Int) + off = (tgt : Int)) (kk : Wm X tgt L S M) : Wm X pc L (.inl x :: S) M := by
  intro ad H ls locs h1 h2 h3 h4
  exact lv_lookup (x := oI x) X.hx X.hb hd hp (by rw [oI_int hr]; exact ho) ht (kk ad H ls locs h1 h2 h3 h4)
end XF
