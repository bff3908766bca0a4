/-! Two cells change their places: a world told by roles -/
theorem rt_n {a v0 : Int} {M M9 : Mm} (h : some (a, M) = some (v0, M9)) : ((0 : Nat), v0, M9) = (0, a, M) := by cases h; rfl
theorem rt_x {w r : Nat × Int × Mm} (h : some w = some r) : r = w := (Option.some.inj h).symm
def ren (f : Nat → Nat) (h : Sh) : Sh := match h with
  | .inl o => .inl (o.1, o.2.map (Option.map f))
  | .inr a => .inr a
theorem en_ren {ad : Nat → Nat} {aK : Nat → ClassId} {M : Mm} {f : Nat → Nat} {k : Nat} (sh : Sh) : en (fun k => ad (f k)) aK (fun k => M (f k)) k sh = en ad aK M (f k) (ren f sh) := by
  cases sh with
  | inl o =>
    show Sum.inr (o.1, _) = Sum.inr (o.1, _)
    congr 2
    apply List.ext_getElem?
    intro j
    rw [List.getElem?_mapIdx, List.getElem?_mapIdx, List.getElem?_map]
    cases o.2[j]? with
    | none => rfl
    | some z => cases z <;> rfl
  | inr a => rfl
theorem relabel {D : va_G} {cl : List vw_C} {ad : Nat → Nat} {aK : Nat → ClassId} {T T2 : List Sh} {M : Mm} {H : Heap} {f : Nat → Nat} (h : ∀ k, k < T.length → T2[f k]? = (T[k]?).map (ren f)) (hP : va_P D cl (mkW ad aK T2 M) H) : va_P D cl (mkW (fun k => ad (f k)) aK T (fun k => M (f k))) H := by
  intro k q hk
  obtain ⟨sh, h1, rfl⟩ := mkW_inv hk
  have h2 := h k (List.getElem?_eq_some_iff.mp h1).1
  rw [h1] at h2
  have h3 := hP (f k) _ (mkW_at h2)
  rw [← en_ren] at h3
  exact h3
theorem mkW_setT {ad : Nat → Nat} {aK : Nat → ClassId} {T : List Sh} {M : Mm} {q : Nat} {sh : Sh} (hq : q < T.length) : (mkW ad aK T M).set q (ad q, en ad aK M q sh) = mkW ad aK (T.set q sh) M := by
  apply List.ext_getElem?
  intro j
  unfold mkW
  rw [List.getElem?_set, List.getElem?_mapIdx, List.getElem?_mapIdx, List.getElem?_set, List.length_mapIdx]
  by_cases hj : q = j
  · subst hj
    rw [if_pos rfl, if_pos hq, if_pos rfl, if_pos hq]
    rfl
  · rw [if_neg hj, if_neg hj]
section XRB
variable {p : Program} {l : Launch} {e : Env} {R : Room} {s : State} {m : MethodId} {args : Array Value} {below : List Frame} {meth : Method} {c : Code} {D : va_G} {aK : Nat → ClassId} {T : List Sh} {mv : Nat → Bool} {pm : Bool} {a0 : Nat → Nat} {own : String} {cc : ByteArray} {nL : Nat} {ret : Option FieldType} {r : Nat × Int × Mm}
/-- the walk in a world of other shapes -/
def Wt (X : Cy p l e R s m args below meth c D aK T mv pm a0 own cc nL ret r) (T1 : List Sh) (pc : Nat) (L : List (Option Vv)) (S : List Vv) (M : Mm) : Prop :=
  ∀ (ad : Nat → Nat) (H : Heap) (ls : Array Slot) (locs : List Loc), agr mv pm T.length a0 ad → va_P D vwCl (mkW ad aK T1 M) H → va_S (AA a0 T.length s.heap.size) s.heap H locs → lv_has ls nL (lvl ad L) → W p l e R s m args below meth c H locs 0 0 (EQ below D aK T mv pm a0 ret r s) (F0 m pc ls (S.map (vl ad)))
variable {X : Cy p l e R s m args below meth c D aK T mv pm a0 own cc nL ret r} {pc : Nat} {L : List (Option Vv)} {S : List Vv} {M : Mm} {T1 : List Sh}
theorem t_in (k : Wt X T pc L S M) : Wm X pc L S M := k
theorem t_aloadn {i : Fin 4} {x : Nat} (hd : decode cc pc = .ok (.aload_n i, 1)) (hL : L[(i : Nat)]? = some (some (.inr x))) (k : Wt X T1 (pc + 1) L (.inr x :: S) M) : Wt X T1 pc L S M := fun ad H ls locs h1 h2 h3 h4 => lv_aload_n X.hx X.hb hd rfl (lvl_at h4 hL) (k ad H ls locs h1 h2 h3 h4)
theorem t_getR {idx ci k q j : Nat} {fds : List (Option Nat)} (hf : FL own idx ci k) (hT : T1[q]? = some (.inl (ci, fds))) (hk : fds[k]? = some (some j)) (hd : decode cc pc = .ok (.getfield idx, 3)) (kk : Wt X T1 (pc + 3) L (.inr j :: S) M) : Wt X T1 pc L (.inr q :: S) M := by
  intro ad H ls locs h1 h2 h3 h4
  obtain ⟨C, Tb, N, hc, hkN, hin, hl⟩ := hf
  have he : (mkW ad aK T1 M)[q]? = some (ad q, .inr (ci, fds.mapIdx (fun k f => fv ad M q k f))) := mkW_at hT
  have hw : (fds.mapIdx (fun k f => fv ad M q k f))[k]? = some (.ref (ad j)) := by rw [List.getElem?_mapIdx, hk]; rfl
  rcases hl with hl | ⟨host, hl⟩
  · exact va_get X.hx X.hb X.hts hin X.hown X.hK h2 q he hc k hkN (X.hts _ hl) (fun _ h => h) hw hd (kk ad H ls locs h1 h2 h3 h4)
  · exact va_getN X.hx X.hb X.hts hin X.hown X.hK h2 q he hc k hkN (X.hts _ hl) (fun _ h => h) hw hd (kk ad H ls locs h1 h2 h3 h4)
theorem t_putR {idx ci k q j : Nat} {fds : List (Option Nat)} {cn : String} {T2 : List Sh} (hf : FL own idx ci k) (hp : FP ci k (.object cn)) (hT : T1[q]? = some (.inl (ci, fds))) (hk : k < fds.length) (hlen : T1.length = T.length) (h2T : T1.set q (.inl (ci, fds.set k (some j))) = T2) (hd : decode cc pc = .ok (.putfield idx, 3)) (kk : Wt X T2 (pc + 3) L S M) : Wt X T1 pc L (.inr j :: .inr q :: S) M := by
  intro ad H ls locs h1 h2 h3 h4
  obtain ⟨C, Tb, N, hc, hkN, hin, hl⟩ := hf
  obtain ⟨C', Tb', N', ty0, hc', g1, g2, g3, g4⟩ := hp
  cases hc.symm.trans hc'
  have he : (mkW ad aK T1 M)[q]? = some (ad q, .inr (ci, fds.mapIdx (fun k f => fv ad M q k f))) := mkW_at hT
  have hl2 : k < (fds.mapIdx (fun k f => fv ad M q k f)).length := by rw [List.length_mapIdx]; exact hk
  have hD : va_D (AA a0 T.length s.heap.size) (mkW ad aK T1 M) := by rw [← hlen] at h1 ⊢; exact agr_D h1
  have hset : (mkW ad aK T1 M).set q (ad q, .inr (ci, (fds.mapIdx (fun k f => fv ad M q k f)).set k (.ref (ad j)))) = mkW ad aK T2 M := by
    rw [← h2T, ← mkW_setT (List.getElem?_eq_some_iff.mp hT).1]
    congr 2
    show Sum.inr (ci, _) = Sum.inr (ci, _)
    congr 2
    apply List.ext_getElem?
    intro i
    rw [List.getElem?_set, List.getElem?_mapIdx, List.getElem?_mapIdx, List.getElem?_set, List.length_mapIdx]
    by_cases hi : k = i
    · subst hi
      rw [if_pos rfl, if_pos hk, if_pos rfl, if_pos hk]
      rfl
    · rw [if_neg hi, if_neg hi]
  rcases hl with hl | ⟨host, hl⟩
  · exact va_put X.hx X.hb X.hts hin ty0 g1 g2 X.hown X.hK h2 hD h3 q he hc k hkN (X.hts _ hl) (fun _ h => h) g3 g4 rfl rfl hl2 hd (fun H1 locs1 q1 _ q3 => kk ad H1 ls locs1 h1 (by rw [← hset]; exact q1) q3 h4)
  · exact va_putN X.hx X.hb X.hts hin ty0 g1 g2 X.hown X.hK h2 hD h3 q he hc k hkN (X.hts _ hl) (fun _ h => h) g3 g4 rfl rfl hl2 hd (fun H1 locs1 q1 _ q3 => kk ad H1 ls locs1 h1 (by rw [← hset]; exact q1) q3 h4)
/-- the roles turn -/
theorem t_out (f : Nat → Nat) (bs : List Bool) (hpm : pm = true) (hT : ∀ k, k < T.length → T1[f k]? = (T[k]?).map (ren f)) (hmv : ∀ i, mv i = false → f i = i) (hlt : ∀ i, i < T.length → f i < T.length) (hinj : ∀ i, i < T.length → ∀ j, j < T.length → f i = f j → i = j)
    (hL : (msk bs L).all (oko mv) = true) (hS : S.all (okv mv) = true) (k : Wm X pc (msk bs L) S (fun k => M (f k))) : Wt X T1 pc L S M := by
  intro ad H ls locs h1 h2 h3 h4
  have ha : agr mv pm T.length ad (fun k => ad (f k)) := by
    refine ⟨fun z => absurd z (by rw [hpm]; decide), fun i hi => by show ad (f i) = ad i; rw [hmv i hi], fun i j hi hj z => hinj i hi j hj (h1.2.2.1 _ _ (hlt i hi) (hlt j hj) z), fun i hi => ⟨f i, hlt i hi, rfl⟩⟩
  have hg : agr mv pm T.length a0 (fun k => ad (f k)) := agr_tr h1 ha (fun _ => hpm)
  have hw := k (fun k => ad (f k)) H ls locs hg (relabel hT h2) h3 (fix_L ha _ (Or.inr hL) (lvl_msk bs h4))
  rw [fix_S ha S (Or.inr hS)] at hw
  exact hw
end XRB
