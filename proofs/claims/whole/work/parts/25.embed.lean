/-! A side's contract inside a larger world -/
def shr (sh : Sh) : List Nat := match sh with
  | .inl o => o.2.filterMap id
  | .inr _ => []
theorem en_congr {ad ad' : Nat → Nat} {aK : Nat → ClassId} {M M' : Mm} {i j : Nat} {sh : Sh} (h1 : ∀ q ∈ shr sh, ad' q = ad q) (h2 : M' i = M j) : en ad' aK M' i sh = en ad aK M j sh := by
  cases sh with
  | inl o =>
    show Sum.inr (o.1, _) = Sum.inr (o.1, _)
    congr 2
    apply List.ext_getElem?
    intro k
    rw [List.getElem?_mapIdx, List.getElem?_mapIdx]
    cases hk : o.2[k]? with
    | none => rfl
    | some z =>
      cases z with
      | none =>
        show some (Value.int (oI (M' i k))) = some (Value.int (oI (M j k)))
        rw [h2]
      | some q =>
        show some (Value.ref (ad' q)) = some (Value.ref (ad q))
        rw [h1 q (List.mem_filterMap.mpr ⟨some q, List.mem_of_getElem? hk, rfl⟩)]
  | inr a => simp only [en, h2]
def emv (f : Nat → Nat) (v : Vv) : Vv := match v with
  | .inl x => .inl x
  | .inr q => .inr (f q)
def mrg (g : Nat → Option Nat) (M' MU : Mm) : Mm := fun j => match g j with
  | some k => M' k
  | none => MU j
def adm (g : Nat → Option Nat) (a1 ad : Nat → Nat) : Nat → Nat := fun j => match g j with
  | some k => a1 k
  | none => ad j
theorem mrg_s {g : Nat → Option Nat} {M' MU : Mm} {j k : Nat} (h : g j = some k) : mrg g M' MU j = M' k := by simp only [mrg, h]
theorem mrg_n {g : Nat → Option Nat} {M' MU : Mm} {j : Nat} (h : g j = none) : mrg g M' MU j = MU j := by simp only [mrg, h]
theorem adm_s {g : Nat → Option Nat} {a1 ad : Nat → Nat} {j k : Nat} (h : g j = some k) : adm g a1 ad j = a1 k := by simp only [adm, h]
theorem adm_n {g : Nat → Option Nat} {a1 ad : Nat → Nat} {j : Nat} (h : g j = none) : adm g a1 ad j = ad j := by simp only [adm, h]
/-- how one world lies in another -/
def Emb (T TU : List Sh) (mv mvU : Nat → Bool) (f : Nat → Nat) (g : Nat → Option Nat) : Prop :=
  (∀ k, k < T.length → TU[f k]? = (T[k]?).map (ren f)) ∧ (∀ k, k < T.length → g (f k) = some k) ∧ (∀ j k, g j = some k → k < T.length ∧ j = f k) ∧ (∀ (k : Nat) (sh : Sh), T[k]? = some sh → ∀ q ∈ shr sh, q < T.length) ∧ (∀ (j : Nat) (sh : Sh), TU[j]? = some sh → g j = none → ∀ q ∈ shr sh, g q = none) ∧ (∀ k, k < T.length → mvU (f k) = mv k)
set_option maxHeartbeats 1000000 in
theorem ct_emb {l : Launch} {y : MethodName} {rm : Room} {T TU : List Sh} {mv mvU : Nat → Bool} {pm : Bool} {ret : Option FieldType} {avs : List Vv} {MU : Mm} {r : Nat × Int × Mm} {f : Nat → Nat} {g : Nat → Option Nat} (hE : Emb T TU mv mvU f g) (hc : Ct l y rm T mv pm ret avs (fun k => MU (f k)) r) : Ct l y rm TU mvU pm ret (avs.map (emv f)) MU (r.1, r.2.1, mrg g r.2.2 MU) := by
  obtain ⟨e1, e2, e3, e4, e5, e6⟩ := hE
  have hlt : ∀ k, k < T.length → f k < TU.length := by
    intro k hk
    have h := e1 k hk
    rw [List.getElem?_eq_getElem hk] at h
    exact (List.getElem?_eq_some_iff.mp h).1
  have hfi : ∀ i, i < T.length → ∀ j, j < T.length → f i = f j → i = j := by
    intro i hi j hj h
    have h1 := e2 i hi
    rw [h, e2 j hj] at h1
    exact (Option.some.inj h1).symm
  intro D aK ad
  refine Jvm.Free.MetFree.mono (hc D aK (fun k => ad (f k))) (fun a U hP => ?_) (fun _ _ _ _ _ _ => trivial) (fun a U o t hP hQ => ?_)
  · obtain ⟨p1, p2, p3, p4, p5⟩ := hP
    have hsub : ∀ q, AA (fun k => ad (f k)) T.length U.heap.size q → AA ad TU.length U.heap.size q := by
      intro q hq
      rcases hq with ⟨i, hi, rfl⟩ | hq
      · exact Or.inl ⟨f i, hlt i hi, rfl⟩
      · exact Or.inr hq
    refine ⟨?_, relabel e1 p2, p3, fun i j hi hj h => hfi i hi j hj (p4 _ _ (hlt i hi) (hlt j hj) h), p5.1.narrow hsub, p5.2.narrow hsub⟩
    rw [p1, List.map_map]
    congr 1
    apply List.map_congr_left
    intro v _
    cases v <;> rfl
  · obtain ⟨p1, p2, p3, p4, p5⟩ := hP
    obtain ⟨a1, L, k, n, f1, f2, f3, f4, f5, f6, f7, f8⟩ := hQ
    have hsub : ∀ q, AA (fun k => ad (f k)) T.length U.heap.size q → AA ad TU.length U.heap.size q := by
      intro q hq
      rcases hq with ⟨i, hi, rfl⟩ | hq
      · exact Or.inl ⟨f i, hlt i hi, rfl⟩
      · exact Or.inr hq
    have himg : ∀ k, k < T.length → ∃ i, i < T.length ∧ a1 k = ad (f i) := fun k hk => f1.2.2.2 k hk
    have hag : agr mvU pm TU.length ad (adm g a1 ad) := by
      refine ⟨fun z => ?_, fun i hi => ?_, fun i j hi hj h => ?_, fun i hi => ?_⟩
      · funext j
        cases hj : g j with
        | none => exact adm_n hj
        | some k =>
          rw [adm_s hj, f1.1 z, (e3 j k hj).2]
      · cases hj : g i with
        | none => exact adm_n hj
        | some k =>
          obtain ⟨hk, hik⟩ := e3 i k hj
          rw [adm_s hj, f1.2.1 k (by rw [← e6 k hk, ← hik]; exact hi), hik]
      · cases hgi : g i with
        | none =>
          cases hgj : g j with
          | none => rw [adm_n hgi, adm_n hgj] at h; exact p4 i j hi hj h
          | some k' =>
            obtain ⟨hk', hjk⟩ := e3 j k' hgj
            rw [adm_n hgi, adm_s hgj] at h
            obtain ⟨z, hz, hz2⟩ := himg k' hk'
            have := p4 i (f z) hi (hlt z hz) (h.trans hz2)
            rw [this, e2 z hz] at hgi
            cases hgi
        | some k =>
          obtain ⟨hk, hik⟩ := e3 i k hgi
          cases hgj : g j with
          | none =>
            rw [adm_s hgi, adm_n hgj] at h
            obtain ⟨z, hz, hz2⟩ := himg k hk
            have := p4 (f z) j (hlt z hz) hj (hz2.symm.trans h)
            rw [← this, e2 z hz] at hgj
            cases hgj
          | some k' =>
            obtain ⟨hk', hjk⟩ := e3 j k' hgj
            rw [adm_s hgi, adm_s hgj] at h
            rw [hik, hjk, f1.2.2.1 k k' hk hk' h]
      · cases hj : g i with
        | none => exact ⟨i, hi, adm_n hj⟩
        | some k =>
          obtain ⟨hk, hik⟩ := e3 i k hj
          obtain ⟨z, hz, hz2⟩ := himg k hk
          exact ⟨f z, hlt z hz, by rw [adm_s hj]; exact hz2⟩
    refine ⟨adm g a1 ad, L, k, n, hag, f2, f3, fun q hq => hsub _ (f4 q hq), ?_, f6, fun q q1 q2 => f7 q q1 (fun z => q2 (hsub q z)), f8⟩
    intro j q hq
    obtain ⟨sh, h1, rfl⟩ := mkW_inv hq
    cases hj : g j with
    | some k =>
      obtain ⟨hk, hjk⟩ := e3 j k hj
      have hTk : T[k]? = some T[k] := List.getElem?_eq_getElem hk
      have h2 := e1 k hk
      rw [hTk, ← hjk, h1] at h2
      have hsh : sh = ren f T[k] := Option.some.inj h2
      have h5 := f5 k _ (mkW_at hTk)
      rw [adm_s hj]
      have e : en (adm g a1 ad) aK (mrg g r.2.2 MU) j sh = en a1 aK r.2.2 k T[k] := by
        rw [hsh, hjk, ← en_ren]
        refine en_congr (fun q hq => ?_) ?_
        · show adm g a1 ad (f q) = a1 q
          exact adm_s (e2 q (e4 k _ hTk q hq))
        · show mrg g r.2.2 MU (f k) = r.2.2 k
          exact mrg_s (e2 k hk)
      rw [e]
      exact h5
    | none =>
      have h0 := p2 j _ (mkW_at h1)
      rw [adm_n hj]
      have e : en (adm g a1 ad) aK (mrg g r.2.2 MU) j sh = en ad aK MU j sh := en_congr (fun q hq => adm_n (e5 j sh h1 hj q hq)) (mrg_n hj)
      rw [e]
      have hjl := (List.getElem?_eq_some_iff.mp h1).1
      refine h0.kept (f7 (ad j) h0.lt (fun z => ?_))
      rcases z with ⟨i, hi, hij⟩ | z
      · have := p4 j (f i) hjl (hlt i hi) hij
        rw [this, e2 i hi] at hj
        cases hj
      · exact absurd h0.lt (Nat.not_lt.mpr z)
/-! the union: the class's cells, the reference's, the law's row of one long -/
def TU : List Sh := TX ++ TR.map (ren (fun k => 27 + k)) ++ [.inr (2, 1)]
def mvU (q : Nat) : Bool := mvX q
def gX (j : Nat) : Option Nat := if j < 27 then some j else none
def gR (j : Nat) : Option Nat := if 27 ≤ j ∧ j < 46 then some (j - 27) else none
