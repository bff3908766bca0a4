/-! a world put together out of worlds -/
def mkT (n : Nat) (ad : Nat → Nat) (aK : Nat → ClassId) (T : List Sh) (M : Mm) : va_W := T.mapIdx (fun q h => (ad (n + q), en ad aK M (n + q) h))
section MT
variable {ad : Nat → Nat} {aK : Nat → ClassId} {M : Mm}
theorem mkW_cons (sh : Sh) (T : List Sh) : mkW ad aK (sh :: T) M = (ad 0, en ad aK M 0 sh) :: mkT 1 ad aK T M := by
  unfold mkW mkT
  rw [List.mapIdx_cons]
  congr 1
  apply List.ext_getElem?
  intro i
  rw [List.getElem?_mapIdx, List.getElem?_mapIdx, Nat.add_comm 1 i]
theorem mkT_app {n k : Nat} {T1 T2 : List Sh} (h : n + T1.length = k) : mkT n ad aK (T1 ++ T2) M = mkT n ad aK T1 M ++ mkT k ad aK T2 M := by
  subst h
  unfold mkT
  rw [List.mapIdx_append]
  congr 1
  apply List.ext_getElem?
  intro i
  rw [List.getElem?_mapIdx, List.getElem?_mapIdx, show n + (i + T1.length) = n + T1.length + i by omega]
theorem mkT_ren {n : Nat} {a1 : Nat → Nat} {M1 : Mm} {T : List Sh} (ha : ∀ k, k < T.length → ad (n + k) = a1 k) (hM : ∀ k, k < T.length → M (n + k) = M1 k) (hs : T.all (fun sh => (shr sh).all (fun q => decide (q < T.length))) = true) : mkT n ad aK (T.map (ren (fun k => n + k))) M = mkW a1 aK T M1 := by
  unfold mkT mkW
  apply List.ext_getElem?
  intro i
  rw [List.getElem?_mapIdx, List.getElem?_mapIdx, List.getElem?_map]
  cases hT : T[i]? with
  | none => rfl
  | some sh =>
    have hi := (List.getElem?_eq_some_iff.mp hT).1
    have hq : ∀ q ∈ shr sh, q < T.length := fun q hq => of_decide_eq_true (List.all_eq_true.mp (List.all_eq_true.mp hs sh (List.mem_of_getElem? hT)) q hq)
    show some (ad (n + i), en ad aK M (n + i) (ren (fun k => n + k) sh)) = some (a1 i, en a1 aK M1 i sh)
    rw [← en_ren (ad := ad) (M := M) (f := fun k => n + k) sh, ha i hi, en_congr (ad := a1) (ad' := fun k => ad (n + k)) (M := M1) (M' := fun k => M (n + k)) (i := i) (j := i) (fun q h => ha q (hq q h)) (hM i hi)]
end MT
def fvs (ad : Nat → Nat) (M : Mm) (q : Nat) : Nat → List (Option Nat) → List Value
  | _, [] => []
  | k, f :: l => fv ad M q k f :: fvs ad M q (k + 1) l
theorem fvs_eq (ad : Nat → Nat) (M : Mm) (q : Nat) : ∀ (l : List (Option Nat)) (k : Nat), l.mapIdx (fun j f => fv ad M q (k + j) f) = fvs ad M q k l
  | [], _ => rfl
  | f :: l, k => by
    rw [List.mapIdx_cons, fvs, ← fvs_eq ad M q l (k + 1)]
    congr 1
    apply List.ext_getElem?
    intro i
    rw [List.getElem?_mapIdx, List.getElem?_mapIdx, show k + (i + 1) = k + 1 + i by omega]
def ens (ad : Nat → Nat) (aK : Nat → ClassId) (M : Mm) : Nat → List Sh → va_W
  | _, [] => []
  | n, .inl o :: T => (ad n, .inr (o.1, fvs ad M n 0 o.2)) :: ens ad aK M (n + 1) T
  | n, .inr a :: T => (ad n, en ad aK M n (.inr a)) :: ens ad aK M (n + 1) T
theorem ens_eq (ad : Nat → Nat) (aK : Nat → ClassId) (M : Mm) : ∀ (T : List Sh) (n : Nat), mkT n ad aK T M = ens ad aK M n T
  | [], _ => rfl
  | sh :: T, n => by
    have ih := ens_eq ad aK M T (n + 1)
    have e : mkT n ad aK (sh :: T) M = (ad n, en ad aK M n sh) :: mkT (n + 1) ad aK T M := by
      unfold mkT
      rw [List.mapIdx_cons]
      congr 1
      apply List.ext_getElem?
      intro i
      rw [List.getElem?_mapIdx, List.getElem?_mapIdx, show n + (i + 1) = n + 1 + i by omega]
    rw [e, ih]
    cases sh with
    | inr a => rfl
    | inl o =>
      show (ad n, Sum.inr (o.1, o.2.mapIdx (fun k f => fv ad M n k f))) :: _ = (ad n, Sum.inr (o.1, fvs ad M n 0 o.2)) :: _
      rw [← fvs_eq ad M n o.2 0]
      have e2 : (fun (k : Nat) (f : Option Nat) => fv ad M n k f) = fun j f => fv ad M n (0 + j) f := by funext k f; rw [Nat.zero_add]
      rw [e2]
theorem mkW_ens (ad : Nat → Nat) (aK : Nat → ClassId) (M : Mm) (T : List Sh) : mkW ad aK T M = ens ad aK M 0 T := by
  rw [← ens_eq]
  unfold mkW mkT
  congr 1
  funext q h
  rw [Nat.zero_add]
