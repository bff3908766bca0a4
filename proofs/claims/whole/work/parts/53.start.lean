theorem hI_X : Cond.instantiable "PackedImage" 6 ∈ WA := wa 20 (by decide +kernel) rfl
theorem hI_Tr : Cond.instantiable "PackedImage$Tree" 6 ∈ WA := wa 28 (by decide +kernel) rfl
theorem hI_Bu : Cond.instantiable "PackedImage$Builder" 8 ∈ WA := wa 57 (by decide +kernel) rfl
theorem hI_Pa : Cond.instantiable "PackedImage$Packer" 9 ∈ WA := wa 66 (by decide +kernel) rfl
theorem hI_De : Cond.instantiable "PackedImage$Device" 6 ∈ WA := wa 130 (by decide +kernel) rfl
theorem hI_Ca : Cond.instantiable "PackedImage$Cache" 5 ∈ WA := wa 158 (by decide +kernel) rfl
theorem hI_Cl : Cond.instantiable "PackedImage$Cluster" 5 ∈ WA := wa 164 (by decide +kernel) rfl
theorem hI_R : Cond.instantiable "PackedImageModel" 28 ∈ WA := wa 792 (by decide +kernel) rfl
theorem nN_L_X : NI "PackedImageLaw" 8 64 0 yN_X 6 zN_X cN_X 1 := ⟨FX, GX, rfl, GwX, GtX, fun j hj => match j, hj with | 0, _ => rfl | 1, _ => rfl | 2, _ => rfl | 3, _ => rfl | 4, _ => rfl | 5, _ => rfl | k + 6, h => absurd h (by omega), wa 19 (by decide +kernel) rfl, wa 20 (by decide +kernel) rfl, wa 1 (by decide +kernel) rfl, wa 21 (by decide +kernel) rfl, wa 22 (by decide +kernel) rfl, oN_X, by decide, rfl, rfl⟩
theorem nN_L_R : NI "PackedImageLaw" 65 67 7 yN_R 28 zN_R cN_R 2 := ⟨FR, GR, rfl, GwR, GtR, fun j hj => match j, hj with | 0, _ => rfl | 1, _ => rfl | 2, _ => rfl | 3, _ => rfl | 4, _ => rfl | 5, _ => rfl | 6, _ => rfl | 7, _ => rfl | 8, _ => rfl | 9, _ => rfl | 10, _ => rfl | 11, _ => rfl | 12, _ => rfl | 13, _ => rfl | 14, _ => rfl | 15, _ => rfl | 16, _ => rfl | 17, _ => rfl | 18, _ => rfl | 19, _ => rfl | 20, _ => rfl | 21, _ => rfl | 22, _ => rfl | 23, _ => rfl | 24, _ => rfl | 25, _ => rfl | 26, _ => rfl | 27, _ => rfl | k + 28, h => absurd h (by omega), wa 791 (by decide +kernel) rfl, wa 792 (by decide +kernel) rfl, wa 9 (by decide +kernel) rfl, wa 793 (by decide +kernel) rfl, wa 794 (by decide +kernel) rfl, oN_R, by decide, rfl, rfl⟩
theorem arr_known {ty : FieldType} {args : Array Value} {s : State} (h : (Cond.arrayClass ty).before args s = true) (hra : ∀ cA, va_RA s cA ty = (s.vm.findClass ("[" ++ ty.toString) = some cA)) : ∃ cA, ArrOfT s cA ty ∧ va_RA s cA ty := by
  obtain ⟨cA, kA, comp, h1, h2, h3⟩ := Cond.arrayClass_spec h
  exact ⟨cA, fun n z => ⟨fun k h => (by cases h), kA, h2, comp, h3⟩, by rw [hra]; exact h1⟩
theorem all_known {args : Array Value} {s : State} (hts : ∀ w ∈ WA, w.before args s = true) : ∃ (D : va_G) (aK : Nat → ClassId), va_K D vwCl (tysK aK) s := by
  obtain ⟨c0, i0, k0⟩ := u_known hts GwX (hts _ hI_X)
  obtain ⟨c1, i1, k1⟩ := u_known hts GwTr (hts _ hI_Tr)
  obtain ⟨c2, i2, k2⟩ := u_known hts GwBu (hts _ hI_Bu)
  obtain ⟨c3, i3, k3⟩ := u_known hts GwPa (hts _ hI_Pa)
  obtain ⟨c4, i4, k4⟩ := u_known hts GwDe (hts _ hI_De)
  obtain ⟨c5, i5, k5⟩ := u_known hts GwCa (hts _ hI_Ca)
  obtain ⟨c6, i6, k6⟩ := u_known hts GwCl (hts _ hI_Cl)
  obtain ⟨c7, i7, k7⟩ := u_known hts GwR (hts _ hI_R)
  obtain ⟨d0, a0, b0⟩ := arr_known (hts _ nA_int) (fun _ => rfl)
  obtain ⟨d1, a1, b1⟩ := arr_known (hts _ nA_boolean) (fun _ => rfl)
  obtain ⟨d2, a2, b2⟩ := arr_known (hts _ nA_long) (fun _ => rfl)
  refine ⟨(fun c => match c with | 0 => c0 | 1 => c1 | 2 => c2 | 3 => c3 | 4 => c4 | 5 => c5 | 6 => c6 | 7 => c7 | _ => c0, fun c => match c with | 0 => i0 | 1 => i1 | 2 => i2 | 3 => i3 | 4 => i4 | 5 => i5 | 6 => i6 | 7 => i7 | _ => i0), fun k => match k with | 0 => d0 | 1 => d1 | _ => d2, fun c q hq => ?_, fun k q hk => ?_⟩
  · match c, hq with
    | 0, hq => cases hq; exact k0
    | 1, hq => cases hq; exact k1
    | 2, hq => cases hq; exact k2
    | 3, hq => cases hq; exact k3
    | 4, hq => cases hq; exact k4
    | 5, hq => cases hq; exact k5
    | 6, hq => cases hq; exact k6
    | 7, hq => cases hq; exact k7
    | c + 8, hq => cases hq
  · match k, hk with
    | 0, hk => cases hk; exact ⟨a0, b0⟩
    | 1, hk => cases hk; exact ⟨a1, b1⟩
    | 2, hk => cases hk; exact ⟨a2, b2⟩
    | k + 3, hk => cases hk
theorem nca_of {args : Array Value} {s : State} (h : (Jvm.Cond.and given_1 narrow_1).before args s = true) : NcA s := by
  have hf := flat_of_before _ h
  intro x hx
  have hm : ∀ x ∈ ncL, Cond.not (.castable x.1 x.2) ∈ flatC (Jvm.Cond.and given_1 narrow_1) := by decide +kernel
  exact va_Nc.of (hf _ (hm x hx))
theorem ths_of {b : Nat} {s : State} (hts : ∀ w ∈ lw_tbl, w.before #[Value.ref b] s = true) (h : (Jvm.Cond.and given_1 narrow_1).before #[Value.ref b] s = true) : ThS (fun q => s.heap.size ≤ q) s := by
  have hf := flat_of_before _ h
  have hlt : ∀ a : Nat, a < s.heap.size → ¬ s.heap.size ≤ a := fun a ha => Nat.not_le.mpr ha
  exact ⟨Zs.of (hts _ (List.mem_append_right _ (List.mem_of_getElem? (i := 281) (by decide +kernel)))) (hf _ (by decide +kernel)) hlt, Zs.of (hts _ (List.mem_append_right _ (List.mem_of_getElem? (i := 283) (by decide +kernel)))) (hf _ (by decide +kernel)) hlt⟩
def a9 (b : Nat) (aX aR : Nat → Nat) (q : Nat) : Nat → Nat := fun i => if i = 999 then b else if i < 27 then aX i else if i < 46 then aR (i - 27) else q
def M9 : Mm := fun k => if k < 27 then MN_X k else if k < 46 then MN_R (k - 27) else fun _ => 0
theorem mkW_T0 {ad : Nat → Nat} {aK : Nat → ClassId} {T : List Sh} {M : Mm} : mkW ad aK T M = mkT 0 ad aK T M := by rw [mkW_ens, ens_eq]
theorem tile9 {aK : Nat → ClassId} (b : Nat) (aX aR : Nat → Nat) (q : Nat) : (mkW aX aK TN_X MN_X ++ mkW aR aK TN_R MN_R) ++ [(q, .inl (aK 2, (1, .inr (.inl (fun _ => 0)))))] = mkW (a9 b aX aR q) aK TU M9 := by
  rw [mkW_T0 (T := TU), show TU = (TN_X.map (ren (fun k => 0 + k)) ++ TN_R.map (ren (fun k => 27 + k))) ++ [.inr (2, 1)] from by decide +kernel, mkT_app (k := 46) rfl, mkT_app (k := 27) rfl]
  rw [mkT_ren (ad := a9 b aX aR q) (M := M9) (T := TN_X) (n := 0) (a1 := aX) (M1 := MN_X) (fun k (hk : k < 27) => by rw [Nat.zero_add]; unfold a9; rw [if_neg (by omega), if_pos hk]) (fun k (hk : k < 27) => by rw [Nat.zero_add]; unfold M9; rw [if_pos hk]) (by decide +kernel),
    mkT_ren (ad := a9 b aX aR q) (M := M9) (T := TN_R) (n := 27) (a1 := aR) (M1 := MN_R) (fun k (hk : k < 19) => by unfold a9; rw [if_neg (by omega), if_neg (by omega), if_pos (by omega), show 27 + k - 27 = k by omega]) (fun k (hk : k < 19) => by unfold M9; rw [if_neg (by omega), if_pos (by omega), show 27 + k - 27 = k by omega]) (by decide +kernel)]
  rfl
section NS
variable {p : Program} {l : Launch} {e : Env} {R : Room} {s : State} {m : MethodId} {args : Array Value} {below : List Frame} {meth : Method} {c : Code} {D : va_G} {aK : Nat → ClassId} {T : List Sh} {mv : Nat → Bool} {pm : Bool} {a0 : Nat → Nat} {own : String} {cc : ByteArray} {nL : Nat} {ret : Option FieldType} {nh : Bool} {A : Nat → Prop} {Q : State → Prop} {nc ns : Nat}
variable {X : Cx p l e R s m args below meth c D aK T mv pm a0 own cc nL ret nh A Q nc ns} {i j pc : Nat} {L : List (Nat × Value)} {S : List Value} {E : va_W}
theorem n_astore {n : Fin 4} {x : Nat} {L' : List (Nat × Value)} (hd : decode cc pc = .ok (.astore_n n, 1)) (hn : (n : Nat) < nL) (hF : L.filter (fun q => !(q.1 == (n : Nat)) && !(q.1 + 1 == (n : Nat) && q.2.category == 2)) = L') (k : Wn X i j (pc + 1) (((n : Nat), .ref x) :: L') S E) : Wn X i j pc L (.ref x :: S) E := fun H ls locs h1 h2 h3 h4 => lv_astore_n X.hx X.hb hd rfl h4 hn rfl (fun ls' h => k H ls' locs h1 h2 h3 (by rw [← hF]; exact h))
theorem n_istoreI {n : Nat} {x : Int} {L' : List (Nat × Value)} (hd : decode cc pc = .ok (.istore n, 2)) (hn : n < nL) (hF : L.filter (fun q => !(q.1 == n) && !(q.1 + 1 == n && q.2.category == 2)) = L') (k : Wn X i j (pc + 2) ((n, .int (oI x)) :: L') S E) : Wn X i j pc L (.int (oI x) :: S) E := fun H ls locs h1 h2 h3 h4 => lv_istore X.hx X.hb hd h4 hn rfl (fun ls' h => k H ls' locs h1 h2 h3 (by rw [← hF]; exact h))
end NS
set_option maxHeartbeats 2000000 in
set_option maxRecDepth 20000 in
theorem start_of {Rl : Mm → Mm → Prop} (hops : Ops Rl) (hini : Rl MN_X MN_R) {p : Program} {e : Env} {s : State} {m : MethodId} {below : List Frame} {meth : Method} {c : Code} (l : Launch) (hl : l.stackTraces = false) {b L : Nat} {xs : Nat → Int32} (hL : L ≤ 2048) (C0 : lw_At p s m meth c b L xs) : W p l e room_1 s m #[Value.ref b] below meth c s.heap [] 0 0 (lw_Z below #[Value.ref b] s) (entryFrame m ([Value.ref b] : List Value).toArray 7) := by
  obtain ⟨hx, hcb, hr, hml, hown, hts0, hXs, hbl, hlocks, hgv⟩ := C0
  have hts : ∀ w ∈ WA, w.before #[Value.ref b] s = true := fun w hw => hts0 w (List.mem_filter.mp hw).1
  obtain ⟨D, aK, hK⟩ := all_known hts
  have hnc := nca_of hgv
  have hth := ths_of hts0 hgv
  have hns : ∀ (q : Nat) (cell : Cell), s.heap.size ≤ q → s.heap[q]? = some cell → cell.vm.isStatics = false := fun q cell hq hc => absurd (Array.getElem?_eq_some_iff.mp hc).1 (by omega)
  have X0 : Cx p l e room_1 s m #[Value.ref b] below meth c D aK [] (fun _ => false) false (fun _ => 0) "PackedImageLaw" code 7 ret false (fun q => s.heap.size ≤ q) (lw_Z below #[Value.ref b] s) 0 0 :=
    ⟨hx, hcb, hml, hts, hown, hK, hlocks, hr, (fun z => nomatch z), hl, hth, hns, fun i hi => absurd hi (Nat.not_lt_zero _), fun q hq => hq⟩
  have key : Wn X0 0 0 0 [(0, .ref b)] [] [] := by
    refine n_new nN_L_X (kN_X hl) ⟨Nat.le_of_ble_eq_true rfl, Nat.le_of_ble_eq_true rfl, Nat.le_of_ble_eq_true rfl, Nat.le_of_ble_eq_true rfl, Nat.le_of_ble_eq_true rfl, Nat.le_of_ble_eq_true rfl⟩ (Nat.le_of_ble_eq_true rfl) dM_0 dM_3 dM_4 (fun aX => ?_)
    refine n_ar (i' := 27) (j' := 4797) rfl rfl ?_
    refine n_eq (E' := mkW aX aK TN_X MN_X) (List.nil_append _) ?_
    refine n_astore (L' := [(0, .ref b)]) dM_7 (by decide) rfl ?_
    refine n_new nN_L_R (kN_R hl) ⟨Nat.le_of_ble_eq_true rfl, Nat.le_of_ble_eq_true rfl, Nat.le_of_ble_eq_true rfl, Nat.le_of_ble_eq_true rfl, Nat.le_of_ble_eq_true rfl, Nat.le_of_ble_eq_true rfl⟩ (Nat.le_of_ble_eq_true rfl) dM_8 dM_11 dM_12 (fun aR => ?_)
    refine n_ar (i' := 46) (j' := 9281) rfl rfl ?_
    refine n_astore (L' := [(1, .ref (aX 0)), (0, .ref b)]) dM_15 (by decide) rfl ?_
    refine n_iconst dM_16 ?_
    refine n_newl (N := 1) nA_long (by decide) ⟨Nat.le_of_ble_eq_true rfl, Nat.le_of_ble_eq_true rfl⟩ dM_17 (fun q => ?_)
    refine n_astore (L' := [(2, .ref (aR 0)), (1, .ref (aX 0)), (0, .ref b)]) dM_19 (by decide) rfl ?_
    refine n_iconst dM_20 ?_
    refine n_istoreI (L' := [(3, .ref q), (2, .ref (aR 0)), (1, .ref (aX 0)), (0, .ref b)]) dM_21 (by decide) rfl ?_
    intro H ls locs h1 h2 h3 h4
    rw [tile9 b aX aR q] at h1 h2
    have hat : ∀ k, k < TU.length → ∃ z, (mkW (a9 b aX aR q) aK TU M9)[k]? = some (a9 b aX aR q k, z) := fun k hk => ⟨_, mkW_at (List.getElem?_eq_getElem hk)⟩
    have X1 : Cl p l e s m b below meth c D aK (a9 b aX aR q) 0 0 :=
      ⟨hx, hcb, hml, hts, hown, hK, hlocks, hr, (fun z => nomatch z), hl, hth, hns, fun k hk => by obtain ⟨z, hz⟩ := hat k hk; exact h2.2 _ _ hz, fun q hq => hq⟩
    have hinj : ∀ i j, i < TU.length → j < TU.length → a9 b aX aR q i = a9 b aX aR q j → i = j := fun i j hi hj h => by obtain ⟨z, hz⟩ := hat i hi; obtain ⟨z', hz'⟩ := hat j hj; exact h2.1 _ _ _ _ hz hz' h
    have hR : RU Rl M9 := hops.1 _ _ _ _ (fun k hk => by unfold M9; rw [if_pos hk]) (fun k hk => by show M9 (27 + k) = MN_R k; unfold M9; rw [if_neg (by omega), if_pos (by omega), show 27 + k - 27 = k by omega]) hini
    refine z_loop hops X1 hnc hXs hbl rfl hL 512 47 9282 0 M9 (by decide) (by decide) (by omega) (by decide) (by decide) hR (a9 b aX aR q) H ls locs (agr_rf hinj) h1 h3 ⟨h4.1, h4.2.1, fun z hz => h4.2.2 z ?_⟩
    obtain ⟨k, v, hk, rfl⟩ := mem_lvl.mp hz
    match k, hk with
    | 0, hk => cases hk; exact List.mem_of_getElem? (i := 4) rfl
    | 1, hk => cases hk; exact List.mem_of_getElem? (i := 3) rfl
    | 2, hk => cases hk; exact List.mem_of_getElem? (i := 2) rfl
    | 3, hk => cases hk; exact List.mem_of_getElem? (i := 1) rfl
    | 4, hk => cases hk; exact List.mem_of_getElem? (i := 0) rfl
    | 5, hk => cases hk
    | 6, hk => cases hk
    | k + 7, hk => cases hk
  rw [lg_entry_eq]
  exact key s.heap _ [] (fun k x hx => nomatch hx) ⟨(fun a b x y hx => nomatch hx), (fun k x hx => nomatch hx)⟩ va_S.rf (lv_entry ([.ref b]) (n := 7) (Nat.le_of_ble_eq_true rfl))
