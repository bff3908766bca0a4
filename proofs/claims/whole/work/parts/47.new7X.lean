set_option maxHeartbeats 400000 in
set_option maxRecDepth 20000 in
theorem kN_X {l : Launch} (hl : l.stackTraces = false) : CtN l yN_X { frames := 3, cells := 26, slots := 4791, locals := 52 } 0 zN_X TN_X MN_X 26 4791 := by
  refine ctn_of hl (by decide) oN_X (Nat.le_of_ble_eq_true rfl) (fun {p e s m args below meth c D aK h} X hin => ?_)
  refine n_aload 0 dN_X_0 rfl ?_
  refine n_obj (wa 24 (by decide +kernel) rfl) nOi ⟨Nat.le_of_ble_eq_true rfl, Nat.le_of_ble_eq_true rfl⟩ dN_X_1 ?_
  refine n_aload 0 dN_X_4 rfl ?_
  refine n_new nN_X_7_Tr (kN_Tr hl) ⟨Nat.le_of_ble_eq_true rfl, Nat.le_of_ble_eq_true rfl, Nat.le_of_ble_eq_true rfl, Nat.le_of_ble_eq_true rfl, Nat.le_of_ble_eq_true rfl, Nat.le_of_ble_eq_true rfl⟩ (Nat.le_of_ble_eq_true rfl) dN_X_5 dN_X_8 dN_X_9 (fun a1 => ?_)
  refine n_ar (i' := 6) (j' := 1430) rfl rfl ?_
  refine n_eq (E' := (h, .inr (0, [.null, .null, .null, .null, .null, .int (oI 0)])) :: (mkW a1 aK TN_Tr MN_Tr ++ ([]))) rfl ?_
  refine n_putF fN_X_10 hin rfl rfl (Nat.le_of_ble_eq_true rfl) dN_X_12 ?_
  refine n_eq (E' := (h, .inr (0, [.ref (a1 0), .null, .null, .null, .null, .int (oI 0)])) :: (mkW a1 aK TN_Tr MN_Tr ++ ([]))) rfl ?_
  refine n_aload 0 dN_X_15 rfl ?_
  refine n_new nN_X_16_Bu (kN_Bu hl) ⟨Nat.le_of_ble_eq_true rfl, Nat.le_of_ble_eq_true rfl, Nat.le_of_ble_eq_true rfl, Nat.le_of_ble_eq_true rfl, Nat.le_of_ble_eq_true rfl, Nat.le_of_ble_eq_true rfl⟩ (Nat.le_of_ble_eq_true rfl) dN_X_16 dN_X_19 dN_X_20 (fun a2 => ?_)
  refine n_ar (i' := 15) (j' := 2830) rfl rfl ?_
  refine n_eq (E' := (h, .inr (0, [.ref (a1 0), .null, .null, .null, .null, .int (oI 0)])) :: (mkW a1 aK TN_Tr MN_Tr ++ ((mkW a2 aK TN_Bu MN_Bu ++ ([]))))) rfl ?_
  refine n_putF fN_X_19 hin rfl rfl (Nat.le_of_ble_eq_true rfl) dN_X_23 ?_
  refine n_eq (E' := (h, .inr (0, [.ref (a1 0), .ref (a2 0), .null, .null, .null, .int (oI 0)])) :: (mkW a1 aK TN_Tr MN_Tr ++ ((mkW a2 aK TN_Bu MN_Bu ++ ([]))))) rfl ?_
  refine n_aload 0 dN_X_26 rfl ?_
  refine n_new nN_X_23_De (kN_De hl) ⟨Nat.le_of_ble_eq_true rfl, Nat.le_of_ble_eq_true rfl, Nat.le_of_ble_eq_true rfl, Nat.le_of_ble_eq_true rfl, Nat.le_of_ble_eq_true rfl, Nat.le_of_ble_eq_true rfl⟩ (Nat.le_of_ble_eq_true rfl) dN_X_27 dN_X_30 dN_X_31 (fun a3 => ?_)
  refine n_ar (i' := 18) (j' := 3986) rfl rfl ?_
  refine n_eq (E' := (h, .inr (0, [.ref (a1 0), .ref (a2 0), .null, .null, .null, .int (oI 0)])) :: (mkW a1 aK TN_Tr MN_Tr ++ ((mkW a2 aK TN_Bu MN_Bu ++ ((mkW a3 aK TN_De MN_De ++ ([]))))))) rfl ?_
  refine n_putF fN_X_26 hin rfl rfl (Nat.le_of_ble_eq_true rfl) dN_X_34 ?_
  refine n_eq (E' := (h, .inr (0, [.ref (a1 0), .ref (a2 0), .ref (a3 0), .null, .null, .int (oI 0)])) :: (mkW a1 aK TN_Tr MN_Tr ++ ((mkW a2 aK TN_Bu MN_Bu ++ ((mkW a3 aK TN_De MN_De ++ ([]))))))) rfl ?_
  refine n_aload 0 dN_X_37 rfl ?_
  refine n_new nN_X_30_Ca (kN_Ca hl) ⟨Nat.le_of_ble_eq_true rfl, Nat.le_of_ble_eq_true rfl, Nat.le_of_ble_eq_true rfl, Nat.le_of_ble_eq_true rfl, Nat.le_of_ble_eq_true rfl, Nat.le_of_ble_eq_true rfl⟩ (Nat.le_of_ble_eq_true rfl) dN_X_38 dN_X_41 dN_X_42 (fun a4 => ?_)
  refine n_ar (i' := 25) (j' := 4771) rfl rfl ?_
  refine n_eq (E' := (h, .inr (0, [.ref (a1 0), .ref (a2 0), .ref (a3 0), .null, .null, .int (oI 0)])) :: (mkW a1 aK TN_Tr MN_Tr ++ ((mkW a2 aK TN_Bu MN_Bu ++ ((mkW a3 aK TN_De MN_De ++ ((mkW a4 aK TN_Ca MN_Ca ++ ([]))))))))) rfl ?_
  refine n_putF fN_X_33 hin rfl rfl (Nat.le_of_ble_eq_true rfl) dN_X_45 ?_
  refine n_eq (E' := (h, .inr (0, [.ref (a1 0), .ref (a2 0), .ref (a3 0), .ref (a4 0), .null, .int (oI 0)])) :: (mkW a1 aK TN_Tr MN_Tr ++ ((mkW a2 aK TN_Bu MN_Bu ++ ((mkW a3 aK TN_De MN_De ++ ((mkW a4 aK TN_Ca MN_Ca ++ ([]))))))))) rfl ?_
  refine n_aload 0 dN_X_48 rfl ?_
  refine n_bipush dN_X_49 (by decide) ?_
  refine n_newi (N := 20) nA_int (by decide) ⟨Nat.le_of_ble_eq_true rfl, Nat.le_of_ble_eq_true rfl⟩ dN_X_51 (fun q5 => ?_)
  refine n_eq (E' := (h, .inr (0, [.ref (a1 0), .ref (a2 0), .ref (a3 0), .ref (a4 0), .null, .int (oI 0)])) :: (mkW a1 aK TN_Tr MN_Tr ++ ((mkW a2 aK TN_Bu MN_Bu ++ ((mkW a3 aK TN_De MN_De ++ ((mkW a4 aK TN_Ca MN_Ca ++ ((q5, .inl (aK 0, (20, .inl (fun _ => oI 0)))) :: []))))))))) rfl ?_
  refine n_putF fN_X_37 hin rfl rfl (Nat.le_of_ble_eq_true rfl) dN_X_53 ?_
  refine n_eq (E' := (h, .inr (0, [.ref (a1 0), .ref (a2 0), .ref (a3 0), .ref (a4 0), .ref q5, .int (oI 0)])) :: (mkW a1 aK TN_Tr MN_Tr ++ ((mkW a2 aK TN_Bu MN_Bu ++ ((mkW a3 aK TN_De MN_De ++ ((mkW a4 aK TN_Ca MN_Ca ++ ((q5, .inl (aK 0, (20, .inl (fun _ => oI 0)))) :: []))))))))) rfl ?_
  refine n_aload 0 dN_X_56 rfl ?_
  refine n_iconst dN_X_57 ?_
  refine n_put gN_X_41 pN_X_41 rfl rfl (Nat.le_of_ble_eq_true rfl) dN_X_58 ?_
  refine n_eq (E' := (h, .inr (0, [.ref (a1 0), .ref (a2 0), .ref (a3 0), .ref (a4 0), .ref q5, .int (oI (0))])) :: (mkW a1 aK TN_Tr MN_Tr ++ ((mkW a2 aK TN_Bu MN_Bu ++ ((mkW a3 aK TN_De MN_De ++ ((mkW a4 aK TN_Ca MN_Ca ++ ((q5, .inl (aK 0, (20, .inl (fun _ => oI 0)))) :: []))))))))) rfl ?_
  refine n_ret (adX h a1 a2 a3 a4 q5) rfl ?_ ⟨Nat.le_of_ble_eq_true rfl, Nat.le_of_ble_eq_true rfl⟩ dN_X_61
  rw [show TN_X = .inl (0, [some 1, some 7, some 16, some 19, some 26, none]) :: (TN_Tr.map (ren (fun k => 1 + k)) ++ (TN_Bu.map (ren (fun k => 7 + k)) ++ (TN_De.map (ren (fun k => 16 + k)) ++ (TN_Ca.map (ren (fun k => 19 + k)) ++ [.inr (0, 20)])))) from rfl, mkW_cons, mkT_app (k := 7) rfl, mkT_app (k := 16) rfl, mkT_app (k := 19) rfl, mkT_app (k := 26) rfl]
  rw [mkT_ren (ad := adX h a1 a2 a3 a4 q5) (M := MN_X) (T := TN_Tr) (n := 1) (a1 := a1) (M1 := MN_Tr) (fun k (hk : k < 6) => catx (by omega) (by omega) (by omega)) (fun k (hk : k < 6) => catx (by omega) (by omega) (by omega)) (by decide +kernel), mkT_ren (ad := adX h a1 a2 a3 a4 q5) (M := MN_X) (T := TN_Bu) (n := 7) (a1 := a2) (M1 := MN_Bu) (fun k (hk : k < 9) => catx2 (by omega) (by omega) (by omega) (by omega)) (fun k (hk : k < 9) => catx2 (by omega) (by omega) (by omega) (by omega)) (by decide +kernel), mkT_ren (ad := adX h a1 a2 a3 a4 q5) (M := MN_X) (T := TN_De) (n := 16) (a1 := a3) (M1 := MN_De) (fun k (hk : k < 3) => catx3 (by omega) (by omega) (by omega) (by omega) (by omega)) (fun k (hk : k < 3) => catx3 (by omega) (by omega) (by omega) (by omega) (by omega)) (by decide +kernel), mkT_ren (ad := adX h a1 a2 a3 a4 q5) (M := MN_X) (T := TN_Ca) (n := 19) (a1 := a4) (M1 := MN_Ca) (fun k (hk : k < 7) => catx4 (by omega) (by omega) (by omega) (by omega) (by omega) (by omega)) (fun k (hk : k < 7) => catx4 (by omega) (by omega) (by omega) (by omega) (by omega) (by omega)) (by decide +kernel)]
  rfl
