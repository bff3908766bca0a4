set_option maxHeartbeats 400000 in
set_option maxRecDepth 20000 in
theorem kN_Tr {l : Launch} (hl : l.stackTraces = false) : CtN l yN_Tr { frames := 1, cells := 6, slots := 1430, locals := 23 } 1 zN_Tr TN_Tr MN_Tr 5 1424 := by
  refine ctn_of hl (by decide) oN_Tr (Nat.le_of_ble_eq_true rfl) (fun {p e s m args below meth c D aK h} X hin => ?_)
  refine n_aload 0 dN_Tr_0 rfl ?_
  refine n_obj (wa 32 (by decide +kernel) rfl) nOi ⟨Nat.le_of_ble_eq_true rfl, Nat.le_of_ble_eq_true rfl⟩ dN_Tr_1 ?_
  refine n_aload 0 dN_Tr_4 rfl ?_
  refine n_bipush dN_Tr_5 (by decide) ?_
  refine n_newi (N := 16) nA_int (by decide) ⟨Nat.le_of_ble_eq_true rfl, Nat.le_of_ble_eq_true rfl⟩ dN_Tr_7 (fun q1 => ?_)
  refine n_eq (E' := (h, .inr (1, [.null, .null, .null, .null, .null, .int (oI 0)])) :: (q1, .inl (aK 0, (16, .inl (fun _ => oI 0)))) :: []) rfl ?_
  refine n_putF fN_Tr_9 hin rfl rfl (Nat.le_of_ble_eq_true rfl) dN_Tr_9 ?_
  refine n_eq (E' := (h, .inr (1, [.ref q1, .null, .null, .null, .null, .int (oI 0)])) :: (q1, .inl (aK 0, (16, .inl (fun _ => oI 0)))) :: []) rfl ?_
  refine n_aload 0 dN_Tr_12 rfl ?_
  refine n_bipush dN_Tr_13 (by decide) ?_
  refine n_newi (N := 16) nA_int (by decide) ⟨Nat.le_of_ble_eq_true rfl, Nat.le_of_ble_eq_true rfl⟩ dN_Tr_15 (fun q2 => ?_)
  refine n_eq (E' := (h, .inr (1, [.ref q1, .null, .null, .null, .null, .int (oI 0)])) :: (q1, .inl (aK 0, (16, .inl (fun _ => oI 0)))) :: (q2, .inl (aK 0, (16, .inl (fun _ => oI 0)))) :: []) rfl ?_
  refine n_putF fN_Tr_15 hin rfl rfl (Nat.le_of_ble_eq_true rfl) dN_Tr_17 ?_
  refine n_eq (E' := (h, .inr (1, [.ref q1, .ref q2, .null, .null, .null, .int (oI 0)])) :: (q1, .inl (aK 0, (16, .inl (fun _ => oI 0)))) :: (q2, .inl (aK 0, (16, .inl (fun _ => oI 0)))) :: []) rfl ?_
  refine n_aload 0 dN_Tr_20 rfl ?_
  refine n_bipush dN_Tr_21 (by decide) ?_
  refine n_newi (N := 16) nA_int (by decide) ⟨Nat.le_of_ble_eq_true rfl, Nat.le_of_ble_eq_true rfl⟩ dN_Tr_23 (fun q3 => ?_)
  refine n_eq (E' := (h, .inr (1, [.ref q1, .ref q2, .null, .null, .null, .int (oI 0)])) :: (q1, .inl (aK 0, (16, .inl (fun _ => oI 0)))) :: (q2, .inl (aK 0, (16, .inl (fun _ => oI 0)))) :: (q3, .inl (aK 0, (16, .inl (fun _ => oI 0)))) :: []) rfl ?_
  refine n_putF fN_Tr_18 hin rfl rfl (Nat.le_of_ble_eq_true rfl) dN_Tr_25 ?_
  refine n_eq (E' := (h, .inr (1, [.ref q1, .ref q2, .ref q3, .null, .null, .int (oI 0)])) :: (q1, .inl (aK 0, (16, .inl (fun _ => oI 0)))) :: (q2, .inl (aK 0, (16, .inl (fun _ => oI 0)))) :: (q3, .inl (aK 0, (16, .inl (fun _ => oI 0)))) :: []) rfl ?_
  refine n_aload 0 dN_Tr_28 rfl ?_
  refine n_sipush dN_Tr_29 (by decide) ?_
  refine n_newi (N := 960) nA_int (by decide) ⟨Nat.le_of_ble_eq_true rfl, Nat.le_of_ble_eq_true rfl⟩ dN_Tr_32 (fun q4 => ?_)
  refine n_eq (E' := (h, .inr (1, [.ref q1, .ref q2, .ref q3, .null, .null, .int (oI 0)])) :: (q1, .inl (aK 0, (16, .inl (fun _ => oI 0)))) :: (q2, .inl (aK 0, (16, .inl (fun _ => oI 0)))) :: (q3, .inl (aK 0, (16, .inl (fun _ => oI 0)))) :: (q4, .inl (aK 0, (960, .inl (fun _ => oI 0)))) :: []) rfl ?_
  refine n_putF fN_Tr_21 hin rfl rfl (Nat.le_of_ble_eq_true rfl) dN_Tr_34 ?_
  refine n_eq (E' := (h, .inr (1, [.ref q1, .ref q2, .ref q3, .ref q4, .null, .int (oI 0)])) :: (q1, .inl (aK 0, (16, .inl (fun _ => oI 0)))) :: (q2, .inl (aK 0, (16, .inl (fun _ => oI 0)))) :: (q3, .inl (aK 0, (16, .inl (fun _ => oI 0)))) :: (q4, .inl (aK 0, (960, .inl (fun _ => oI 0)))) :: []) rfl ?_
  refine n_aload 0 dN_Tr_37 rfl ?_
  refine n_sipush dN_Tr_38 (by decide) ?_
  refine n_newi (N := 416) nA_int (by decide) ⟨Nat.le_of_ble_eq_true rfl, Nat.le_of_ble_eq_true rfl⟩ dN_Tr_41 (fun q5 => ?_)
  refine n_eq (E' := (h, .inr (1, [.ref q1, .ref q2, .ref q3, .ref q4, .null, .int (oI 0)])) :: (q1, .inl (aK 0, (16, .inl (fun _ => oI 0)))) :: (q2, .inl (aK 0, (16, .inl (fun _ => oI 0)))) :: (q3, .inl (aK 0, (16, .inl (fun _ => oI 0)))) :: (q4, .inl (aK 0, (960, .inl (fun _ => oI 0)))) :: (q5, .inl (aK 0, (416, .inl (fun _ => oI 0)))) :: []) rfl ?_
  refine n_putF fN_Tr_24 hin rfl rfl (Nat.le_of_ble_eq_true rfl) dN_Tr_43 ?_
  refine n_eq (E' := (h, .inr (1, [.ref q1, .ref q2, .ref q3, .ref q4, .ref q5, .int (oI 0)])) :: (q1, .inl (aK 0, (16, .inl (fun _ => oI 0)))) :: (q2, .inl (aK 0, (16, .inl (fun _ => oI 0)))) :: (q3, .inl (aK 0, (16, .inl (fun _ => oI 0)))) :: (q4, .inl (aK 0, (960, .inl (fun _ => oI 0)))) :: (q5, .inl (aK 0, (416, .inl (fun _ => oI 0)))) :: []) rfl ?_
  refine n_aload 0 dN_Tr_46 rfl ?_
  refine n_get gN_Tr_24 rfl dN_Tr_47 ?_
  refine n_iconst dN_Tr_50 ?_
  refine n_eq (E' := ((h, .inr (1, [.ref q1, .ref q2, .ref q3, .ref q4, .ref q5, .int (oI 0)])) :: (q1, .inl (aK 0, (16, .inl (fun _ => oI 0)))) :: (q2, .inl (aK 0, (16, .inl (fun _ => oI 0)))) :: (q3, .inl (aK 0, (16, .inl (fun _ => oI 0)))) :: (q4, .inl (aK 0, (960, .inl (fun _ => oI 0)))) :: []) ++ mkW (fun _ => q5) aK [.inr (0, 416)] (fun _ _ => 0)) rfl ?_
  refine n_cs (v := 0) (M9 := fiM (fun _ _ => 0) 0 416 (-1)) (fun _ => q5) (kfill (mv := fun _ => false) hl (T := [.inr (0, 416)]) (k := 0) rfl (by decide) _ _ rfl) ifill (Or.inl (wa 33 (by decide +kernel) rfl)) rfl ⟨Nat.le_of_ble_eq_true rfl, Nat.le_of_ble_eq_true rfl, Nat.le_of_ble_eq_true rfl, Nat.le_of_ble_eq_true rfl⟩ (Nat.le_of_ble_eq_true rfl) dN_Tr_51 ?_
  refine n_eq (E' := (h, .inr (1, [.ref q1, .ref q2, .ref q3, .ref q4, .ref q5, .int (oI 0)])) :: (q1, .inl (aK 0, (16, .inl (fun _ => oI 0)))) :: (q2, .inl (aK 0, (16, .inl (fun _ => oI 0)))) :: (q3, .inl (aK 0, (16, .inl (fun _ => oI 0)))) :: (q4, .inl (aK 0, (960, .inl (fun _ => oI 0)))) :: (q5, .inl (aK 0, (416, .inl (fun i => oI (fiM (fun _ _ => 0) 0 416 (-1) 0 i))))) :: []) rfl ?_
  refine n_aload 0 dN_Tr_54 rfl ?_
  refine n_get gN_Tr_15 rfl dN_Tr_55 ?_
  refine n_iconst dN_Tr_58 ?_
  refine n_iconst dN_Tr_59 ?_
  refine n_iast (q0 := 2) (fun _ => 0) rfl (by decide) (by decide) dN_Tr_60 ?_
  refine n_eq (E' := (h, .inr (1, [.ref q1, .ref q2, .ref q3, .ref q4, .ref q5, .int (oI 0)])) :: (q1, .inl (aK 0, (16, .inl (fun _ => oI 0)))) :: (q2, .inl (aK 0, (16, .inl (fun i => oI (if i = 0 then 1 else 0))))) :: (q3, .inl (aK 0, (16, .inl (fun _ => oI 0)))) :: (q4, .inl (aK 0, (960, .inl (fun _ => oI 0)))) :: (q5, .inl (aK 0, (416, .inl (fun i => oI (fiM (fun _ _ => 0) 0 416 (-1) 0 i))))) :: []) rfl ?_
  refine n_aload 0 dN_Tr_61 rfl ?_
  refine n_iconst dN_Tr_62 ?_
  refine n_put gN_Tr_33 pN_Tr_33 rfl rfl (Nat.le_of_ble_eq_true rfl) dN_Tr_63 ?_
  refine n_eq (E' := (h, .inr (1, [.ref q1, .ref q2, .ref q3, .ref q4, .ref q5, .int (oI (1))])) :: (q1, .inl (aK 0, (16, .inl (fun _ => oI 0)))) :: (q2, .inl (aK 0, (16, .inl (fun i => oI (if i = 0 then 1 else 0))))) :: (q3, .inl (aK 0, (16, .inl (fun _ => oI 0)))) :: (q4, .inl (aK 0, (960, .inl (fun _ => oI 0)))) :: (q5, .inl (aK 0, (416, .inl (fun i => oI (fiM (fun _ _ => 0) 0 416 (-1) 0 i))))) :: []) rfl ?_
  exact n_ret (fun i => match i with | 0 => h | 1 => q1 | 2 => q2 | 3 => q3 | 4 => q4 | 5 => q5 | _ => 0) rfl rfl ⟨Nat.le_of_ble_eq_true rfl, Nat.le_of_ble_eq_true rfl⟩ dN_Tr_66
