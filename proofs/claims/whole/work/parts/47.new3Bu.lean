set_option maxHeartbeats 400000 in
set_option maxRecDepth 20000 in
theorem kN_Bu {l : Launch} (hl : l.stackTraces = false) : CtN l yN_Bu { frames := 2, cells := 8, slots := 1392, locals := 32 } 2 zN_Bu TN_Bu MN_Bu 8 1392 := by
  refine ctn_of hl (by decide) oN_Bu (Nat.le_of_ble_eq_true rfl) (fun {p e s m args below meth c D aK h} X hin => ?_)
  refine n_aload 0 dN_Bu_0 rfl ?_
  refine n_obj (wa 61 (by decide +kernel) rfl) nOi ⟨Nat.le_of_ble_eq_true rfl, Nat.le_of_ble_eq_true rfl⟩ dN_Bu_1 ?_
  refine n_aload 0 dN_Bu_4 rfl ?_
  refine n_sipush dN_Bu_5 (by decide) ?_
  refine n_newi (N := 1024) nA_int (by decide) ⟨Nat.le_of_ble_eq_true rfl, Nat.le_of_ble_eq_true rfl⟩ dN_Bu_8 (fun q1 => ?_)
  refine n_eq (E' := (h, .inr (2, [.null, .null, .null, .null, .null, .int (oI 0), .int (oI 0), .int (oI 0)])) :: (q1, .inl (aK 0, (1024, .inl (fun _ => oI 0)))) :: []) rfl ?_
  refine n_putF fN_Bu_9 hin rfl rfl (Nat.le_of_ble_eq_true rfl) dN_Bu_10 ?_
  refine n_eq (E' := (h, .inr (2, [.ref q1, .null, .null, .null, .null, .int (oI 0), .int (oI 0), .int (oI 0)])) :: (q1, .inl (aK 0, (1024, .inl (fun _ => oI 0)))) :: []) rfl ?_
  refine n_aload 0 dN_Bu_13 rfl ?_
  refine n_bipush dN_Bu_14 (by decide) ?_
  refine n_eq (E' := ((h, .inr (2, [.ref q1, .null, .null, .null, .null, .int (oI 0), .int (oI 0), .int (oI 0)])) :: (q1, .inl (aK 0, (1024, .inl (fun _ => oI 0)))) :: []) ++ mkW (fun _ => 0) aK [] (fun _ _ => 0)) rfl ?_
  refine n_cs (v := 5) (M9 := fun _ _ => 0) (fun _ => 0) (kN_blocks hl) iX_blocksFor (Or.inr ⟨"PackedImage", wa 62 (by decide +kernel) rfl⟩) rfl ⟨Nat.le_of_ble_eq_true rfl, Nat.le_of_ble_eq_true rfl, Nat.le_of_ble_eq_true rfl, Nat.le_of_ble_eq_true rfl⟩ (Nat.le_of_ble_eq_true rfl) dN_Bu_16 ?_
  refine n_eq (E' := (h, .inr (2, [.ref q1, .null, .null, .null, .null, .int (oI 0), .int (oI 0), .int (oI 0)])) :: (q1, .inl (aK 0, (1024, .inl (fun _ => oI 0)))) :: []) rfl ?_
  refine n_bipush dN_Bu_19 (by decide) ?_
  refine n_imul dN_Bu_21 ?_
  refine n_newi (N := 80) nA_int (by decide) ⟨Nat.le_of_ble_eq_true rfl, Nat.le_of_ble_eq_true rfl⟩ dN_Bu_22 (fun q2 => ?_)
  refine n_eq (E' := (h, .inr (2, [.ref q1, .null, .null, .null, .null, .int (oI 0), .int (oI 0), .int (oI 0)])) :: (q1, .inl (aK 0, (1024, .inl (fun _ => oI 0)))) :: (q2, .inl (aK 0, (80, .inl (fun _ => oI 0)))) :: []) rfl ?_
  refine n_putF fN_Bu_19 hin rfl rfl (Nat.le_of_ble_eq_true rfl) dN_Bu_24 ?_
  refine n_eq (E' := (h, .inr (2, [.ref q1, .ref q2, .null, .null, .null, .int (oI 0), .int (oI 0), .int (oI 0)])) :: (q1, .inl (aK 0, (1024, .inl (fun _ => oI 0)))) :: (q2, .inl (aK 0, (80, .inl (fun _ => oI 0)))) :: []) rfl ?_
  refine n_aload 0 dN_Bu_27 rfl ?_
  refine n_bipush dN_Bu_28 (by decide) ?_
  refine n_newi (N := 16) nA_int (by decide) ⟨Nat.le_of_ble_eq_true rfl, Nat.le_of_ble_eq_true rfl⟩ dN_Bu_30 (fun q3 => ?_)
  refine n_eq (E' := (h, .inr (2, [.ref q1, .ref q2, .null, .null, .null, .int (oI 0), .int (oI 0), .int (oI 0)])) :: (q1, .inl (aK 0, (1024, .inl (fun _ => oI 0)))) :: (q2, .inl (aK 0, (80, .inl (fun _ => oI 0)))) :: (q3, .inl (aK 0, (16, .inl (fun _ => oI 0)))) :: []) rfl ?_
  refine n_putF fN_Bu_22 hin rfl rfl (Nat.le_of_ble_eq_true rfl) dN_Bu_32 ?_
  refine n_eq (E' := (h, .inr (2, [.ref q1, .ref q2, .ref q3, .null, .null, .int (oI 0), .int (oI 0), .int (oI 0)])) :: (q1, .inl (aK 0, (1024, .inl (fun _ => oI 0)))) :: (q2, .inl (aK 0, (80, .inl (fun _ => oI 0)))) :: (q3, .inl (aK 0, (16, .inl (fun _ => oI 0)))) :: []) rfl ?_
  refine n_aload 0 dN_Bu_35 rfl ?_
  refine n_bipush dN_Bu_36 (by decide) ?_
  refine n_newi (N := 16) nA_int (by decide) ⟨Nat.le_of_ble_eq_true rfl, Nat.le_of_ble_eq_true rfl⟩ dN_Bu_38 (fun q4 => ?_)
  refine n_eq (E' := (h, .inr (2, [.ref q1, .ref q2, .ref q3, .null, .null, .int (oI 0), .int (oI 0), .int (oI 0)])) :: (q1, .inl (aK 0, (1024, .inl (fun _ => oI 0)))) :: (q2, .inl (aK 0, (80, .inl (fun _ => oI 0)))) :: (q3, .inl (aK 0, (16, .inl (fun _ => oI 0)))) :: (q4, .inl (aK 0, (16, .inl (fun _ => oI 0)))) :: []) rfl ?_
  refine n_putF fN_Bu_25 hin rfl rfl (Nat.le_of_ble_eq_true rfl) dN_Bu_40 ?_
  refine n_eq (E' := (h, .inr (2, [.ref q1, .ref q2, .ref q3, .ref q4, .null, .int (oI 0), .int (oI 0), .int (oI 0)])) :: (q1, .inl (aK 0, (1024, .inl (fun _ => oI 0)))) :: (q2, .inl (aK 0, (80, .inl (fun _ => oI 0)))) :: (q3, .inl (aK 0, (16, .inl (fun _ => oI 0)))) :: (q4, .inl (aK 0, (16, .inl (fun _ => oI 0)))) :: []) rfl ?_
  refine n_aload 0 dN_Bu_43 rfl ?_
  refine n_new nN_Bu_28_Pa (kN_Pa hl) ⟨Nat.le_of_ble_eq_true rfl, Nat.le_of_ble_eq_true rfl, Nat.le_of_ble_eq_true rfl, Nat.le_of_ble_eq_true rfl, Nat.le_of_ble_eq_true rfl, Nat.le_of_ble_eq_true rfl⟩ (Nat.le_of_ble_eq_true rfl) dN_Bu_44 dN_Bu_47 dN_Bu_48 (fun a5 => ?_)
  refine n_ar (i' := 8) (j' := 1392) rfl rfl ?_
  refine n_eq (E' := (h, .inr (2, [.ref q1, .ref q2, .ref q3, .ref q4, .null, .int (oI 0), .int (oI 0), .int (oI 0)])) :: (q1, .inl (aK 0, (1024, .inl (fun _ => oI 0)))) :: (q2, .inl (aK 0, (80, .inl (fun _ => oI 0)))) :: (q3, .inl (aK 0, (16, .inl (fun _ => oI 0)))) :: (q4, .inl (aK 0, (16, .inl (fun _ => oI 0)))) :: (mkW a5 aK TN_Pa MN_Pa ++ ([]))) rfl ?_
  refine n_putF fN_Bu_31 hin rfl rfl (Nat.le_of_ble_eq_true rfl) dN_Bu_51 ?_
  refine n_eq (E' := (h, .inr (2, [.ref q1, .ref q2, .ref q3, .ref q4, .ref (a5 0), .int (oI 0), .int (oI 0), .int (oI 0)])) :: (q1, .inl (aK 0, (1024, .inl (fun _ => oI 0)))) :: (q2, .inl (aK 0, (80, .inl (fun _ => oI 0)))) :: (q3, .inl (aK 0, (16, .inl (fun _ => oI 0)))) :: (q4, .inl (aK 0, (16, .inl (fun _ => oI 0)))) :: (mkW a5 aK TN_Pa MN_Pa ++ ([]))) rfl ?_
  exact n_ret (fun i => match i with | 0 => h | 1 => q1 | 2 => q2 | 3 => q3 | 4 => q4 | 5 => a5 0 | 6 => a5 1 | 7 => a5 2 | 8 => a5 3 | _ => 0) rfl rfl ⟨Nat.le_of_ble_eq_true rfl, Nat.le_of_ble_eq_true rfl⟩ dN_Bu_54
