set_option maxHeartbeats 400000 in
set_option maxRecDepth 20000 in
theorem kN_De {l : Launch} (hl : l.stackTraces = false) : CtN l yN_De { frames := 1, cells := 2, slots := 1150, locals := 12 } 4 zN_De TN_De MN_De 2 1150 := by
  refine ctn_of hl (by decide) oN_De (Nat.le_of_ble_eq_true rfl) (fun {p e s m args below meth c D aK h} X hin => ?_)
  refine n_aload 0 dN_De_0 rfl ?_
  refine n_obj (wa 134 (by decide +kernel) rfl) nOi ⟨Nat.le_of_ble_eq_true rfl, Nat.le_of_ble_eq_true rfl⟩ dN_De_1 ?_
  refine n_aload 0 dN_De_4 rfl ?_
  refine n_sipush dN_De_5 (by decide) ?_
  refine n_newi (N := 1024) nA_int (by decide) ⟨Nat.le_of_ble_eq_true rfl, Nat.le_of_ble_eq_true rfl⟩ dN_De_8 (fun q1 => ?_)
  refine n_eq (E' := (h, .inr (4, [.null, .null, .int (oI 0), .int (oI 0), .int (oI 0), .int (oI 0)])) :: (q1, .inl (aK 0, (1024, .inl (fun _ => oI 0)))) :: []) rfl ?_
  refine n_putF fN_De_9 hin rfl rfl (Nat.le_of_ble_eq_true rfl) dN_De_10 ?_
  refine n_eq (E' := (h, .inr (4, [.ref q1, .null, .int (oI 0), .int (oI 0), .int (oI 0), .int (oI 0)])) :: (q1, .inl (aK 0, (1024, .inl (fun _ => oI 0)))) :: []) rfl ?_
  refine n_aload 0 dN_De_13 rfl ?_
  refine n_bipush dN_De_14 (by decide) ?_
  refine n_newz (N := 126) nA_boolean (by decide) ⟨Nat.le_of_ble_eq_true rfl, Nat.le_of_ble_eq_true rfl⟩ dN_De_16 (fun q2 => ?_)
  refine n_eq (E' := (h, .inr (4, [.ref q1, .null, .int (oI 0), .int (oI 0), .int (oI 0), .int (oI 0)])) :: (q1, .inl (aK 0, (1024, .inl (fun _ => oI 0)))) :: (q2, .inl (aK 1, (126, .inl (fun _ => oI 0)))) :: []) rfl ?_
  refine n_putF fN_De_15 hin rfl rfl (Nat.le_of_ble_eq_true rfl) dN_De_18 ?_
  refine n_eq (E' := (h, .inr (4, [.ref q1, .ref q2, .int (oI 0), .int (oI 0), .int (oI 0), .int (oI 0)])) :: (q1, .inl (aK 0, (1024, .inl (fun _ => oI 0)))) :: (q2, .inl (aK 1, (126, .inl (fun _ => oI 0)))) :: []) rfl ?_
  exact n_ret (fun i => match i with | 0 => h | 1 => q1 | 2 => q2 | _ => 0) rfl rfl ⟨Nat.le_of_ble_eq_true rfl, Nat.le_of_ble_eq_true rfl⟩ dN_De_21
