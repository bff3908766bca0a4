set_option maxHeartbeats 400000 in
set_option maxRecDepth 20000 in
theorem kN_Pa {l : Launch} (hl : l.stackTraces = false) : CtN l yN_Pa { frames := 1, cells := 3, slots := 247, locals := 12 } 3 zN_Pa TN_Pa MN_Pa 3 247 := by
  refine ctn_of hl (by decide) oN_Pa (Nat.le_of_ble_eq_true rfl) (fun {p e s m args below meth c D aK h} X hin => ?_)
  refine n_aload 0 dN_Pa_0 rfl ?_
  refine n_obj (wa 70 (by decide +kernel) rfl) nOi ⟨Nat.le_of_ble_eq_true rfl, Nat.le_of_ble_eq_true rfl⟩ dN_Pa_1 ?_
  refine n_aload 0 dN_Pa_4 rfl ?_
  refine n_bipush dN_Pa_5 (by decide) ?_
  refine n_newi (N := 60) nA_int (by decide) ⟨Nat.le_of_ble_eq_true rfl, Nat.le_of_ble_eq_true rfl⟩ dN_Pa_7 (fun q1 => ?_)
  refine n_eq (E' := (h, .inr (3, [.null, .null, .null, .int (oI 0), .int (oI 0), .int (oI 0), .int (oI 0), .int (oI 0), .int (oI 0)])) :: (q1, .inl (aK 0, (60, .inl (fun _ => oI 0)))) :: []) rfl ?_
  refine n_putF fN_Pa_9 hin rfl rfl (Nat.le_of_ble_eq_true rfl) dN_Pa_9 ?_
  refine n_eq (E' := (h, .inr (3, [.ref q1, .null, .null, .int (oI 0), .int (oI 0), .int (oI 0), .int (oI 0), .int (oI 0), .int (oI 0)])) :: (q1, .inl (aK 0, (60, .inl (fun _ => oI 0)))) :: []) rfl ?_
  refine n_aload 0 dN_Pa_12 rfl ?_
  refine n_sipush dN_Pa_13 (by decide) ?_
  refine n_newi (N := 176) nA_int (by decide) ⟨Nat.le_of_ble_eq_true rfl, Nat.le_of_ble_eq_true rfl⟩ dN_Pa_16 (fun q2 => ?_)
  refine n_eq (E' := (h, .inr (3, [.ref q1, .null, .null, .int (oI 0), .int (oI 0), .int (oI 0), .int (oI 0), .int (oI 0), .int (oI 0)])) :: (q1, .inl (aK 0, (60, .inl (fun _ => oI 0)))) :: (q2, .inl (aK 0, (176, .inl (fun _ => oI 0)))) :: []) rfl ?_
  refine n_putF fN_Pa_15 hin rfl rfl (Nat.le_of_ble_eq_true rfl) dN_Pa_18 ?_
  refine n_eq (E' := (h, .inr (3, [.ref q1, .ref q2, .null, .int (oI 0), .int (oI 0), .int (oI 0), .int (oI 0), .int (oI 0), .int (oI 0)])) :: (q1, .inl (aK 0, (60, .inl (fun _ => oI 0)))) :: (q2, .inl (aK 0, (176, .inl (fun _ => oI 0)))) :: []) rfl ?_
  refine n_aload 0 dN_Pa_21 rfl ?_
  refine n_bipush dN_Pa_22 (by decide) ?_
  refine n_newi (N := 11) nA_int (by decide) ⟨Nat.le_of_ble_eq_true rfl, Nat.le_of_ble_eq_true rfl⟩ dN_Pa_24 (fun q3 => ?_)
  refine n_eq (E' := (h, .inr (3, [.ref q1, .ref q2, .null, .int (oI 0), .int (oI 0), .int (oI 0), .int (oI 0), .int (oI 0), .int (oI 0)])) :: (q1, .inl (aK 0, (60, .inl (fun _ => oI 0)))) :: (q2, .inl (aK 0, (176, .inl (fun _ => oI 0)))) :: (q3, .inl (aK 0, (11, .inl (fun _ => oI 0)))) :: []) rfl ?_
  refine n_putF fN_Pa_18 hin rfl rfl (Nat.le_of_ble_eq_true rfl) dN_Pa_26 ?_
  refine n_eq (E' := (h, .inr (3, [.ref q1, .ref q2, .ref q3, .int (oI 0), .int (oI 0), .int (oI 0), .int (oI 0), .int (oI 0), .int (oI 0)])) :: (q1, .inl (aK 0, (60, .inl (fun _ => oI 0)))) :: (q2, .inl (aK 0, (176, .inl (fun _ => oI 0)))) :: (q3, .inl (aK 0, (11, .inl (fun _ => oI 0)))) :: []) rfl ?_
  exact n_ret (fun i => match i with | 0 => h | 1 => q1 | 2 => q2 | 3 => q3 | _ => 0) rfl rfl ⟨Nat.le_of_ble_eq_true rfl, Nat.le_of_ble_eq_true rfl⟩ dN_Pa_29
