set_option maxHeartbeats 400000 in
set_option maxRecDepth 20000 in
theorem kN_Cl {l : Launch} (hl : l.stackTraces = false) : CtN l yN_Cl { frames := 1, cells := 1, slots := 255, locals := 12 } 6 zN_Cl TN_Cl MN_Cl 1 255 := by
  refine ctn_of hl (by decide) oN_Cl (Nat.le_of_ble_eq_true rfl) (fun {p e s m args below meth c D aK h} X hin => ?_)
  refine n_aload 0 dN_Cl_0 rfl ?_
  refine n_obj (wa 168 (by decide +kernel) rfl) nOi ⟨Nat.le_of_ble_eq_true rfl, Nat.le_of_ble_eq_true rfl⟩ dN_Cl_1 ?_
  refine n_aload 0 dN_Cl_4 rfl ?_
  refine n_sipush dN_Cl_5 (by decide) ?_
  refine n_newi (N := 255) nA_int (by decide) ⟨Nat.le_of_ble_eq_true rfl, Nat.le_of_ble_eq_true rfl⟩ dN_Cl_8 (fun q1 => ?_)
  refine n_eq (E' := (h, .inr (6, [.null, .int (oI 0), .int (oI 0), .int (oI 0), .int (oI 0)])) :: (q1, .inl (aK 0, (255, .inl (fun _ => oI 0)))) :: []) rfl ?_
  refine n_putF fN_Cl_9 hin rfl rfl (Nat.le_of_ble_eq_true rfl) dN_Cl_10 ?_
  refine n_eq (E' := (h, .inr (6, [.ref q1, .int (oI 0), .int (oI 0), .int (oI 0), .int (oI 0)])) :: (q1, .inl (aK 0, (255, .inl (fun _ => oI 0)))) :: []) rfl ?_
  refine n_aload 0 dN_Cl_13 rfl ?_
  refine n_iconst dN_Cl_14 ?_
  refine n_put gN_Cl_15 pN_Cl_15 rfl rfl (Nat.le_of_ble_eq_true rfl) dN_Cl_15 ?_
  refine n_eq (E' := (h, .inr (6, [.ref q1, .int (oI (-1)), .int (oI 0), .int (oI 0), .int (oI 0)])) :: (q1, .inl (aK 0, (255, .inl (fun _ => oI 0)))) :: []) rfl ?_
  exact n_ret (fun i => match i with | 0 => h | 1 => q1 | _ => 0) rfl rfl ⟨Nat.le_of_ble_eq_true rfl, Nat.le_of_ble_eq_true rfl⟩ dN_Cl_18
