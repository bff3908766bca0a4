set_option maxHeartbeats 400000 in
set_option maxRecDepth 20000 in
theorem kN_Ca {l : Launch} (hl : l.stackTraces = false) : CtN l yN_Ca { frames := 2, cells := 6, slots := 780, locals := 32 } 5 zN_Ca TN_Ca MN_Ca 6 780 := by
  refine ctn_of hl (by decide) oN_Ca (Nat.le_of_ble_eq_true rfl) (fun {p e s m args below meth c D aK h} X hin => ?_)
  refine n_aload 0 dN_Ca_0 rfl ?_
  refine n_obj (wa 162 (by decide +kernel) rfl) nOi ⟨Nat.le_of_ble_eq_true rfl, Nat.le_of_ble_eq_true rfl⟩ dN_Ca_1 ?_
  refine n_aload 0 dN_Ca_4 rfl ?_
  refine n_new nN_Ca_9_Cl (kN_Cl hl) ⟨Nat.le_of_ble_eq_true rfl, Nat.le_of_ble_eq_true rfl, Nat.le_of_ble_eq_true rfl, Nat.le_of_ble_eq_true rfl, Nat.le_of_ble_eq_true rfl, Nat.le_of_ble_eq_true rfl⟩ (Nat.le_of_ble_eq_true rfl) dN_Ca_5 dN_Ca_8 dN_Ca_9 (fun a1 => ?_)
  refine n_ar (i' := 2) (j' := 260) rfl rfl ?_
  refine n_eq (E' := (h, .inr (5, [.null, .null, .null, .int (oI 0), .int (oI 0)])) :: (mkW a1 aK TN_Cl MN_Cl ++ ([]))) rfl ?_
  refine n_put gN_Ca_12 pN_Ca_12 rfl rfl (Nat.le_of_ble_eq_true rfl) dN_Ca_12 ?_
  refine n_eq (E' := (h, .inr (5, [.ref (a1 0), .null, .null, .int (oI 0), .int (oI 0)])) :: (mkW a1 aK TN_Cl MN_Cl ++ ([]))) rfl ?_
  refine n_aload 0 dN_Ca_15 rfl ?_
  refine n_new nN_Ca_9_Cl (kN_Cl hl) ⟨Nat.le_of_ble_eq_true rfl, Nat.le_of_ble_eq_true rfl, Nat.le_of_ble_eq_true rfl, Nat.le_of_ble_eq_true rfl, Nat.le_of_ble_eq_true rfl, Nat.le_of_ble_eq_true rfl⟩ (Nat.le_of_ble_eq_true rfl) dN_Ca_16 dN_Ca_19 dN_Ca_20 (fun a2 => ?_)
  refine n_ar (i' := 4) (j' := 520) rfl rfl ?_
  refine n_eq (E' := (h, .inr (5, [.ref (a1 0), .null, .null, .int (oI 0), .int (oI 0)])) :: (mkW a1 aK TN_Cl MN_Cl ++ ((mkW a2 aK TN_Cl MN_Cl ++ ([]))))) rfl ?_
  refine n_put gN_Ca_18 pN_Ca_18 rfl rfl (Nat.le_of_ble_eq_true rfl) dN_Ca_23 ?_
  refine n_eq (E' := (h, .inr (5, [.ref (a1 0), .ref (a2 0), .null, .int (oI 0), .int (oI 0)])) :: (mkW a1 aK TN_Cl MN_Cl ++ ((mkW a2 aK TN_Cl MN_Cl ++ ([]))))) rfl ?_
  refine n_aload 0 dN_Ca_26 rfl ?_
  refine n_new nN_Ca_9_Cl (kN_Cl hl) ⟨Nat.le_of_ble_eq_true rfl, Nat.le_of_ble_eq_true rfl, Nat.le_of_ble_eq_true rfl, Nat.le_of_ble_eq_true rfl, Nat.le_of_ble_eq_true rfl, Nat.le_of_ble_eq_true rfl⟩ (Nat.le_of_ble_eq_true rfl) dN_Ca_27 dN_Ca_30 dN_Ca_31 (fun a3 => ?_)
  refine n_ar (i' := 6) (j' := 780) rfl rfl ?_
  refine n_eq (E' := (h, .inr (5, [.ref (a1 0), .ref (a2 0), .null, .int (oI 0), .int (oI 0)])) :: (mkW a1 aK TN_Cl MN_Cl ++ ((mkW a2 aK TN_Cl MN_Cl ++ ((mkW a3 aK TN_Cl MN_Cl ++ ([]))))))) rfl ?_
  refine n_put gN_Ca_21 pN_Ca_21 rfl rfl (Nat.le_of_ble_eq_true rfl) dN_Ca_34 ?_
  refine n_eq (E' := (h, .inr (5, [.ref (a1 0), .ref (a2 0), .ref (a3 0), .int (oI 0), .int (oI 0)])) :: (mkW a1 aK TN_Cl MN_Cl ++ ((mkW a2 aK TN_Cl MN_Cl ++ ((mkW a3 aK TN_Cl MN_Cl ++ ([]))))))) rfl ?_
  exact n_ret (fun i => match i with | 0 => h | 1 => a1 0 | 2 => a1 1 | 3 => a2 0 | 4 => a2 1 | 5 => a3 0 | 6 => a3 1 | _ => 0) rfl rfl ⟨Nat.le_of_ble_eq_true rfl, Nat.le_of_ble_eq_true rfl⟩ dN_Ca_37
