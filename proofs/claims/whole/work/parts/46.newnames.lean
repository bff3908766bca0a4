theorem nz_0 : (fun _ : Nat => oI 0) = fun i => oI (if i < 0 then -1 else 0) := by
  funext i; rw [if_neg (Nat.not_lt_zero i)]
theorem nz_s (n : Nat) : (fun i => oI (if i = n then -1 else if i < n then -1 else 0)) = fun i => oI (if i < n + 1 then -1 else 0) := by
  funext i
  by_cases h : i = n
  · rw [if_pos h, if_pos (by omega)]
  · rw [if_neg h]
    by_cases h2 : i < n
    · rw [if_pos h2, if_pos (by omega)]
    · rw [if_neg h2, if_neg (by omega)]
theorem nOi : Cond.instanceMethod Lib.objectInit ∈ WA ∧ Cond.code Lib.objectInit ⟨#[0xb1]⟩ 1 none ∈ WA := ⟨wa 25 (by decide +kernel) rfl, wa 26 (by decide +kernel) rfl⟩
theorem nA_int : Cond.arrayClass .int ∈ WA := wa 55 (by decide +kernel) rfl
theorem nA_boolean : Cond.arrayClass .boolean ∈ WA := wa 156 (by decide +kernel) rfl
theorem nA_long : Cond.arrayClass .long ∈ WA := wa 1074 (by decide +kernel) rfl
section NB
variable {p : Program} {l : Launch} {e : Env} {s : State} {m : MethodId} {args : Array Value} {below : List Frame} {meth : Method} {c : Code} {D : va_G} {aK : Nat → ClassId} {mv : Nat → Bool} {a0 : Nat → Nat}
theorem wN_blocks (X : Cy p l e (rmn 0 0) s m args below meth c D aK [] mv false a0 "PackedImage" cX_blocksFor 1 (some .int) (0, 5, fun _ _ => 0)) : Wm X 0 [some (.inl 78)] [] (fun _ _ => 0) := by
  refine x_iloadn dX_blocksFor_0 rfl ?_
  refine x_bipush dX_blocksFor_1 (by decide) ?_
  refine x_iadd dX_blocksFor_3 ?_
  refine x_iconst dX_blocksFor_4 ?_
  refine x_isub dX_blocksFor_5 ?_
  refine x_bipush dX_blocksFor_6 (by decide) ?_
  refine x_idiv (K := fun v => some v) (u := 5) rfl dX_blocksFor_8 (fun v1 hf => ?_)
  cases hf
  exact x_iret rfl rfl dX_blocksFor_9
end NB
theorem kN_blocks {l : Launch} (hl : l.stackTraces = false) : Ct l yX_blocksFor (rmn 0 0) [] (fun _ => false) false (some .int) [.inl 78] (fun _ _ => 0) (0, 5, fun _ _ => 0) := ct_of hl (by decide) iX_blocksFor.1 (Nat.le_of_ble_eq_true rfl) (fun X => wN_blocks X)
def yN_Tr : MethodName := ⟨"PackedImage$Tree", "<init>", "()V"⟩
abbrev cN_Tr : ByteArray := prog_7_method_1_code
theorem oN_Tr : Cond.code yN_Tr cN_Tr 1 none ∈ WA := wa 31 (by decide +kernel) rfl
abbrev zN_Tr : List Value := [.null, .null, .null, .null, .null, .int (oI 0)]
theorem dN_Tr_0 : decode cN_Tr 0 = .ok (.aload_n 0, 1) := by decide +kernel
theorem dN_Tr_1 : decode cN_Tr 1 = .ok (.invokespecial 3, 3) := by decide +kernel
theorem dN_Tr_4 : decode cN_Tr 4 = .ok (.aload_n 0, 1) := by decide +kernel
theorem dN_Tr_5 : decode cN_Tr 5 = .ok (.bipush 16, 2) := by decide +kernel
theorem dN_Tr_7 : decode cN_Tr 7 = .ok (.newarray .int, 2) := by decide +kernel
theorem dN_Tr_9 : decode cN_Tr 9 = .ok (.putfield 9, 3) := by decide +kernel
theorem dN_Tr_12 : decode cN_Tr 12 = .ok (.aload_n 0, 1) := by decide +kernel
theorem dN_Tr_13 : decode cN_Tr 13 = .ok (.bipush 16, 2) := by decide +kernel
theorem dN_Tr_15 : decode cN_Tr 15 = .ok (.newarray .int, 2) := by decide +kernel
theorem dN_Tr_17 : decode cN_Tr 17 = .ok (.putfield 15, 3) := by decide +kernel
theorem dN_Tr_20 : decode cN_Tr 20 = .ok (.aload_n 0, 1) := by decide +kernel
theorem dN_Tr_21 : decode cN_Tr 21 = .ok (.bipush 16, 2) := by decide +kernel
theorem dN_Tr_23 : decode cN_Tr 23 = .ok (.newarray .int, 2) := by decide +kernel
theorem dN_Tr_25 : decode cN_Tr 25 = .ok (.putfield 18, 3) := by decide +kernel
theorem dN_Tr_28 : decode cN_Tr 28 = .ok (.aload_n 0, 1) := by decide +kernel
theorem dN_Tr_29 : decode cN_Tr 29 = .ok (.sipush 960, 3) := by decide +kernel
theorem dN_Tr_32 : decode cN_Tr 32 = .ok (.newarray .int, 2) := by decide +kernel
theorem dN_Tr_34 : decode cN_Tr 34 = .ok (.putfield 21, 3) := by decide +kernel
theorem dN_Tr_37 : decode cN_Tr 37 = .ok (.aload_n 0, 1) := by decide +kernel
theorem dN_Tr_38 : decode cN_Tr 38 = .ok (.sipush 416, 3) := by decide +kernel
theorem dN_Tr_41 : decode cN_Tr 41 = .ok (.newarray .int, 2) := by decide +kernel
theorem dN_Tr_43 : decode cN_Tr 43 = .ok (.putfield 24, 3) := by decide +kernel
theorem dN_Tr_46 : decode cN_Tr 46 = .ok (.aload_n 0, 1) := by decide +kernel
theorem dN_Tr_47 : decode cN_Tr 47 = .ok (.getfield 24, 3) := by decide +kernel
theorem dN_Tr_50 : decode cN_Tr 50 = .ok (.iconst (-1), 1) := by decide +kernel
theorem dN_Tr_51 : decode cN_Tr 51 = .ok (.invokestatic 27, 3) := by decide +kernel
theorem dN_Tr_54 : decode cN_Tr 54 = .ok (.aload_n 0, 1) := by decide +kernel
theorem dN_Tr_55 : decode cN_Tr 55 = .ok (.getfield 15, 3) := by decide +kernel
theorem dN_Tr_58 : decode cN_Tr 58 = .ok (.iconst 0, 1) := by decide +kernel
theorem dN_Tr_59 : decode cN_Tr 59 = .ok (.iconst 1, 1) := by decide +kernel
theorem dN_Tr_60 : decode cN_Tr 60 = .ok (.iastore, 1) := by decide +kernel
theorem dN_Tr_61 : decode cN_Tr 61 = .ok (.aload_n 0, 1) := by decide +kernel
theorem dN_Tr_62 : decode cN_Tr 62 = .ok (.iconst 1, 1) := by decide +kernel
theorem dN_Tr_63 : decode cN_Tr 63 = .ok (.putfield 33, 3) := by decide +kernel
theorem dN_Tr_66 : decode cN_Tr 66 = .ok (.return_, 1) := by decide +kernel
theorem fN_Tr_9 : FF "PackedImage$Tree" 9 1 0 (.array .int) := ⟨"PackedImage$Tree", FTr, 6, GTr, rfl, by decide, GwTr, wa 36 (by decide +kernel) rfl, GtTr, GnTr, rfl, rfl, by decide +kernel⟩
theorem fN_Tr_15 : FF "PackedImage$Tree" 15 1 1 (.array .int) := ⟨"PackedImage$Tree", FTr, 6, GTr, rfl, by decide, GwTr, wa 37 (by decide +kernel) rfl, GtTr, GnTr, rfl, rfl, by decide +kernel⟩
theorem fN_Tr_18 : FF "PackedImage$Tree" 18 1 2 (.array .int) := ⟨"PackedImage$Tree", FTr, 6, GTr, rfl, by decide, GwTr, wa 38 (by decide +kernel) rfl, GtTr, GnTr, rfl, rfl, by decide +kernel⟩
theorem fN_Tr_21 : FF "PackedImage$Tree" 21 1 3 (.array .int) := ⟨"PackedImage$Tree", FTr, 6, GTr, rfl, by decide, GwTr, wa 39 (by decide +kernel) rfl, GtTr, GnTr, rfl, rfl, by decide +kernel⟩
theorem fN_Tr_24 : FF "PackedImage$Tree" 24 1 4 (.array .int) := ⟨"PackedImage$Tree", FTr, 6, GTr, rfl, by decide, GwTr, wa 40 (by decide +kernel) rfl, GtTr, GnTr, rfl, rfl, by decide +kernel⟩
theorem gN_Tr_24 : FL "PackedImage$Tree" 24 1 4 := ⟨"PackedImage$Tree", FTr, 6, rfl, by decide, GwTr, Or.inl (wa 40 (by decide +kernel) rfl)⟩
theorem gN_Tr_15 : FL "PackedImage$Tree" 15 1 1 := ⟨"PackedImage$Tree", FTr, 6, rfl, by decide, GwTr, Or.inl (wa 37 (by decide +kernel) rfl)⟩
theorem gN_Tr_33 : FL "PackedImage$Tree" 33 1 5 := ⟨"PackedImage$Tree", FTr, 6, rfl, by decide, GwTr, Or.inl (wa 41 (by decide +kernel) rfl)⟩
theorem pN_Tr_33 : FP 1 5 .int := ⟨"PackedImage$Tree", FTr, 6, GTr, rfl, GtTr, GnTr, rfl, by decide +kernel⟩
def TN_Tr : List Sh := [.inl (1, [some 1, some 2, some 3, some 4, some 5, none]), .inr (0, 16), .inr (0, 16), .inr (0, 16), .inr (0, 960), .inr (0, 416)]
def MN_Tr : Mm := fun q => match q with
  | 0 => fun k => match k with | 5 => 1 | _ => 0
  | 2 => fun i => if i = 0 then 1 else 0
  | 5 => fun i => fiM (fun _ _ => 0) 0 416 (-1) 0 i
  | _ => fun _ => 0
def yN_Pa : MethodName := ⟨"PackedImage$Packer", "<init>", "()V"⟩
abbrev cN_Pa : ByteArray := prog_6_method_1_code
theorem oN_Pa : Cond.code yN_Pa cN_Pa 1 none ∈ WA := wa 69 (by decide +kernel) rfl
abbrev zN_Pa : List Value := [.null, .null, .null, .int (oI 0), .int (oI 0), .int (oI 0), .int (oI 0), .int (oI 0), .int (oI 0)]
theorem dN_Pa_0 : decode cN_Pa 0 = .ok (.aload_n 0, 1) := by decide +kernel
theorem dN_Pa_1 : decode cN_Pa 1 = .ok (.invokespecial 3, 3) := by decide +kernel
theorem dN_Pa_4 : decode cN_Pa 4 = .ok (.aload_n 0, 1) := by decide +kernel
theorem dN_Pa_5 : decode cN_Pa 5 = .ok (.bipush 60, 2) := by decide +kernel
theorem dN_Pa_7 : decode cN_Pa 7 = .ok (.newarray .int, 2) := by decide +kernel
theorem dN_Pa_9 : decode cN_Pa 9 = .ok (.putfield 9, 3) := by decide +kernel
theorem dN_Pa_12 : decode cN_Pa 12 = .ok (.aload_n 0, 1) := by decide +kernel
theorem dN_Pa_13 : decode cN_Pa 13 = .ok (.sipush 176, 3) := by decide +kernel
theorem dN_Pa_16 : decode cN_Pa 16 = .ok (.newarray .int, 2) := by decide +kernel
theorem dN_Pa_18 : decode cN_Pa 18 = .ok (.putfield 15, 3) := by decide +kernel
theorem dN_Pa_21 : decode cN_Pa 21 = .ok (.aload_n 0, 1) := by decide +kernel
theorem dN_Pa_22 : decode cN_Pa 22 = .ok (.bipush 11, 2) := by decide +kernel
theorem dN_Pa_24 : decode cN_Pa 24 = .ok (.newarray .int, 2) := by decide +kernel
theorem dN_Pa_26 : decode cN_Pa 26 = .ok (.putfield 18, 3) := by decide +kernel
theorem dN_Pa_29 : decode cN_Pa 29 = .ok (.return_, 1) := by decide +kernel
theorem fN_Pa_9 : FF "PackedImage$Packer" 9 3 0 (.array .int) := ⟨"PackedImage$Packer", FPa, 9, GPa, rfl, by decide, GwPa, wa 71 (by decide +kernel) rfl, GtPa, GnPa, rfl, rfl, by decide +kernel⟩
theorem fN_Pa_15 : FF "PackedImage$Packer" 15 3 1 (.array .int) := ⟨"PackedImage$Packer", FPa, 9, GPa, rfl, by decide, GwPa, wa 72 (by decide +kernel) rfl, GtPa, GnPa, rfl, rfl, by decide +kernel⟩
theorem fN_Pa_18 : FF "PackedImage$Packer" 18 3 2 (.array .int) := ⟨"PackedImage$Packer", FPa, 9, GPa, rfl, by decide, GwPa, wa 74 (by decide +kernel) rfl, GtPa, GnPa, rfl, rfl, by decide +kernel⟩
def TN_Pa : List Sh := [.inl (3, [some 1, some 2, some 3, none, none, none, none, none, none]), .inr (0, 60), .inr (0, 176), .inr (0, 11)]
def MN_Pa : Mm := fun q => match q with
  | 0 => fun _ => 0

  | _ => fun _ => 0
def yN_Bu : MethodName := ⟨"PackedImage$Builder", "<init>", "()V"⟩
abbrev cN_Bu : ByteArray := prog_2_method_1_code
theorem oN_Bu : Cond.code yN_Bu cN_Bu 1 none ∈ WA := wa 60 (by decide +kernel) rfl
abbrev zN_Bu : List Value := [.null, .null, .null, .null, .null, .int (oI 0), .int (oI 0), .int (oI 0)]
theorem dN_Bu_0 : decode cN_Bu 0 = .ok (.aload_n 0, 1) := by decide +kernel
theorem dN_Bu_1 : decode cN_Bu 1 = .ok (.invokespecial 3, 3) := by decide +kernel
theorem dN_Bu_4 : decode cN_Bu 4 = .ok (.aload_n 0, 1) := by decide +kernel
theorem dN_Bu_5 : decode cN_Bu 5 = .ok (.sipush 1024, 3) := by decide +kernel
theorem dN_Bu_8 : decode cN_Bu 8 = .ok (.newarray .int, 2) := by decide +kernel
theorem dN_Bu_10 : decode cN_Bu 10 = .ok (.putfield 9, 3) := by decide +kernel
theorem dN_Bu_13 : decode cN_Bu 13 = .ok (.aload_n 0, 1) := by decide +kernel
theorem dN_Bu_14 : decode cN_Bu 14 = .ok (.bipush 78, 2) := by decide +kernel
theorem dN_Bu_16 : decode cN_Bu 16 = .ok (.invokestatic 15, 3) := by decide +kernel
theorem dN_Bu_19 : decode cN_Bu 19 = .ok (.bipush 16, 2) := by decide +kernel
theorem dN_Bu_21 : decode cN_Bu 21 = .ok (.imul, 1) := by decide +kernel
theorem dN_Bu_22 : decode cN_Bu 22 = .ok (.newarray .int, 2) := by decide +kernel
theorem dN_Bu_24 : decode cN_Bu 24 = .ok (.putfield 19, 3) := by decide +kernel
theorem dN_Bu_27 : decode cN_Bu 27 = .ok (.aload_n 0, 1) := by decide +kernel
theorem dN_Bu_28 : decode cN_Bu 28 = .ok (.bipush 16, 2) := by decide +kernel
theorem dN_Bu_30 : decode cN_Bu 30 = .ok (.newarray .int, 2) := by decide +kernel
theorem dN_Bu_32 : decode cN_Bu 32 = .ok (.putfield 22, 3) := by decide +kernel
theorem dN_Bu_35 : decode cN_Bu 35 = .ok (.aload_n 0, 1) := by decide +kernel
theorem dN_Bu_36 : decode cN_Bu 36 = .ok (.bipush 16, 2) := by decide +kernel
theorem dN_Bu_38 : decode cN_Bu 38 = .ok (.newarray .int, 2) := by decide +kernel
theorem dN_Bu_40 : decode cN_Bu 40 = .ok (.putfield 25, 3) := by decide +kernel
theorem dN_Bu_43 : decode cN_Bu 43 = .ok (.aload_n 0, 1) := by decide +kernel
theorem dN_Bu_44 : decode cN_Bu 44 = .ok (.new 28, 3) := by decide +kernel
theorem dN_Bu_47 : decode cN_Bu 47 = .ok (.dup, 1) := by decide +kernel
theorem dN_Bu_48 : decode cN_Bu 48 = .ok (.invokespecial 30, 3) := by decide +kernel
theorem dN_Bu_51 : decode cN_Bu 51 = .ok (.putfield 31, 3) := by decide +kernel
theorem dN_Bu_54 : decode cN_Bu 54 = .ok (.return_, 1) := by decide +kernel
theorem fN_Bu_9 : FF "PackedImage$Builder" 9 2 0 (.array .int) := ⟨"PackedImage$Builder", FBu, 8, GBu, rfl, by decide, GwBu, wa 102 (by decide +kernel) rfl, GtBu, GnBu, rfl, rfl, by decide +kernel⟩
theorem fN_Bu_19 : FF "PackedImage$Builder" 19 2 1 (.array .int) := ⟨"PackedImage$Builder", FBu, 8, GBu, rfl, by decide, GwBu, wa 104 (by decide +kernel) rfl, GtBu, GnBu, rfl, rfl, by decide +kernel⟩
theorem fN_Bu_22 : FF "PackedImage$Builder" 22 2 2 (.array .int) := ⟨"PackedImage$Builder", FBu, 8, GBu, rfl, by decide, GwBu, wa 105 (by decide +kernel) rfl, GtBu, GnBu, rfl, rfl, by decide +kernel⟩
theorem fN_Bu_25 : FF "PackedImage$Builder" 25 2 3 (.array .int) := ⟨"PackedImage$Builder", FBu, 8, GBu, rfl, by decide, GwBu, wa 106 (by decide +kernel) rfl, GtBu, GnBu, rfl, rfl, by decide +kernel⟩
theorem nN_Bu_28_Pa : NI "PackedImage$Builder" 28 30 3 yN_Pa 9 zN_Pa cN_Pa 1 := ⟨FPa, GPa, rfl, GwPa, GtPa, fun j hj => match j, hj with | 0, _ => rfl | 1, _ => rfl | 2, _ => rfl | 3, _ => rfl | 4, _ => rfl | 5, _ => rfl | 6, _ => rfl | 7, _ => rfl | 8, _ => rfl | k + 9, h => absurd h (by omega), wa 65 (by decide +kernel) rfl, wa 66 (by decide +kernel) rfl, wa 5 (by decide +kernel) rfl, wa 67 (by decide +kernel) rfl, wa 68 (by decide +kernel) rfl, oN_Pa, by decide, rfl, rfl⟩
theorem fN_Bu_31 : FF "PackedImage$Builder" 31 2 4 (.object "PackedImage$Packer") := ⟨"PackedImage$Builder", FBu, 8, GBu, rfl, by decide, GwBu, wa 107 (by decide +kernel) rfl, GtBu, GnBu, rfl, rfl, by decide +kernel⟩
def TN_Bu : List Sh := [.inl (2, [some 1, some 2, some 3, some 4, some 5, none, none, none]), .inr (0, 1024), .inr (0, 80), .inr (0, 16), .inr (0, 16), .inl (3, [some 6, some 7, some 8, none, none, none, none, none, none]), .inr (0, 60), .inr (0, 176), .inr (0, 11)]
def MN_Bu : Mm := fun q => match q with
  | 0 => fun _ => 0
  | 5 => MN_Pa 0
  | 6 => MN_Pa 1
  | 7 => MN_Pa 2
  | 8 => MN_Pa 3
  | _ => fun _ => 0
def yN_De : MethodName := ⟨"PackedImage$Device", "<init>", "()V"⟩
abbrev cN_De : ByteArray := prog_5_method_1_code
theorem oN_De : Cond.code yN_De cN_De 1 none ∈ WA := wa 133 (by decide +kernel) rfl
abbrev zN_De : List Value := [.null, .null, .int (oI 0), .int (oI 0), .int (oI 0), .int (oI 0)]
theorem dN_De_0 : decode cN_De 0 = .ok (.aload_n 0, 1) := by decide +kernel
theorem dN_De_1 : decode cN_De 1 = .ok (.invokespecial 3, 3) := by decide +kernel
theorem dN_De_4 : decode cN_De 4 = .ok (.aload_n 0, 1) := by decide +kernel
theorem dN_De_5 : decode cN_De 5 = .ok (.sipush 1024, 3) := by decide +kernel
theorem dN_De_8 : decode cN_De 8 = .ok (.newarray .int, 2) := by decide +kernel
theorem dN_De_10 : decode cN_De 10 = .ok (.putfield 9, 3) := by decide +kernel
theorem dN_De_13 : decode cN_De 13 = .ok (.aload_n 0, 1) := by decide +kernel
theorem dN_De_14 : decode cN_De 14 = .ok (.bipush 126, 2) := by decide +kernel
theorem dN_De_16 : decode cN_De 16 = .ok (.newarray .boolean, 2) := by decide +kernel
theorem dN_De_18 : decode cN_De 18 = .ok (.putfield 15, 3) := by decide +kernel
theorem dN_De_21 : decode cN_De 21 = .ok (.return_, 1) := by decide +kernel
theorem fN_De_9 : FF "PackedImage$Device" 9 4 0 (.array .int) := ⟨"PackedImage$Device", FDe, 6, GDe, rfl, by decide, GwDe, wa 135 (by decide +kernel) rfl, GtDe, GnDe, rfl, rfl, by decide +kernel⟩
theorem fN_De_15 : FF "PackedImage$Device" 15 4 1 (.array .boolean) := ⟨"PackedImage$Device", FDe, 6, GDe, rfl, by decide, GwDe, wa 136 (by decide +kernel) rfl, GtDe, GnDe, rfl, rfl, by decide +kernel⟩
def TN_De : List Sh := [.inl (4, [some 1, some 2, none, none, none, none]), .inr (0, 1024), .inr (1, 126)]
def MN_De : Mm := fun q => match q with
  | 0 => fun _ => 0

  | _ => fun _ => 0
def yN_Cl : MethodName := ⟨"PackedImage$Cluster", "<init>", "()V"⟩
abbrev cN_Cl : ByteArray := prog_4_method_1_code
theorem oN_Cl : Cond.code yN_Cl cN_Cl 1 none ∈ WA := wa 167 (by decide +kernel) rfl
abbrev zN_Cl : List Value := [.null, .int (oI 0), .int (oI 0), .int (oI 0), .int (oI 0)]
theorem dN_Cl_0 : decode cN_Cl 0 = .ok (.aload_n 0, 1) := by decide +kernel
theorem dN_Cl_1 : decode cN_Cl 1 = .ok (.invokespecial 3, 3) := by decide +kernel
theorem dN_Cl_4 : decode cN_Cl 4 = .ok (.aload_n 0, 1) := by decide +kernel
theorem dN_Cl_5 : decode cN_Cl 5 = .ok (.sipush 255, 3) := by decide +kernel
theorem dN_Cl_8 : decode cN_Cl 8 = .ok (.newarray .int, 2) := by decide +kernel
theorem dN_Cl_10 : decode cN_Cl 10 = .ok (.putfield 9, 3) := by decide +kernel
theorem dN_Cl_13 : decode cN_Cl 13 = .ok (.aload_n 0, 1) := by decide +kernel
theorem dN_Cl_14 : decode cN_Cl 14 = .ok (.iconst (-1), 1) := by decide +kernel
theorem dN_Cl_15 : decode cN_Cl 15 = .ok (.putfield 15, 3) := by decide +kernel
theorem dN_Cl_18 : decode cN_Cl 18 = .ok (.return_, 1) := by decide +kernel
theorem fN_Cl_9 : FF "PackedImage$Cluster" 9 6 0 (.array .int) := ⟨"PackedImage$Cluster", FCl, 5, GCl, rfl, by decide, GwCl, wa 169 (by decide +kernel) rfl, GtCl, GnCl, rfl, rfl, by decide +kernel⟩
theorem gN_Cl_15 : FL "PackedImage$Cluster" 15 6 1 := ⟨"PackedImage$Cluster", FCl, 5, rfl, by decide, GwCl, Or.inl (wa 170 (by decide +kernel) rfl)⟩
theorem pN_Cl_15 : FP 6 1 .int := ⟨"PackedImage$Cluster", FCl, 5, GCl, rfl, GtCl, GnCl, rfl, by decide +kernel⟩
def TN_Cl : List Sh := [.inl (6, [some 1, none, none, none, none]), .inr (0, 255)]
def MN_Cl : Mm := fun q => match q with
  | 0 => fun k => match k with | 1 => -1 | _ => 0

  | _ => fun _ => 0
def yN_Ca : MethodName := ⟨"PackedImage$Cache", "<init>", "()V"⟩
abbrev cN_Ca : ByteArray := prog_3_method_1_code
theorem oN_Ca : Cond.code yN_Ca cN_Ca 1 none ∈ WA := wa 161 (by decide +kernel) rfl
abbrev zN_Ca : List Value := [.null, .null, .null, .int (oI 0), .int (oI 0)]
theorem dN_Ca_0 : decode cN_Ca 0 = .ok (.aload_n 0, 1) := by decide +kernel
theorem dN_Ca_1 : decode cN_Ca 1 = .ok (.invokespecial 3, 3) := by decide +kernel
theorem dN_Ca_4 : decode cN_Ca 4 = .ok (.aload_n 0, 1) := by decide +kernel
theorem dN_Ca_5 : decode cN_Ca 5 = .ok (.new 9, 3) := by decide +kernel
theorem dN_Ca_8 : decode cN_Ca 8 = .ok (.dup, 1) := by decide +kernel
theorem dN_Ca_9 : decode cN_Ca 9 = .ok (.invokespecial 11, 3) := by decide +kernel
theorem dN_Ca_12 : decode cN_Ca 12 = .ok (.putfield 12, 3) := by decide +kernel
theorem dN_Ca_15 : decode cN_Ca 15 = .ok (.aload_n 0, 1) := by decide +kernel
theorem dN_Ca_16 : decode cN_Ca 16 = .ok (.new 9, 3) := by decide +kernel
theorem dN_Ca_19 : decode cN_Ca 19 = .ok (.dup, 1) := by decide +kernel
theorem dN_Ca_20 : decode cN_Ca 20 = .ok (.invokespecial 11, 3) := by decide +kernel
theorem dN_Ca_23 : decode cN_Ca 23 = .ok (.putfield 18, 3) := by decide +kernel
theorem dN_Ca_26 : decode cN_Ca 26 = .ok (.aload_n 0, 1) := by decide +kernel
theorem dN_Ca_27 : decode cN_Ca 27 = .ok (.new 9, 3) := by decide +kernel
theorem dN_Ca_30 : decode cN_Ca 30 = .ok (.dup, 1) := by decide +kernel
theorem dN_Ca_31 : decode cN_Ca 31 = .ok (.invokespecial 11, 3) := by decide +kernel
theorem dN_Ca_34 : decode cN_Ca 34 = .ok (.putfield 21, 3) := by decide +kernel
theorem dN_Ca_37 : decode cN_Ca 37 = .ok (.return_, 1) := by decide +kernel
theorem nN_Ca_9_Cl : NI "PackedImage$Cache" 9 11 6 yN_Cl 5 zN_Cl cN_Cl 1 := ⟨FCl, GCl, rfl, GwCl, GtCl, fun j hj => match j, hj with | 0, _ => rfl | 1, _ => rfl | 2, _ => rfl | 3, _ => rfl | 4, _ => rfl | k + 5, h => absurd h (by omega), wa 163 (by decide +kernel) rfl, wa 164 (by decide +kernel) rfl, wa 8 (by decide +kernel) rfl, wa 165 (by decide +kernel) rfl, wa 166 (by decide +kernel) rfl, oN_Cl, by decide, rfl, rfl⟩
theorem gN_Ca_12 : FL "PackedImage$Cache" 12 5 0 := ⟨"PackedImage$Cache", FCa, 5, rfl, by decide, GwCa, Or.inl (wa 186 (by decide +kernel) rfl)⟩
theorem pN_Ca_12 : FP 5 0 (.object "PackedImage$Cluster") := ⟨"PackedImage$Cache", FCa, 5, GCa, rfl, GtCa, GnCa, rfl, by decide +kernel⟩
theorem gN_Ca_18 : FL "PackedImage$Cache" 18 5 1 := ⟨"PackedImage$Cache", FCa, 5, rfl, by decide, GwCa, Or.inl (wa 188 (by decide +kernel) rfl)⟩
theorem pN_Ca_18 : FP 5 1 (.object "PackedImage$Cluster") := ⟨"PackedImage$Cache", FCa, 5, GCa, rfl, GtCa, GnCa, rfl, by decide +kernel⟩
theorem gN_Ca_21 : FL "PackedImage$Cache" 21 5 2 := ⟨"PackedImage$Cache", FCa, 5, rfl, by decide, GwCa, Or.inl (wa 189 (by decide +kernel) rfl)⟩
theorem pN_Ca_21 : FP 5 2 (.object "PackedImage$Cluster") := ⟨"PackedImage$Cache", FCa, 5, GCa, rfl, GtCa, GnCa, rfl, by decide +kernel⟩
def TN_Ca : List Sh := [.inl (5, [some 1, some 3, some 5, none, none]), .inl (6, [some 2, none, none, none, none]), .inr (0, 255), .inl (6, [some 4, none, none, none, none]), .inr (0, 255), .inl (6, [some 6, none, none, none, none]), .inr (0, 255)]
def MN_Ca : Mm := fun q => match q with
  | 0 => fun _ => 0
  | 1 => MN_Cl 0
  | 2 => MN_Cl 1
  | 3 => MN_Cl 0
  | 4 => MN_Cl 1
  | 5 => MN_Cl 0
  | 6 => MN_Cl 1
  | _ => fun _ => 0
def yN_X : MethodName := ⟨"PackedImage", "<init>", "()V"⟩
abbrev cN_X : ByteArray := prog_1_method_1_code
theorem oN_X : Cond.code yN_X cN_X 1 none ∈ WA := wa 23 (by decide +kernel) rfl
abbrev zN_X : List Value := [.null, .null, .null, .null, .null, .int (oI 0)]
theorem dN_X_0 : decode cN_X 0 = .ok (.aload_n 0, 1) := by decide +kernel
theorem dN_X_1 : decode cN_X 1 = .ok (.invokespecial 1, 3) := by decide +kernel
theorem dN_X_4 : decode cN_X 4 = .ok (.aload_n 0, 1) := by decide +kernel
theorem dN_X_5 : decode cN_X 5 = .ok (.new 7, 3) := by decide +kernel
theorem dN_X_8 : decode cN_X 8 = .ok (.dup, 1) := by decide +kernel
theorem dN_X_9 : decode cN_X 9 = .ok (.invokespecial 9, 3) := by decide +kernel
theorem dN_X_12 : decode cN_X 12 = .ok (.putfield 10, 3) := by decide +kernel
theorem dN_X_15 : decode cN_X 15 = .ok (.aload_n 0, 1) := by decide +kernel
theorem dN_X_16 : decode cN_X 16 = .ok (.new 16, 3) := by decide +kernel
theorem dN_X_19 : decode cN_X 19 = .ok (.dup, 1) := by decide +kernel
theorem dN_X_20 : decode cN_X 20 = .ok (.invokespecial 18, 3) := by decide +kernel
theorem dN_X_23 : decode cN_X 23 = .ok (.putfield 19, 3) := by decide +kernel
theorem dN_X_26 : decode cN_X 26 = .ok (.aload_n 0, 1) := by decide +kernel
theorem dN_X_27 : decode cN_X 27 = .ok (.new 23, 3) := by decide +kernel
theorem dN_X_30 : decode cN_X 30 = .ok (.dup, 1) := by decide +kernel
theorem dN_X_31 : decode cN_X 31 = .ok (.invokespecial 25, 3) := by decide +kernel
theorem dN_X_34 : decode cN_X 34 = .ok (.putfield 26, 3) := by decide +kernel
theorem dN_X_37 : decode cN_X 37 = .ok (.aload_n 0, 1) := by decide +kernel
theorem dN_X_38 : decode cN_X 38 = .ok (.new 30, 3) := by decide +kernel
theorem dN_X_41 : decode cN_X 41 = .ok (.dup, 1) := by decide +kernel
theorem dN_X_42 : decode cN_X 42 = .ok (.invokespecial 32, 3) := by decide +kernel
theorem dN_X_45 : decode cN_X 45 = .ok (.putfield 33, 3) := by decide +kernel
theorem dN_X_48 : decode cN_X 48 = .ok (.aload_n 0, 1) := by decide +kernel
theorem dN_X_49 : decode cN_X 49 = .ok (.bipush 20, 2) := by decide +kernel
theorem dN_X_51 : decode cN_X 51 = .ok (.newarray .int, 2) := by decide +kernel
theorem dN_X_53 : decode cN_X 53 = .ok (.putfield 37, 3) := by decide +kernel
theorem dN_X_56 : decode cN_X 56 = .ok (.aload_n 0, 1) := by decide +kernel
theorem dN_X_57 : decode cN_X 57 = .ok (.iconst 0, 1) := by decide +kernel
theorem dN_X_58 : decode cN_X 58 = .ok (.putfield 41, 3) := by decide +kernel
theorem dN_X_61 : decode cN_X 61 = .ok (.return_, 1) := by decide +kernel
theorem nN_X_7_Tr : NI "PackedImage" 7 9 1 yN_Tr 6 zN_Tr cN_Tr 1 := ⟨FTr, GTr, rfl, GwTr, GtTr, fun j hj => match j, hj with | 0, _ => rfl | 1, _ => rfl | 2, _ => rfl | 3, _ => rfl | 4, _ => rfl | 5, _ => rfl | k + 6, h => absurd h (by omega), wa 27 (by decide +kernel) rfl, wa 28 (by decide +kernel) rfl, wa 2 (by decide +kernel) rfl, wa 29 (by decide +kernel) rfl, wa 30 (by decide +kernel) rfl, oN_Tr, by decide, rfl, rfl⟩
theorem fN_X_10 : FF "PackedImage" 10 0 0 (.object "PackedImage$Tree") := ⟨"PackedImage", FX, 6, GX, rfl, by decide, GwX, wa 206 (by decide +kernel) rfl, GtX, GnX, rfl, rfl, by decide +kernel⟩
theorem nN_X_16_Bu : NI "PackedImage" 16 18 2 yN_Bu 8 zN_Bu cN_Bu 1 := ⟨FBu, GBu, rfl, GwBu, GtBu, fun j hj => match j, hj with | 0, _ => rfl | 1, _ => rfl | 2, _ => rfl | 3, _ => rfl | 4, _ => rfl | 5, _ => rfl | 6, _ => rfl | 7, _ => rfl | k + 8, h => absurd h (by omega), wa 56 (by decide +kernel) rfl, wa 57 (by decide +kernel) rfl, wa 4 (by decide +kernel) rfl, wa 58 (by decide +kernel) rfl, wa 59 (by decide +kernel) rfl, oN_Bu, by decide, rfl, rfl⟩
theorem fN_X_19 : FF "PackedImage" 19 0 1 (.object "PackedImage$Builder") := ⟨"PackedImage", FX, 6, GX, rfl, by decide, GwX, wa 207 (by decide +kernel) rfl, GtX, GnX, rfl, rfl, by decide +kernel⟩
theorem nN_X_23_De : NI "PackedImage" 23 25 4 yN_De 6 zN_De cN_De 1 := ⟨FDe, GDe, rfl, GwDe, GtDe, fun j hj => match j, hj with | 0, _ => rfl | 1, _ => rfl | 2, _ => rfl | 3, _ => rfl | 4, _ => rfl | 5, _ => rfl | k + 6, h => absurd h (by omega), wa 129 (by decide +kernel) rfl, wa 130 (by decide +kernel) rfl, wa 6 (by decide +kernel) rfl, wa 131 (by decide +kernel) rfl, wa 132 (by decide +kernel) rfl, oN_De, by decide, rfl, rfl⟩
theorem fN_X_26 : FF "PackedImage" 26 0 2 (.object "PackedImage$Device") := ⟨"PackedImage", FX, 6, GX, rfl, by decide, GwX, wa 208 (by decide +kernel) rfl, GtX, GnX, rfl, rfl, by decide +kernel⟩
theorem nN_X_30_Ca : NI "PackedImage" 30 32 5 yN_Ca 5 zN_Ca cN_Ca 1 := ⟨FCa, GCa, rfl, GwCa, GtCa, fun j hj => match j, hj with | 0, _ => rfl | 1, _ => rfl | 2, _ => rfl | 3, _ => rfl | 4, _ => rfl | k + 5, h => absurd h (by omega), wa 157 (by decide +kernel) rfl, wa 158 (by decide +kernel) rfl, wa 7 (by decide +kernel) rfl, wa 159 (by decide +kernel) rfl, wa 160 (by decide +kernel) rfl, oN_Ca, by decide, rfl, rfl⟩
theorem fN_X_33 : FF "PackedImage" 33 0 3 (.object "PackedImage$Cache") := ⟨"PackedImage", FX, 6, GX, rfl, by decide, GwX, wa 209 (by decide +kernel) rfl, GtX, GnX, rfl, rfl, by decide +kernel⟩
theorem fN_X_37 : FF "PackedImage" 37 0 4 (.array .int) := ⟨"PackedImage", FX, 6, GX, rfl, by decide, GwX, wa 210 (by decide +kernel) rfl, GtX, GnX, rfl, rfl, by decide +kernel⟩
theorem gN_X_41 : FL "PackedImage" 41 0 5 := ⟨"PackedImage", FX, 6, rfl, by decide, GwX, Or.inl (wa 211 (by decide +kernel) rfl)⟩
theorem pN_X_41 : FP 0 5 .int := ⟨"PackedImage", FX, 6, GX, rfl, GtX, GnX, rfl, by decide +kernel⟩
def TN_X : List Sh := [.inl (0, [some 1, some 7, some 16, some 19, some 26, none]), .inl (1, [some 2, some 3, some 4, some 5, some 6, none]), .inr (0, 16), .inr (0, 16), .inr (0, 16), .inr (0, 960), .inr (0, 416), .inl (2, [some 8, some 9, some 10, some 11, some 12, none, none, none]), .inr (0, 1024), .inr (0, 80), .inr (0, 16), .inr (0, 16), .inl (3, [some 13, some 14, some 15, none, none, none, none, none, none]), .inr (0, 60), .inr (0, 176), .inr (0, 11), .inl (4, [some 17, some 18, none, none, none, none]), .inr (0, 1024), .inr (1, 126), .inl (5, [some 20, some 22, some 24, none, none]), .inl (6, [some 21, none, none, none, none]), .inr (0, 255), .inl (6, [some 23, none, none, none, none]), .inr (0, 255), .inl (6, [some 25, none, none, none, none]), .inr (0, 255), .inr (0, 20)]
def cxx {α : Type} (x0 : α) (f1 f2 f3 f4 : Nat → α) (x5 : α) : Nat → α := fun i => if i = 0 then x0 else if i < 7 then f1 (i - 1) else if i < 16 then f2 (i - 7) else if i < 19 then f3 (i - 16) else if i < 26 then f4 (i - 19) else x5
theorem catx {α : Type} {x0 : α} {f1 f2 f3 f4 : Nat → α} {x5 : α} {i k : Nat} (h0 : ¬ i = 0) (h1 : i < 7) (e : i - 1 = k) : cxx x0 f1 f2 f3 f4 x5 i = f1 k := by unfold cxx; rw [if_neg h0, if_pos h1, e]
theorem catx2 {α : Type} {x0 : α} {f1 f2 f3 f4 : Nat → α} {x5 : α} {i k : Nat} (h0 : ¬ i = 0) (h1 : ¬ i < 7) (h2 : i < 16) (e : i - 7 = k) : cxx x0 f1 f2 f3 f4 x5 i = f2 k := by unfold cxx; rw [if_neg h0, if_neg h1, if_pos h2, e]
theorem catx3 {α : Type} {x0 : α} {f1 f2 f3 f4 : Nat → α} {x5 : α} {i k : Nat} (h0 : ¬ i = 0) (h1 : ¬ i < 7) (h2 : ¬ i < 16) (h3 : i < 19) (e : i - 16 = k) : cxx x0 f1 f2 f3 f4 x5 i = f3 k := by unfold cxx; rw [if_neg h0, if_neg h1, if_neg h2, if_pos h3, e]
theorem catx4 {α : Type} {x0 : α} {f1 f2 f3 f4 : Nat → α} {x5 : α} {i k : Nat} (h0 : ¬ i = 0) (h1 : ¬ i < 7) (h2 : ¬ i < 16) (h3 : ¬ i < 19) (h4 : i < 26) (e : i - 19 = k) : cxx x0 f1 f2 f3 f4 x5 i = f4 k := by unfold cxx; rw [if_neg h0, if_neg h1, if_neg h2, if_neg h3, if_pos h4, e]
abbrev adX (h : Nat) (a1 a2 a3 a4 : Nat → Nat) (q5 : Nat) : Nat → Nat := cxx h a1 a2 a3 a4 q5
abbrev MN_X : Mm := cxx (fun _ => 0) MN_Tr MN_Bu MN_De MN_Ca (fun _ => 0)
def yN_R : MethodName := ⟨"PackedImageModel", "<init>", "()V"⟩
abbrev cN_R : ByteArray := prog_9_method_1_code
theorem oN_R : Cond.code yN_R cN_R 2 none ∈ WA := wa 795 (by decide +kernel) rfl
abbrev zN_R : List Value := [.int (oI 0), .int (oI 0), .null, .null, .null, .null, .null, .null, .null, .null, .null, .null, .null, .null, .int (oI 0), .int (oI 0), .null, .int (oI 0), .int (oI 0), .int (oI 0), .null, .null, .null, .null, .int (oI 0), .int (oI 0), .null, .int (oI 0)]
theorem dN_R_0 : decode cN_R 0 = .ok (.aload_n 0, 1) := by decide +kernel
theorem dN_R_1 : decode cN_R 1 = .ok (.invokespecial 1, 3) := by decide +kernel
theorem dN_R_4 : decode cN_R 4 = .ok (.aload_n 0, 1) := by decide +kernel
theorem dN_R_5 : decode cN_R 5 = .ok (.iconst 1, 1) := by decide +kernel
theorem dN_R_6 : decode cN_R 6 = .ok (.putfield 7, 3) := by decide +kernel
theorem dN_R_9 : decode cN_R 9 = .ok (.aload_n 0, 1) := by decide +kernel
theorem dN_R_10 : decode cN_R 10 = .ok (.bipush 16, 2) := by decide +kernel
theorem dN_R_12 : decode cN_R 12 = .ok (.newarray .int, 2) := by decide +kernel
theorem dN_R_14 : decode cN_R 14 = .ok (.putfield 13, 3) := by decide +kernel
theorem dN_R_17 : decode cN_R 17 = .ok (.aload_n 0, 1) := by decide +kernel
theorem dN_R_18 : decode cN_R 18 = .ok (.sipush 416, 3) := by decide +kernel
theorem dN_R_21 : decode cN_R 21 = .ok (.newarray .int, 2) := by decide +kernel
theorem dN_R_23 : decode cN_R 23 = .ok (.putfield 17, 3) := by decide +kernel
theorem dN_R_26 : decode cN_R 26 = .ok (.aload_n 0, 1) := by decide +kernel
theorem dN_R_27 : decode cN_R 27 = .ok (.sipush 960, 3) := by decide +kernel
theorem dN_R_30 : decode cN_R 30 = .ok (.newarray .int, 2) := by decide +kernel
theorem dN_R_32 : decode cN_R 32 = .ok (.putfield 20, 3) := by decide +kernel
theorem dN_R_35 : decode cN_R 35 = .ok (.aload_n 0, 1) := by decide +kernel
theorem dN_R_36 : decode cN_R 36 = .ok (.bipush 16, 2) := by decide +kernel
theorem dN_R_38 : decode cN_R 38 = .ok (.newarray .int, 2) := by decide +kernel
theorem dN_R_40 : decode cN_R 40 = .ok (.putfield 23, 3) := by decide +kernel
theorem dN_R_43 : decode cN_R 43 = .ok (.aload_n 0, 1) := by decide +kernel
theorem dN_R_44 : decode cN_R 44 = .ok (.bipush 16, 2) := by decide +kernel
theorem dN_R_46 : decode cN_R 46 = .ok (.newarray .int, 2) := by decide +kernel
theorem dN_R_48 : decode cN_R 48 = .ok (.putfield 26, 3) := by decide +kernel
theorem dN_R_51 : decode cN_R 51 = .ok (.aload_n 0, 1) := by decide +kernel
theorem dN_R_52 : decode cN_R 52 = .ok (.bipush 16, 2) := by decide +kernel
theorem dN_R_54 : decode cN_R 54 = .ok (.newarray .int, 2) := by decide +kernel
theorem dN_R_56 : decode cN_R 56 = .ok (.putfield 29, 3) := by decide +kernel
theorem dN_R_59 : decode cN_R 59 = .ok (.aload_n 0, 1) := by decide +kernel
theorem dN_R_60 : decode cN_R 60 = .ok (.bipush 16, 2) := by decide +kernel
theorem dN_R_62 : decode cN_R 62 = .ok (.newarray .int, 2) := by decide +kernel
theorem dN_R_64 : decode cN_R 64 = .ok (.putfield 32, 3) := by decide +kernel
theorem dN_R_67 : decode cN_R 67 = .ok (.aload_n 0, 1) := by decide +kernel
theorem dN_R_68 : decode cN_R 68 = .ok (.bipush 16, 2) := by decide +kernel
theorem dN_R_70 : decode cN_R 70 = .ok (.newarray .boolean, 2) := by decide +kernel
theorem dN_R_72 : decode cN_R 72 = .ok (.putfield 35, 3) := by decide +kernel
theorem dN_R_75 : decode cN_R 75 = .ok (.aload_n 0, 1) := by decide +kernel
theorem dN_R_76 : decode cN_R 76 = .ok (.sipush 1024, 3) := by decide +kernel
theorem dN_R_79 : decode cN_R 79 = .ok (.newarray .int, 2) := by decide +kernel
theorem dN_R_81 : decode cN_R 81 = .ok (.putfield 39, 3) := by decide +kernel
theorem dN_R_84 : decode cN_R 84 = .ok (.aload_n 0, 1) := by decide +kernel
theorem dN_R_85 : decode cN_R 85 = .ok (.sipush 192, 3) := by decide +kernel
theorem dN_R_88 : decode cN_R 88 = .ok (.newarray .int, 2) := by decide +kernel
theorem dN_R_90 : decode cN_R 90 = .ok (.putfield 42, 3) := by decide +kernel
theorem dN_R_93 : decode cN_R 93 = .ok (.aload_n 0, 1) := by decide +kernel
theorem dN_R_94 : decode cN_R 94 = .ok (.sipush 192, 3) := by decide +kernel
theorem dN_R_97 : decode cN_R 97 = .ok (.newarray .int, 2) := by decide +kernel
theorem dN_R_99 : decode cN_R 99 = .ok (.putfield 45, 3) := by decide +kernel
theorem dN_R_102 : decode cN_R 102 = .ok (.aload_n 0, 1) := by decide +kernel
theorem dN_R_103 : decode cN_R 103 = .ok (.bipush 12, 2) := by decide +kernel
theorem dN_R_105 : decode cN_R 105 = .ok (.newarray .int, 2) := by decide +kernel
theorem dN_R_107 : decode cN_R 107 = .ok (.putfield 48, 3) := by decide +kernel
theorem dN_R_110 : decode cN_R 110 = .ok (.aload_n 0, 1) := by decide +kernel
theorem dN_R_111 : decode cN_R 111 = .ok (.sipush 1024, 3) := by decide +kernel
theorem dN_R_114 : decode cN_R 114 = .ok (.newarray .int, 2) := by decide +kernel
theorem dN_R_116 : decode cN_R 116 = .ok (.putfield 51, 3) := by decide +kernel
theorem dN_R_119 : decode cN_R 119 = .ok (.aload_n 0, 1) := by decide +kernel
theorem dN_R_120 : decode cN_R 120 = .ok (.sipush 256, 3) := by decide +kernel
theorem dN_R_123 : decode cN_R 123 = .ok (.newarray .boolean, 2) := by decide +kernel
theorem dN_R_125 : decode cN_R 125 = .ok (.putfield 54, 3) := by decide +kernel
theorem dN_R_128 : decode cN_R 128 = .ok (.aload_n 0, 1) := by decide +kernel
theorem dN_R_129 : decode cN_R 129 = .ok (.sipush 256, 3) := by decide +kernel
theorem dN_R_132 : decode cN_R 132 = .ok (.newarray .int, 2) := by decide +kernel
theorem dN_R_134 : decode cN_R 134 = .ok (.putfield 57, 3) := by decide +kernel
theorem dN_R_137 : decode cN_R 137 = .ok (.aload_n 0, 1) := by decide +kernel
theorem dN_R_138 : decode cN_R 138 = .ok (.iconst 2, 1) := by decide +kernel
theorem dN_R_139 : decode cN_R 139 = .ok (.newarray .int, 2) := by decide +kernel
theorem dN_R_141 : decode cN_R 141 = .ok (.putfield 60, 3) := by decide +kernel
theorem dN_R_144 : decode cN_R 144 = .ok (.aload_n 0, 1) := by decide +kernel
theorem dN_R_145 : decode cN_R 145 = .ok (.iconst 2, 1) := by decide +kernel
theorem dN_R_146 : decode cN_R 146 = .ok (.newarray .int, 2) := by decide +kernel
theorem dN_R_148 : decode cN_R 148 = .ok (.putfield 63, 3) := by decide +kernel
theorem dN_R_151 : decode cN_R 151 = .ok (.aload_n 0, 1) := by decide +kernel
theorem dN_R_152 : decode cN_R 152 = .ok (.bipush 24, 2) := by decide +kernel
theorem dN_R_154 : decode cN_R 154 = .ok (.newarray .int, 2) := by decide +kernel
theorem dN_R_156 : decode cN_R 156 = .ok (.putfield 66, 3) := by decide +kernel
theorem dN_R_159 : decode cN_R 159 = .ok (.iconst 0, 1) := by decide +kernel
theorem dN_R_160 : decode cN_R 160 = .ok (.istore_n 1, 1) := by decide +kernel
theorem dN_R_161 : decode cN_R 161 = .ok (.iload_n 1, 1) := by decide +kernel
theorem dN_R_162 : decode cN_R 162 = .ok (.sipush 416, 3) := by decide +kernel
theorem dN_R_165 : decode cN_R 165 = .ok (.if_icmp .ge 16, 3) := by decide +kernel
theorem dN_R_168 : decode cN_R 168 = .ok (.aload_n 0, 1) := by decide +kernel
theorem dN_R_169 : decode cN_R 169 = .ok (.getfield 17, 3) := by decide +kernel
theorem dN_R_172 : decode cN_R 172 = .ok (.iload_n 1, 1) := by decide +kernel
theorem dN_R_173 : decode cN_R 173 = .ok (.iconst (-1), 1) := by decide +kernel
theorem dN_R_174 : decode cN_R 174 = .ok (.iastore, 1) := by decide +kernel
theorem dN_R_175 : decode cN_R 175 = .ok (.iinc 1 1, 3) := by decide +kernel
theorem dN_R_178 : decode cN_R 178 = .ok (.goto (-17), 3) := by decide +kernel
theorem dN_R_181 : decode cN_R 181 = .ok (.aload_n 0, 1) := by decide +kernel
theorem dN_R_182 : decode cN_R 182 = .ok (.getfield 26, 3) := by decide +kernel
theorem dN_R_185 : decode cN_R 185 = .ok (.iconst 0, 1) := by decide +kernel
theorem dN_R_186 : decode cN_R 186 = .ok (.iconst 1, 1) := by decide +kernel
theorem dN_R_187 : decode cN_R 187 = .ok (.iastore, 1) := by decide +kernel
theorem dN_R_188 : decode cN_R 188 = .ok (.return_, 1) := by decide +kernel
theorem gN_R_7 : FL "PackedImageModel" 7 7 1 := ⟨"PackedImageModel", FR, 28, rfl, by decide, GwR, Or.inl (wa 798 (by decide +kernel) rfl)⟩
theorem pN_R_7 : FP 7 1 .int := ⟨"PackedImageModel", FR, 28, GR, rfl, GtR, GnR, rfl, by decide +kernel⟩
theorem fN_R_13 : FF "PackedImageModel" 13 7 2 (.array .int) := ⟨"PackedImageModel", FR, 28, GR, rfl, by decide, GwR, wa 799 (by decide +kernel) rfl, GtR, GnR, rfl, rfl, by decide +kernel⟩
theorem fN_R_17 : FF "PackedImageModel" 17 7 3 (.array .int) := ⟨"PackedImageModel", FR, 28, GR, rfl, by decide, GwR, wa 800 (by decide +kernel) rfl, GtR, GnR, rfl, rfl, by decide +kernel⟩
theorem fN_R_20 : FF "PackedImageModel" 20 7 4 (.array .int) := ⟨"PackedImageModel", FR, 28, GR, rfl, by decide, GwR, wa 801 (by decide +kernel) rfl, GtR, GnR, rfl, rfl, by decide +kernel⟩
theorem fN_R_23 : FF "PackedImageModel" 23 7 5 (.array .int) := ⟨"PackedImageModel", FR, 28, GR, rfl, by decide, GwR, wa 802 (by decide +kernel) rfl, GtR, GnR, rfl, rfl, by decide +kernel⟩
theorem fN_R_26 : FF "PackedImageModel" 26 7 6 (.array .int) := ⟨"PackedImageModel", FR, 28, GR, rfl, by decide, GwR, wa 803 (by decide +kernel) rfl, GtR, GnR, rfl, rfl, by decide +kernel⟩
theorem fN_R_29 : FF "PackedImageModel" 29 7 7 (.array .int) := ⟨"PackedImageModel", FR, 28, GR, rfl, by decide, GwR, wa 804 (by decide +kernel) rfl, GtR, GnR, rfl, rfl, by decide +kernel⟩
theorem fN_R_32 : FF "PackedImageModel" 32 7 8 (.array .int) := ⟨"PackedImageModel", FR, 28, GR, rfl, by decide, GwR, wa 805 (by decide +kernel) rfl, GtR, GnR, rfl, rfl, by decide +kernel⟩
theorem fN_R_35 : FF "PackedImageModel" 35 7 9 (.array .boolean) := ⟨"PackedImageModel", FR, 28, GR, rfl, by decide, GwR, wa 806 (by decide +kernel) rfl, GtR, GnR, rfl, rfl, by decide +kernel⟩
theorem fN_R_39 : FF "PackedImageModel" 39 7 10 (.array .int) := ⟨"PackedImageModel", FR, 28, GR, rfl, by decide, GwR, wa 807 (by decide +kernel) rfl, GtR, GnR, rfl, rfl, by decide +kernel⟩
theorem fN_R_42 : FF "PackedImageModel" 42 7 11 (.array .int) := ⟨"PackedImageModel", FR, 28, GR, rfl, by decide, GwR, wa 808 (by decide +kernel) rfl, GtR, GnR, rfl, rfl, by decide +kernel⟩
theorem fN_R_45 : FF "PackedImageModel" 45 7 12 (.array .int) := ⟨"PackedImageModel", FR, 28, GR, rfl, by decide, GwR, wa 809 (by decide +kernel) rfl, GtR, GnR, rfl, rfl, by decide +kernel⟩
theorem fN_R_48 : FF "PackedImageModel" 48 7 13 (.array .int) := ⟨"PackedImageModel", FR, 28, GR, rfl, by decide, GwR, wa 810 (by decide +kernel) rfl, GtR, GnR, rfl, rfl, by decide +kernel⟩
theorem fN_R_51 : FF "PackedImageModel" 51 7 16 (.array .int) := ⟨"PackedImageModel", FR, 28, GR, rfl, by decide, GwR, wa 813 (by decide +kernel) rfl, GtR, GnR, rfl, rfl, by decide +kernel⟩
theorem fN_R_54 : FF "PackedImageModel" 54 7 20 (.array .boolean) := ⟨"PackedImageModel", FR, 28, GR, rfl, by decide, GwR, wa 817 (by decide +kernel) rfl, GtR, GnR, rfl, rfl, by decide +kernel⟩
theorem fN_R_57 : FF "PackedImageModel" 57 7 21 (.array .int) := ⟨"PackedImageModel", FR, 28, GR, rfl, by decide, GwR, wa 818 (by decide +kernel) rfl, GtR, GnR, rfl, rfl, by decide +kernel⟩
theorem fN_R_60 : FF "PackedImageModel" 60 7 22 (.array .int) := ⟨"PackedImageModel", FR, 28, GR, rfl, by decide, GwR, wa 819 (by decide +kernel) rfl, GtR, GnR, rfl, rfl, by decide +kernel⟩
theorem fN_R_63 : FF "PackedImageModel" 63 7 23 (.array .int) := ⟨"PackedImageModel", FR, 28, GR, rfl, by decide, GwR, wa 820 (by decide +kernel) rfl, GtR, GnR, rfl, rfl, by decide +kernel⟩
theorem fN_R_66 : FF "PackedImageModel" 66 7 26 (.array .int) := ⟨"PackedImageModel", FR, 28, GR, rfl, by decide, GwR, wa 823 (by decide +kernel) rfl, GtR, GnR, rfl, rfl, by decide +kernel⟩
theorem gN_R_17 : FL "PackedImageModel" 17 7 3 := ⟨"PackedImageModel", FR, 28, rfl, by decide, GwR, Or.inl (wa 800 (by decide +kernel) rfl)⟩
theorem gN_R_26 : FL "PackedImageModel" 26 7 6 := ⟨"PackedImageModel", FR, 28, rfl, by decide, GwR, Or.inl (wa 803 (by decide +kernel) rfl)⟩
def TN_R : List Sh := [.inl (7, [none, none, some 1, some 2, some 3, some 4, some 5, some 6, some 7, some 8, some 9, some 10, some 11, some 12, none, none, some 13, none, none, none, some 14, some 15, some 16, some 17, none, none, some 18, none]), .inr (0, 16), .inr (0, 416), .inr (0, 960), .inr (0, 16), .inr (0, 16), .inr (0, 16), .inr (0, 16), .inr (1, 16), .inr (0, 1024), .inr (0, 192), .inr (0, 192), .inr (0, 12), .inr (0, 1024), .inr (1, 256), .inr (0, 256), .inr (0, 2), .inr (0, 2), .inr (0, 24)]
def MN_R : Mm := fun q => if q = 0 then (fun k => if k = 1 then 1 else 0) else if q = 2 then (fun i => if i < 416 then -1 else 0) else if q = 5 then (fun i => if i = 0 then 1 else 0) else fun _ => 0
