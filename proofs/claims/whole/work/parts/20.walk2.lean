section WK
variable {p : Program} {l : Launch} {e : Env} {s : State} {m : MethodId} {args : Array Value} {below : List Frame} {meth : Method} {c : Code} {D : va_G} {aK : Nat → ClassId} {a0 : Nat → Nat}
def fBu_putInode_207 (y5 y6 : Int) (M : Mm) : Option (Int × Mm) :=
  meq y6 (-1)
    (some (0, M))
    (mwr M 8 1024 (y5 + 2) y6 fun M23 =>
    some (1, M23))
def fBu_putInode_201 (y3 y5 z2 : Int) (M : Mm) : Option (Int × Mm) :=
  mcn (fBu_settle 9 80 z2 y3 M) fun v22 M21 =>
  fBu_putInode_207 y5 v22 M21
def fBu_putInode_178 (y3 y4 y5 y7 : Int) (M : Mm) : Option (Int × Mm) :=
  meq y7 0
    (mcn (fX_blocksFor y4 M) fun v20 M19 =>
    fBu_putInode_201 y3 y5 v20 M19)
    (mdiv y4 16 fun v24 =>
    fBu_putInode_201 y3 y5 v24 M)
def fBu_putInode_161 (y3 y4 y5 z0 : Int) (M : Mm) : Option (Int × Mm) :=
  meq z0 0
    (fBu_putInode_178 y3 y4 y5 z0 M)
    (mcn (fBu_putTail (y5 + 4) y4 M) fun _ M25 =>
    fBu_putInode_178 y3 y4 y5 z0 M25)
def fBu_putInode_41 (y2 y3 y4 y5 z1 z2 : Int) (M : Mm) : Option (Int × Mm) :=
  mcn (fTr_kindOf y2 M) fun v7 M6 =>
  mlor z2 (v7 * 2) fun v8 =>
  mrd M6 11 16 y2 fun v9 =>
  mlor v8 (v9 * 8) fun v10 =>
  mwr M6 8 1024 z1 v10 fun M11 =>
  mwr M11 8 1024 (y5 + 1) y4 fun M12 =>
  mcn (fTr_countOf y2 M12) fun v14 M13 =>
  mwr M13 8 1024 (y5 + 3) (v14 % 256) fun M15 =>
  mrd M15 11 16 y2 fun v16 =>
  meq v16 2
    (mcn (fPa_packContent y2 M15) fun v27 M26 =>
    mcn (fBu_putEnds (y5 + 4) M26) fun _ M28 =>
    mcn (fBu_settle 14 176 (M28 12 4) y3 M28) fun v30 M29 =>
    fBu_putInode_207 y5 v30 M29)
    (mcn (fBu_fillData y2 M15) fun _ M17 =>
    mrd M17 11 16 y2 fun v18 =>
    meq v18 1
      (fBu_putInode_161 y3 y4 y5 1 M17)
      (fBu_putInode_161 y3 y4 y5 0 M17))
def fBu_putInode (x2 : Int) (x3 : Int) (M : Mm) : Option (Int × Mm) :=
  mcn (fTr_dataSize x2 M) fun v2 M1 =>
  mrd M1 10 16 x2 fun v3 =>
  mcn (fBu_isLong x2 M1) fun v5 M4 =>
  meq v5 0
    (fBu_putInode_41 x2 x3 v2 (16 + (v3 * 8)) (16 + (v3 * 8)) 0 M4)
    (fBu_putInode_41 x2 x3 v2 (16 + (v3 * 8)) (16 + (v3 * 8)) 1 M4)
set_option maxRecDepth 10000 in
theorem wBu_putInode_207 {v0 : Int} {M9 : Mm} (X : Cy p l e (rmn 5 114) s m args below meth c D aK TX mvX false a0 "PackedImage$Builder" cBu_putInode 8 (some .boolean) (0, v0, M9)) : ∀ (y5 : Int) (y6 : Int) (M : Mm), fBu_putInode_207 y5 y6 M = some (v0, M9) → Wm X 207 [some (.inr 7), none, none, none, none, some (.inl y5), some (.inl y6), none] [] M := by
  intro y5 y6 M hf
  unfold fBu_putInode_207 at hf
  refine x_iload dBu_putInode_207 rfl ?_
  refine x_iconst dBu_putInode_209 ?_
  refine x_ne hf dBu_putInode_210 rfl (fun hf => ?_) (fun hf => ?_)
  · refine x_aloadn dBu_putInode_215 rfl ?_
    refine x_getR gBu_9 tX_7 rfl dBu_putInode_216 ?_
    refine x_iload dBu_putInode_219 rfl ?_
    refine x_iconst dBu_putInode_221 ?_
    refine x_iadd dBu_putInode_222 ?_
    refine x_iload dBu_putInode_223 rfl ?_
    refine x_iast hf tX_8 (by decide) dBu_putInode_225 (fun M23 hf => ?_)
    refine x_iconst dBu_putInode_226 ?_
    exact x_zret (rt_n hf) (by decide) rfl dBu_putInode_227
  · refine x_iconst dBu_putInode_213 ?_
    exact x_zret (rt_n hf) (by decide) rfl dBu_putInode_214
set_option maxRecDepth 10000 in
theorem wBu_putInode_201 {v0 : Int} {M9 : Mm} (X : Cy p l e (rmn 5 114) s m args below meth c D aK TX mvX false a0 "PackedImage$Builder" cBu_putInode 8 (some .boolean) (0, v0, M9)) : ∀ (y3 : Int) (y5 : Int) (z2 : Int) (M : Mm), fBu_putInode_201 y3 y5 z2 M = some (v0, M9) → Wm X 201 [some (.inr 7), none, none, some (.inl y3), none, some (.inl y5), none, none] [.inl z2, .inr 9, .inr 7] M := by
  intro y3 y5 z2 M hf
  unfold fBu_putInode_201 at hf
  refine x_iloadn dBu_putInode_201 rfl ?_
  refine x_cvni hf (kBu_settle X.hst tX_9 (by decide)) iBu_settle lBu_93 tX_7 rfl rfl (by decide) (Nat.le_of_ble_eq_true rfl) dBu_putInode_202 (fun v22 M21 hf => ?_)
  refine x_istore dBu_putInode_205 (by decide) ?_
  exact x_mask [true, false, false, false, false, true, true, false] (wBu_putInode_207 X _ _ _ hf)
set_option maxRecDepth 10000 in
theorem wBu_putInode_178 {v0 : Int} {M9 : Mm} (X : Cy p l e (rmn 5 114) s m args below meth c D aK TX mvX false a0 "PackedImage$Builder" cBu_putInode 8 (some .boolean) (0, v0, M9)) : ∀ (y3 : Int) (y4 : Int) (y5 : Int) (y7 : Int) (M : Mm), fBu_putInode_178 y3 y4 y5 y7 M = some (v0, M9) → Wm X 178 [some (.inr 7), none, none, some (.inl y3), some (.inl y4), some (.inl y5), none, some (.inl y7)] [] M := by
  intro y3 y4 y5 y7 M hf
  unfold fBu_putInode_178 at hf
  refine x_aloadn dBu_putInode_178 rfl ?_
  refine x_aloadn dBu_putInode_179 rfl ?_
  refine x_getR gBu_19 tX_7 rfl dBu_putInode_180 ?_
  refine x_iload dBu_putInode_183 rfl ?_
  refine x_eq0 hf dBu_putInode_185 rfl (fun hf => ?_) (fun hf => ?_)
  · refine x_iload dBu_putInode_196 rfl ?_
    refine x_csni hf (kX_blocksFor X.hst) iX_blocksFor lBu_15 rfl (by decide) (Nat.le_of_ble_eq_true rfl) dBu_putInode_198 (fun v20 M19 hf => ?_)
    exact x_mask [true, false, false, true, false, true, false, false] (wBu_putInode_201 X _ _ _ _ hf)
  · refine x_iload dBu_putInode_188 rfl ?_
    refine x_bipush dBu_putInode_190 (by decide) ?_
    refine x_idiv hf dBu_putInode_192 (fun v24 hf => ?_)
    refine x_goto (tgt := 201) dBu_putInode_193 rfl ?_
    exact x_mask [true, false, false, true, false, true, false, false] (wBu_putInode_201 X _ _ _ _ hf)
set_option maxRecDepth 10000 in
theorem wBu_putInode_161 {v0 : Int} {M9 : Mm} (X : Cy p l e (rmn 5 114) s m args below meth c D aK TX mvX false a0 "PackedImage$Builder" cBu_putInode 8 (some .boolean) (0, v0, M9)) : ∀ (y3 : Int) (y4 : Int) (y5 : Int) (z0 : Int) (M : Mm), fBu_putInode_161 y3 y4 y5 z0 M = some (v0, M9) → Wm X 161 [some (.inr 7), none, none, some (.inl y3), some (.inl y4), some (.inl y5), none, none] [.inl z0] M := by
  intro y3 y4 y5 z0 M hf
  unfold fBu_putInode_161 at hf
  refine x_istore dBu_putInode_161 (by decide) ?_
  refine x_iload dBu_putInode_163 rfl ?_
  refine x_eq0 hf dBu_putInode_165 rfl (fun hf => ?_) (fun hf => ?_)
  · exact x_mask [true, false, false, true, true, true, false, true] (wBu_putInode_178 X _ _ _ _ _ hf)
  · refine x_aloadn dBu_putInode_168 rfl ?_
    refine x_iload dBu_putInode_169 rfl ?_
    refine x_iconst dBu_putInode_171 ?_
    refine x_iadd dBu_putInode_172 ?_
    refine x_iload dBu_putInode_173 rfl ?_
    refine x_cvnv hf (kBu_putTail X.hst) iBu_putTail lBu_101 tX_7 rfl rfl (by decide) (Nat.le_of_ble_eq_true rfl) dBu_putInode_175 (fun _ M25 hf => ?_)
    exact x_mask [true, false, false, true, true, true, false, true] (wBu_putInode_178 X _ _ _ _ _ hf)
set_option maxRecDepth 10000 in
theorem wBu_putInode_41 {v0 : Int} {M9 : Mm} (X : Cy p l e (rmn 5 114) s m args below meth c D aK TX mvX false a0 "PackedImage$Builder" cBu_putInode 8 (some .boolean) (0, v0, M9)) : ∀ (y2 : Int) (y3 : Int) (y4 : Int) (y5 : Int) (z1 : Int) (z2 : Int) (M : Mm), fBu_putInode_41 y2 y3 y4 y5 z1 z2 M = some (v0, M9) → Wm X 41 [some (.inr 7), some (.inr 1), some (.inl y2), some (.inl y3), some (.inl y4), some (.inl y5), none, none] [.inl z2, .inl z1, .inr 8] M := by
  intro y2 y3 y4 y5 z1 z2 M hf
  unfold fBu_putInode_41 at hf
  refine x_aloadn dBu_putInode_41 rfl ?_
  refine x_iloadn dBu_putInode_42 rfl ?_
  refine x_cvni hf (kTr_kindOf X.hst) iTr_kindOf lBu_75 tX_1 rfl rfl (by decide) (Nat.le_of_ble_eq_true rfl) dBu_putInode_43 (fun v7 M6 hf => ?_)
  refine x_iconst dBu_putInode_46 ?_
  refine x_ishl (sl1 _) dBu_putInode_47 ?_
  refine x_ior hf dBu_putInode_48 (fun v8 hf => ?_)
  refine x_aloadn dBu_putInode_49 rfl ?_
  refine x_getR gBu_25 tX_7 rfl dBu_putInode_50 ?_
  refine x_iloadn dBu_putInode_53 rfl ?_
  refine x_iald hf tX_11 (by decide) dBu_putInode_54 (fun v9 hf => ?_)
  refine x_iconst dBu_putInode_55 ?_
  refine x_ishl (sl3 _) dBu_putInode_56 ?_
  refine x_ior hf dBu_putInode_57 (fun v10 hf => ?_)
  refine x_iast hf tX_8 (by decide) dBu_putInode_58 (fun M11 hf => ?_)
  refine x_aloadn dBu_putInode_59 rfl ?_
  refine x_getR gBu_9 tX_7 rfl dBu_putInode_60 ?_
  refine x_iload dBu_putInode_63 rfl ?_
  refine x_iconst dBu_putInode_65 ?_
  refine x_iadd dBu_putInode_66 ?_
  refine x_iload dBu_putInode_67 rfl ?_
  refine x_iast hf tX_8 (by decide) dBu_putInode_69 (fun M12 hf => ?_)
  refine x_aloadn dBu_putInode_70 rfl ?_
  refine x_getR gBu_9 tX_7 rfl dBu_putInode_71 ?_
  refine x_iload dBu_putInode_74 rfl ?_
  refine x_iconst dBu_putInode_76 ?_
  refine x_iadd dBu_putInode_77 ?_
  refine x_aloadn dBu_putInode_78 rfl ?_
  refine x_iloadn dBu_putInode_79 rfl ?_
  refine x_cvni hf (kTr_countOf X.hst) iTr_countOf lBu_39 tX_1 rfl rfl (by decide) (Nat.le_of_ble_eq_true rfl) dBu_putInode_80 (fun v14 M13 hf => ?_)
  refine x_sipush dBu_putInode_83 (by decide) ?_
  refine x_iandm (an255 _) dBu_putInode_86 ?_
  refine x_iast hf tX_8 (by decide) dBu_putInode_87 (fun M15 hf => ?_)
  refine x_aloadn dBu_putInode_88 rfl ?_
  refine x_getR gBu_25 tX_7 rfl dBu_putInode_89 ?_
  refine x_iloadn dBu_putInode_92 rfl ?_
  refine x_iald hf tX_11 (by decide) dBu_putInode_93 (fun v16 hf => ?_)
  refine x_iconst dBu_putInode_94 ?_
  refine x_ne hf dBu_putInode_95 rfl (fun hf => ?_) (fun hf => ?_)
  · refine x_aloadn dBu_putInode_140 rfl ?_
    refine x_aloadn dBu_putInode_141 rfl ?_
    refine x_iloadn dBu_putInode_142 rfl ?_
    refine x_cvnv hf (kBu_fillData X.hst) iBu_fillData lBu_97 tX_7 rfl rfl (by decide) (Nat.le_of_ble_eq_true rfl) dBu_putInode_143 (fun _ M17 hf => ?_)
    refine x_aloadn dBu_putInode_146 rfl ?_
    refine x_getR gBu_25 tX_7 rfl dBu_putInode_147 ?_
    refine x_iloadn dBu_putInode_150 rfl ?_
    refine x_iald hf tX_11 (by decide) dBu_putInode_151 (fun v18 hf => ?_)
    refine x_iconst dBu_putInode_152 ?_
    refine x_ne hf dBu_putInode_153 rfl (fun hf => ?_) (fun hf => ?_)
    · refine x_iconst dBu_putInode_160 ?_
      exact x_mask [true, false, false, true, true, true, false, false] (wBu_putInode_161 X _ _ _ _ _ hf)
    · refine x_iconst dBu_putInode_156 ?_
      refine x_goto (tgt := 161) dBu_putInode_157 rfl ?_
      exact x_mask [true, false, false, true, true, true, false, false] (wBu_putInode_161 X _ _ _ _ _ hf)
  · refine x_aloadn dBu_putInode_98 rfl ?_
    refine x_getR gBu_31 tX_7 rfl dBu_putInode_99 ?_
    refine x_aloadn dBu_putInode_102 rfl ?_
    refine x_iloadn dBu_putInode_103 rfl ?_
    refine x_cvni hf (kPa_packContent X.hst) iPa_packContent lBu_81 tX_12 rfl rfl (by decide) (Nat.le_of_ble_eq_true rfl) dBu_putInode_104 (fun v27 M26 hf => ?_)
    refine x_pop dBu_putInode_107 ?_
    refine x_aloadn dBu_putInode_108 rfl ?_
    refine x_iload dBu_putInode_109 rfl ?_
    refine x_iconst dBu_putInode_111 ?_
    refine x_iadd dBu_putInode_112 ?_
    refine x_cvnv hf (kBu_putEnds X.hst) iBu_putEnds lBu_87 tX_7 rfl rfl (by decide) (Nat.le_of_ble_eq_true rfl) dBu_putInode_113 (fun _ M28 hf => ?_)
    refine x_aloadn dBu_putInode_116 rfl ?_
    refine x_aloadn dBu_putInode_117 rfl ?_
    refine x_getR gBu_31 tX_7 rfl dBu_putInode_118 ?_
    refine x_getR gBu_90 tX_12 rfl dBu_putInode_121 ?_
    refine x_aloadn dBu_putInode_124 rfl ?_
    refine x_getR gBu_31 tX_7 rfl dBu_putInode_125 ?_
    refine x_getI gBu_84 tX_12 rfl dBu_putInode_128 ?_
    refine x_iloadn dBu_putInode_131 rfl ?_
    refine x_cvni hf (kBu_settle X.hst tX_14 (by decide)) iBu_settle lBu_93 tX_7 rfl rfl (by decide) (Nat.le_of_ble_eq_true rfl) dBu_putInode_132 (fun v30 M29 hf => ?_)
    refine x_istore dBu_putInode_135 (by decide) ?_
    refine x_goto (tgt := 207) dBu_putInode_137 rfl ?_
    exact x_mask [true, false, false, false, false, true, true, false] (wBu_putInode_207 X _ _ _ hf)
set_option maxRecDepth 10000 in
theorem wBu_putInode {v0 : Int} {M9 : Mm} (X : Cy p l e (rmn 5 114) s m args below meth c D aK TX mvX false a0 "PackedImage$Builder" cBu_putInode 8 (some .boolean) (0, v0, M9)) {x2 : Int} {x3 : Int} {M : Mm} (hf : fBu_putInode x2 x3 M = some (v0, M9)) : Wm X 0 [some (.inr 7), some (.inr 1), some (.inl x2), some (.inl x3), none, none, none, none] [] M := by
  unfold fBu_putInode at hf
  refine x_aloadn dBu_putInode_0 rfl ?_
  refine x_iloadn dBu_putInode_1 rfl ?_
  refine x_cvni hf (kTr_dataSize X.hst) iTr_dataSize lBu_78 tX_1 rfl rfl (by decide) (Nat.le_of_ble_eq_true rfl) dBu_putInode_2 (fun v2 M1 hf => ?_)
  refine x_istore dBu_putInode_5 (by decide) ?_
  refine x_bipush dBu_putInode_7 (by decide) ?_
  refine x_aloadn dBu_putInode_9 rfl ?_
  refine x_getR gBu_22 tX_7 rfl dBu_putInode_10 ?_
  refine x_iloadn dBu_putInode_13 rfl ?_
  refine x_iald hf tX_10 (by decide) dBu_putInode_14 (fun v3 hf => ?_)
  refine x_bipush dBu_putInode_15 (by decide) ?_
  refine x_imul dBu_putInode_17 ?_
  refine x_iadd dBu_putInode_18 ?_
  refine x_istore dBu_putInode_19 (by decide) ?_
  refine x_aloadn dBu_putInode_21 rfl ?_
  refine x_getR gBu_9 tX_7 rfl dBu_putInode_22 ?_
  refine x_iload dBu_putInode_25 rfl ?_
  refine x_aloadn dBu_putInode_27 rfl ?_
  refine x_aloadn dBu_putInode_28 rfl ?_
  refine x_iloadn dBu_putInode_29 rfl ?_
  refine x_cvni hf (kBu_isLong X.hst) iBu_isLong lBu_48 tX_7 rfl rfl (by decide) (Nat.le_of_ble_eq_true rfl) dBu_putInode_30 (fun v5 M4 hf => ?_)
  refine x_eq0 hf dBu_putInode_33 rfl (fun hf => ?_) (fun hf => ?_)
  · refine x_iconst dBu_putInode_40 ?_
    exact x_mask [true, true, true, true, true, true, false, false] (wBu_putInode_41 X _ _ _ _ _ _ _ hf)
  · refine x_iconst dBu_putInode_36 ?_
    refine x_goto (tgt := 41) dBu_putInode_37 rfl ?_
    exact x_mask [true, true, true, true, true, true, false, false] (wBu_putInode_41 X _ _ _ _ _ _ _ hf)
theorem kBu_putInode {l : Launch} (hl : l.stackTraces = false) {x2 : Int} {x3 : Int} {M : Mm} (v0 : Int) (M9 : Mm) (hf : fBu_putInode x2 x3 M = some (v0, M9)) : Ct l yBu_putInode (rmn 5 114) TX mvX false (some .boolean) [.inr 7, .inr 1, .inl x2, .inl x3] M (0, v0, M9) := ct_of hl (by decide) iBu_putInode.1 (Nat.le_of_ble_eq_true rfl) (fun X => wBu_putInode X hf)
def fX_headerCheck_44 (k0 n0 : Nat) (K5 : Int → Int → Mm → Option (Int × Mm)) (K22 : Int → Int → Int → Mm → Option (Int × Mm)) (y2 y3 z0 z1 : Int) (M : Mm) : Option (Int × Mm) :=
  mlxor z0 z1 fun v3 =>
  K22 (v3 % 65536) y2 (y3 + 1) M
def fX_headerCheck_22 (k0 n0 : Nat) (K5 : Int → Int → Mm → Option (Int × Mm)) : Nat → Int → Int → Int → Mm → Option (Int × Mm)
  | 0, _, _, _, _ => none
  | n+1, y1, y2, y3, M =>
    mlt y3 8
      (mlt y1 32768
        (fX_headerCheck_44 k0 n0 K5 (fX_headerCheck_22 k0 n0 K5 n) y2 y3 (y1 * 2) 0 M)
        (fX_headerCheck_44 k0 n0 K5 (fX_headerCheck_22 k0 n0 K5 n) y2 y3 (y1 * 2) 4129 M))
      (K5 y1 (y2 + 1) M)
def fX_headerCheck_5 (k0 n0 : Nat) : Nat → Int → Int → Mm → Option (Int × Mm)
  | 0, _, _, _ => none
  | n+1, y1, y2, M =>
    mlt y2 14
      (mrd M k0 n0 y2 fun v1 =>
      mlxor y1 (v1 * 256) fun v2 =>
      fX_headerCheck_22 k0 n0 (fX_headerCheck_5 k0 n0 n) FU v2 y2 0 M)
      (some (y1, M))
def fX_headerCheck (k0 n0 : Nat) (M : Mm) : Option (Int × Mm) :=
  fX_headerCheck_5 k0 n0 FU 65535 0 M
set_option maxRecDepth 10000 in
theorem wX_headerCheck_44 {v0 : Int} {M9 : Mm} (X : Cy p l e (rmn 0 0) s m args below meth c D aK TX mvX false a0 "PackedImage" cX_headerCheck 4 (some .int) (0, v0, M9)) {k0 n0 : Nat} (hk0 : TX[k0]? = some (.inr (0, n0))) (hn0 : n0 < 2147483648) {K5 : Int → Int → Mm → Option (Int × Mm)} (hK5 : ∀ (y1 : Int) (y2 : Int) (M : Mm), K5 y1 y2 M = some (v0, M9) → Wm X 5 [some (.inr k0), some (.inl y1), some (.inl y2), none] [] M) {K22 : Int → Int → Int → Mm → Option (Int × Mm)} (hK22 : ∀ (y1 : Int) (y2 : Int) (y3 : Int) (M : Mm), K22 y1 y2 y3 M = some (v0, M9) → Wm X 22 [some (.inr k0), some (.inl y1), some (.inl y2), some (.inl y3)] [] M) : ∀ (y2 : Int) (y3 : Int) (z0 : Int) (z1 : Int) (M : Mm), fX_headerCheck_44 k0 n0 K5 K22 y2 y3 z0 z1 M = some (v0, M9) → Wm X 44 [some (.inr k0), none, some (.inl y2), some (.inl y3)] [.inl z1, .inl z0] M := by
  intro y2 y3 z0 z1 M hf
  unfold fX_headerCheck_44 at hf
  refine x_ixor hf dX_headerCheck_44 (fun v3 hf => ?_)
  refine x_ldc (n := 65535) qX_245 rfl dX_headerCheck_45 ?_
  refine x_iandm (an65535 _) dX_headerCheck_47 ?_
  refine x_istoren dX_headerCheck_48 (by decide) ?_
  refine x_iinc dX_headerCheck_49 rfl (by decide) ?_
  refine x_goto (tgt := 22) dX_headerCheck_52 rfl ?_
  exact x_mask [true, true, true, true] (hK22 _ _ _ _ hf)
set_option maxRecDepth 10000 in
theorem wX_headerCheck_22 {v0 : Int} {M9 : Mm} (X : Cy p l e (rmn 0 0) s m args below meth c D aK TX mvX false a0 "PackedImage" cX_headerCheck 4 (some .int) (0, v0, M9)) {k0 n0 : Nat} (hk0 : TX[k0]? = some (.inr (0, n0))) (hn0 : n0 < 2147483648) {K5 : Int → Int → Mm → Option (Int × Mm)} (hK5 : ∀ (y1 : Int) (y2 : Int) (M : Mm), K5 y1 y2 M = some (v0, M9) → Wm X 5 [some (.inr k0), some (.inl y1), some (.inl y2), none] [] M) : ∀ (n : Nat) (y1 : Int) (y2 : Int) (y3 : Int) (M : Mm), fX_headerCheck_22 k0 n0 K5 n y1 y2 y3 M = some (v0, M9) → Wm X 22 [some (.inr k0), some (.inl y1), some (.inl y2), some (.inl y3)] [] M := by
  intro n
  induction n with
  | zero => intro y1 y2 y3 M hf; exact nomatch (show (none : Option (Int × Mm)) = _ from hf)
  | succ n ih =>
    intro y1 y2 y3 M hf
    rw [fX_headerCheck_22] at hf
    refine x_iloadn dX_headerCheck_22 rfl ?_
    refine x_bipush dX_headerCheck_23 (by decide) ?_
    refine x_ge hf dX_headerCheck_25 rfl (fun hf => ?_) (fun hf => ?_)
    · refine x_iinc dX_headerCheck_55 rfl (by decide) ?_
      refine x_goto (tgt := 5) dX_headerCheck_58 rfl ?_
      exact x_mask [true, true, true, false] (hK5 _ _ _ hf)
    · refine x_iloadn dX_headerCheck_28 rfl ?_
      refine x_iconst dX_headerCheck_29 ?_
      refine x_ishl (sl1 _) dX_headerCheck_30 ?_
      refine x_iloadn dX_headerCheck_31 rfl ?_
      refine x_ldc (n := 32768) qX_246 rfl dX_headerCheck_32 ?_
      refine x_lt hf dX_headerCheck_34 rfl (fun hf => ?_) (fun hf => ?_)
      · refine x_iconst dX_headerCheck_43 ?_
        exact x_mask [true, false, true, true] (wX_headerCheck_44 X hk0 hn0 hK5 ih _ _ _ _ _ hf)
      · refine x_sipush dX_headerCheck_37 (by decide) ?_
        refine x_goto (tgt := 44) dX_headerCheck_40 rfl ?_
        exact x_mask [true, false, true, true] (wX_headerCheck_44 X hk0 hn0 hK5 ih _ _ _ _ _ hf)
set_option maxRecDepth 10000 in
theorem wX_headerCheck_5 {v0 : Int} {M9 : Mm} (X : Cy p l e (rmn 0 0) s m args below meth c D aK TX mvX false a0 "PackedImage" cX_headerCheck 4 (some .int) (0, v0, M9)) {k0 n0 : Nat} (hk0 : TX[k0]? = some (.inr (0, n0))) (hn0 : n0 < 2147483648) : ∀ (n : Nat) (y1 : Int) (y2 : Int) (M : Mm), fX_headerCheck_5 k0 n0 n y1 y2 M = some (v0, M9) → Wm X 5 [some (.inr k0), some (.inl y1), some (.inl y2), none] [] M := by
  intro n
  induction n with
  | zero => intro y1 y2 M hf; exact nomatch (show (none : Option (Int × Mm)) = _ from hf)
  | succ n ih =>
    intro y1 y2 M hf
    rw [fX_headerCheck_5] at hf
    refine x_iloadn dX_headerCheck_5 rfl ?_
    refine x_bipush dX_headerCheck_6 (by decide) ?_
    refine x_ge hf dX_headerCheck_8 rfl (fun hf => ?_) (fun hf => ?_)
    · refine x_iloadn dX_headerCheck_61 rfl ?_
      exact x_iret (rt_n hf) rfl dX_headerCheck_62
    · refine x_iloadn dX_headerCheck_11 rfl ?_
      refine x_aloadn dX_headerCheck_12 rfl ?_
      refine x_iloadn dX_headerCheck_13 rfl ?_
      refine x_iald hf hk0 hn0 dX_headerCheck_14 (fun v1 hf => ?_)
      refine x_bipush dX_headerCheck_15 (by decide) ?_
      refine x_ishl (sl8 _) dX_headerCheck_17 ?_
      refine x_ixor hf dX_headerCheck_18 (fun v2 hf => ?_)
      refine x_istoren dX_headerCheck_19 (by decide) ?_
      refine x_iconst dX_headerCheck_20 ?_
      refine x_istoren dX_headerCheck_21 (by decide) ?_
      exact x_mask [true, true, true, true] (wX_headerCheck_22 X hk0 hn0 ih FU _ _ _ _ hf)
set_option maxRecDepth 10000 in
theorem wX_headerCheck {v0 : Int} {M9 : Mm} (X : Cy p l e (rmn 0 0) s m args below meth c D aK TX mvX false a0 "PackedImage" cX_headerCheck 4 (some .int) (0, v0, M9)) {k0 n0 : Nat} (hk0 : TX[k0]? = some (.inr (0, n0))) (hn0 : n0 < 2147483648) {M : Mm} (hf : fX_headerCheck k0 n0 M = some (v0, M9)) : Wm X 0 [some (.inr k0), none, none, none] [] M := by
  unfold fX_headerCheck at hf
  refine x_ldc (n := 65535) qX_245 rfl dX_headerCheck_0 ?_
  refine x_istoren dX_headerCheck_2 (by decide) ?_
  refine x_iconst dX_headerCheck_3 ?_
  refine x_istoren dX_headerCheck_4 (by decide) ?_
  exact x_mask [true, true, true, false] (wX_headerCheck_5 X hk0 hn0 FU _ _ _ hf)
theorem kX_headerCheck {l : Launch} (hl : l.stackTraces = false) {k0 n0 : Nat} (hk0 : TX[k0]? = some (.inr (0, n0))) (hn0 : n0 < 2147483648) {M : Mm} (v0 : Int) (M9 : Mm) (hf : fX_headerCheck k0 n0 M = some (v0, M9)) : Ct l yX_headerCheck (rmn 0 0) TX mvX false (some .int) [.inr k0] M (0, v0, M9) := ct_of hl (by decide) iX_headerCheck.1 (Nat.le_of_ble_eq_true rfl) (fun X => wX_headerCheck X hk0 hn0 hf)
def fX_putHeaderCheck (k0 n0 : Nat) (M : Mm) : Option (Int × Mm) :=
  mcn (fX_headerCheck k0 n0 M) fun v2 M1 =>
  mshr v2 8 fun v3 =>
  mwr M1 k0 n0 14 v3 fun M4 =>
  mwr M4 k0 n0 15 (v2 % 256) fun M5 =>
  some (0, M5)
set_option maxRecDepth 10000 in
theorem wX_putHeaderCheck {v0 : Int} {M9 : Mm} (X : Cy p l e (rmn 1 23) s m args below meth c D aK TX mvX false a0 "PackedImage" cX_putHeaderCheck 2 none (0, v0, M9)) {k0 n0 : Nat} (hk0 : TX[k0]? = some (.inr (0, n0))) (hn0 : n0 < 2147483648) {M : Mm} (hf : fX_putHeaderCheck k0 n0 M = some (v0, M9)) : Wm X 0 [some (.inr k0), none] [] M := by
  unfold fX_putHeaderCheck at hf
  refine x_aloadn dX_putHeaderCheck_0 rfl ?_
  refine x_csni hf (kX_headerCheck X.hst hk0 hn0) iX_headerCheck lX_247 rfl (by decide) (Nat.le_of_ble_eq_true rfl) dX_putHeaderCheck_1 (fun v2 M1 hf => ?_)
  refine x_istoren dX_putHeaderCheck_4 (by decide) ?_
  refine x_aloadn dX_putHeaderCheck_5 rfl ?_
  refine x_bipush dX_putHeaderCheck_6 (by decide) ?_
  refine x_iloadn dX_putHeaderCheck_8 rfl ?_
  refine x_bipush dX_putHeaderCheck_9 (by decide) ?_
  refine x_ishr hf dX_putHeaderCheck_11 (fun v3 hf => ?_)
  refine x_iast hf hk0 hn0 dX_putHeaderCheck_12 (fun M4 hf => ?_)
  refine x_aloadn dX_putHeaderCheck_13 rfl ?_
  refine x_bipush dX_putHeaderCheck_14 (by decide) ?_
  refine x_iloadn dX_putHeaderCheck_16 rfl ?_
  refine x_sipush dX_putHeaderCheck_17 (by decide) ?_
  refine x_iandm (an255 _) dX_putHeaderCheck_20 ?_
  refine x_iast hf hk0 hn0 dX_putHeaderCheck_21 (fun M5 hf => ?_)
  exact x_vret ⟨_, rt_n hf⟩ rfl dX_putHeaderCheck_22
theorem kX_putHeaderCheck {l : Launch} (hl : l.stackTraces = false) {k0 n0 : Nat} (hk0 : TX[k0]? = some (.inr (0, n0))) (hn0 : n0 < 2147483648) {M : Mm} (v0 : Int) (M9 : Mm) (hf : fX_putHeaderCheck k0 n0 M = some (v0, M9)) : Ct l yX_putHeaderCheck (rmn 1 23) TX mvX false none [.inr k0] M (0, v0, M9) := ct_of hl (by decide) iX_putHeaderCheck.1 (Nat.le_of_ble_eq_true rfl) (fun X => wX_putHeaderCheck X hk0 hn0 hf)
def fBu_putHeader (x1 : Int) (M : Mm) : Option (Int × Mm) :=
  mwr M 8 1024 0 225 fun M1 =>
  mwr M1 8 1024 1 245 fun M2 =>
  mwr M2 8 1024 2 x1 fun M3 =>
  mwr M3 8 1024 3 (M3 7 5) fun M4 =>
  mwr M4 8 1024 4 (M4 7 7) fun M5 =>
  mcn (fX_putHeaderCheck 8 1024 M5) fun _ M6 =>
  some (0, M6)
set_option maxRecDepth 10000 in
theorem wBu_putHeader {v0 : Int} {M9 : Mm} (X : Cy p l e (rmn 2 44) s m args below meth c D aK TX mvX false a0 "PackedImage$Builder" cBu_putHeader 2 none (0, v0, M9)) {x1 : Int} {M : Mm} (hf : fBu_putHeader x1 M = some (v0, M9)) : Wm X 0 [some (.inr 7), some (.inl x1)] [] M := by
  unfold fBu_putHeader at hf
  refine x_aloadn dBu_putHeader_0 rfl ?_
  refine x_getR gBu_9 tX_7 rfl dBu_putHeader_1 ?_
  refine x_iconst dBu_putHeader_4 ?_
  refine x_sipush dBu_putHeader_5 (by decide) ?_
  refine x_iast hf tX_8 (by decide) dBu_putHeader_8 (fun M1 hf => ?_)
  refine x_aloadn dBu_putHeader_9 rfl ?_
  refine x_getR gBu_9 tX_7 rfl dBu_putHeader_10 ?_
  refine x_iconst dBu_putHeader_13 ?_
  refine x_sipush dBu_putHeader_14 (by decide) ?_
  refine x_iast hf tX_8 (by decide) dBu_putHeader_17 (fun M2 hf => ?_)
  refine x_aloadn dBu_putHeader_18 rfl ?_
  refine x_getR gBu_9 tX_7 rfl dBu_putHeader_19 ?_
  refine x_iconst dBu_putHeader_22 ?_
  refine x_iloadn dBu_putHeader_23 rfl ?_
  refine x_iast hf tX_8 (by decide) dBu_putHeader_24 (fun M3 hf => ?_)
  refine x_aloadn dBu_putHeader_25 rfl ?_
  refine x_getR gBu_9 tX_7 rfl dBu_putHeader_26 ?_
  refine x_iconst dBu_putHeader_29 ?_
  refine x_aloadn dBu_putHeader_30 rfl ?_
  refine x_getI gBu_35 tX_7 rfl dBu_putHeader_31 ?_
  refine x_iast hf tX_8 (by decide) dBu_putHeader_34 (fun M4 hf => ?_)
  refine x_aloadn dBu_putHeader_35 rfl ?_
  refine x_getR gBu_9 tX_7 rfl dBu_putHeader_36 ?_
  refine x_iconst dBu_putHeader_39 ?_
  refine x_aloadn dBu_putHeader_40 rfl ?_
  refine x_getI gBu_64 tX_7 rfl dBu_putHeader_41 ?_
  refine x_iast hf tX_8 (by decide) dBu_putHeader_44 (fun M5 hf => ?_)
  refine x_aloadn dBu_putHeader_45 rfl ?_
  refine x_getR gBu_9 tX_7 rfl dBu_putHeader_46 ?_
  refine x_csnv hf (kX_putHeaderCheck X.hst tX_8 (by decide)) iX_putHeaderCheck lBu_129 rfl (by decide) (Nat.le_of_ble_eq_true rfl) dBu_putHeader_49 (fun _ M6 hf => ?_)
  exact x_vret ⟨_, rt_n hf⟩ rfl dBu_putHeader_52
theorem kBu_putHeader {l : Launch} (hl : l.stackTraces = false) {x1 : Int} {M : Mm} (v0 : Int) (M9 : Mm) (hf : fBu_putHeader x1 M = some (v0, M9)) : Ct l yBu_putHeader (rmn 2 44) TX mvX false none [.inr 7, .inl x1] M (0, v0, M9) := ct_of hl (by decide) iBu_putHeader.1 (Nat.le_of_ble_eq_true rfl) (fun X => wBu_putHeader X hf)
def fBu_layOut_29 : Nat → Int → Int → Mm → Option (Int × Mm)
  | 0, _, _, _ => none
  | n+1, y2, y3, M =>
    mlt y3 16
      (mrd M 10 16 y3 fun v7 =>
      meq v7 (-1)
        ((fBu_layOut_29 n) y2 (y3 + 1) M)
        (mcn (fBu_putInode y3 y2 M) fun v9 M8 =>
        meq v9 0
          (some (0, M8))
          ((fBu_layOut_29 n) y2 (y3 + 1) M8)))
      (mcn (fBu_putHeader y2 M) fun _ M6 =>
      some (1, M6))
def fBu_layOut (x2 : Int) (M : Mm) : Option (Int × Mm) :=
  mcn (some (0, fiM M 8 1024 0)) fun _ M1 =>
  mcn (fX_firstBlockBehind (M1 7 5) M1) fun v3 M2 =>
  mput M2 7 6 v3 fun M4 =>
  mput M4 7 7 (M4 7 6) fun M5 =>
  fBu_layOut_29 FU x2 0 M5
set_option maxRecDepth 10000 in
theorem wBu_layOut_29 {v0 : Int} {M9 : Mm} (X : Cy p l e (rmn 6 141) s m args below meth c D aK TX mvX false a0 "PackedImage$Builder" cBu_layOut 4 (some .boolean) (0, v0, M9)) : ∀ (n : Nat) (y2 : Int) (y3 : Int) (M : Mm), fBu_layOut_29 n y2 y3 M = some (v0, M9) → Wm X 29 [some (.inr 7), some (.inr 1), some (.inl y2), some (.inl y3)] [] M := by
  intro n
  induction n with
  | zero => intro y2 y3 M hf; exact nomatch (show (none : Option (Int × Mm)) = _ from hf)
  | succ n ih =>
    intro y2 y3 M hf
    rw [fBu_layOut_29] at hf
    refine x_iloadn dBu_layOut_29 rfl ?_
    refine x_bipush dBu_layOut_30 (by decide) ?_
    refine x_ge hf dBu_layOut_32 rfl (fun hf => ?_) (fun hf => ?_)
    · refine x_aloadn dBu_layOut_63 rfl ?_
      refine x_iloadn dBu_layOut_64 rfl ?_
      refine x_cvnv hf (kBu_putHeader X.hst) iBu_putHeader lBu_71 tX_7 rfl rfl (by decide) (Nat.le_of_ble_eq_true rfl) dBu_layOut_65 (fun _ M6 hf => ?_)
      refine x_iconst dBu_layOut_68 ?_
      exact x_zret (rt_n hf) (by decide) rfl dBu_layOut_69
    · refine x_aloadn dBu_layOut_35 rfl ?_
      refine x_getR gBu_22 tX_7 rfl dBu_layOut_36 ?_
      refine x_iloadn dBu_layOut_39 rfl ?_
      refine x_iald hf tX_10 (by decide) dBu_layOut_40 (fun v7 hf => ?_)
      refine x_iconst dBu_layOut_41 ?_
      refine x_eq hf dBu_layOut_42 rfl (fun hf => ?_) (fun hf => ?_)
      · refine x_iinc dBu_layOut_57 rfl (by decide) ?_
        refine x_goto (tgt := 29) dBu_layOut_60 rfl ?_
        exact x_mask [true, true, true, true] (ih _ _ _ hf)
      · refine x_aloadn dBu_layOut_45 rfl ?_
        refine x_aloadn dBu_layOut_46 rfl ?_
        refine x_iloadn dBu_layOut_47 rfl ?_
        refine x_iloadn dBu_layOut_48 rfl ?_
        refine x_cvni hf (kBu_putInode X.hst) iBu_putInode lBu_67 tX_7 rfl rfl (by decide) (Nat.le_of_ble_eq_true rfl) dBu_layOut_49 (fun v9 M8 hf => ?_)
        refine x_ne0 hf dBu_layOut_52 rfl (fun hf => ?_) (fun hf => ?_)
        · refine x_iinc dBu_layOut_57 rfl (by decide) ?_
          refine x_goto (tgt := 29) dBu_layOut_60 rfl ?_
          exact x_mask [true, true, true, true] (ih _ _ _ hf)
        · refine x_iconst dBu_layOut_55 ?_
          exact x_zret (rt_n hf) (by decide) rfl dBu_layOut_56
set_option maxRecDepth 10000 in
theorem wBu_layOut {v0 : Int} {M9 : Mm} (X : Cy p l e (rmn 6 141) s m args below meth c D aK TX mvX false a0 "PackedImage$Builder" cBu_layOut 4 (some .boolean) (0, v0, M9)) {x2 : Int} {M : Mm} (hf : fBu_layOut x2 M = some (v0, M9)) : Wm X 0 [some (.inr 7), some (.inr 1), some (.inl x2), none] [] M := by
  unfold fBu_layOut at hf
  refine x_aloadn dBu_layOut_0 rfl ?_
  refine x_getR gBu_9 tX_7 rfl dBu_layOut_1 ?_
  refine x_iconst dBu_layOut_4 ?_
  refine x_csnv (g := some (0, fiM M 8 1024 0)) hf (kfill X.hst tX_8 (by decide)) ifill lBu_52 rfl (by decide) (Nat.le_of_ble_eq_true rfl) dBu_layOut_5 (fun _ M1 hf => ?_)
  refine x_aloadn dBu_layOut_8 rfl ?_
  refine x_aloadn dBu_layOut_9 rfl ?_
  refine x_getI gBu_35 tX_7 rfl dBu_layOut_10 ?_
  refine x_csni hf (kX_firstBlockBehind X.hst) iX_firstBlockBehind lBu_58 rfl (by decide) (Nat.le_of_ble_eq_true rfl) dBu_layOut_13 (fun v3 M2 hf => ?_)
  refine x_put hf gBu_61 pBu_6 tX_7 rfl dBu_layOut_16 (fun M4 hf => ?_)
  refine x_aloadn dBu_layOut_19 rfl ?_
  refine x_aloadn dBu_layOut_20 rfl ?_
  refine x_getI gBu_61 tX_7 rfl dBu_layOut_21 ?_
  refine x_put hf gBu_64 pBu_7 tX_7 rfl dBu_layOut_24 (fun M5 hf => ?_)
  refine x_iconst dBu_layOut_27 ?_
  refine x_istoren dBu_layOut_28 (by decide) ?_
  exact x_mask [true, true, true, true] (wBu_layOut_29 X FU _ _ _ hf)
theorem kBu_layOut {l : Launch} (hl : l.stackTraces = false) {x2 : Int} {M : Mm} (v0 : Int) (M9 : Mm) (hf : fBu_layOut x2 M = some (v0, M9)) : Ct l yBu_layOut (rmn 6 141) TX mvX false (some .boolean) [.inr 7, .inr 1, .inl x2] M (0, v0, M9) := ct_of hl (by decide) iBu_layOut.1 (Nat.le_of_ble_eq_true rfl) (fun X => wBu_layOut X hf)
def fDe_takeOver (k1 n1 : Nat) (M : Mm) : Option (Int × Mm) :=
  mcp M k1 n1 0 17 1024 0 1024 fun M1 =>
  mpuz M1 16 2 0 fun M2 =>
  some (0, M2)
set_option maxRecDepth 10000 in
theorem wDe_takeOver {v0 : Int} {M9 : Mm} (X : Cy p l e (rmn 1 48) s m args below meth c D aK TX mvX false a0 "PackedImage$Device" cDe_takeOver 2 none (0, v0, M9)) {k1 n1 : Nat} (hk1 : TX[k1]? = some (.inr (0, n1))) (hn1 : n1 < 2147483648) {M : Mm} (hf : fDe_takeOver k1 n1 M = some (v0, M9)) : Wm X 0 [some (.inr 16), some (.inr k1)] [] M := by
  unfold fDe_takeOver at hf
  refine x_aloadn dDe_takeOver_0 rfl ?_
  refine x_iconst dDe_takeOver_1 ?_
  refine x_aloadn dDe_takeOver_2 rfl ?_
  refine x_getR gDe_9 tX_16 rfl dDe_takeOver_3 ?_
  refine x_iconst dDe_takeOver_6 ?_
  refine x_sipush dDe_takeOver_7 (by decide) ?_
  refine x_copy hf hk1 tX_17 ⟨hn1, (by decide)⟩ lDe_23 mw_cpy ⟨Nat.le_of_ble_eq_true rfl, Nat.le_of_ble_eq_true rfl⟩ dDe_takeOver_10 (fun M1 hf => ?_)
  refine x_aloadn dDe_takeOver_13 rfl ?_
  refine x_iconst dDe_takeOver_14 ?_
  refine x_putz hf gDe_19 pDe_2 tX_16 rfl dDe_takeOver_15 (fun M2 hf => ?_)
  exact x_vret ⟨_, rt_n hf⟩ rfl dDe_takeOver_18
theorem kDe_takeOver {l : Launch} (hl : l.stackTraces = false) {k1 n1 : Nat} (hk1 : TX[k1]? = some (.inr (0, n1))) (hn1 : n1 < 2147483648) {M : Mm} (v0 : Int) (M9 : Mm) (hf : fDe_takeOver k1 n1 M = some (v0, M9)) : Ct l yDe_takeOver (rmn 1 48) TX mvX false none [.inr 16, .inr k1] M (0, v0, M9) := ct_of hl (by decide) iDe_takeOver.1 (Nat.le_of_ble_eq_true rfl) (fun X => wDe_takeOver X hk1 hn1 hf)
def fX_build (x1 : Int) (M : Mm) : Option (Nat × Int × Mm) :=
  mlt x1 0
    (some (1, 0, M))
    (mlt 7 x1
      (some (1, 0, M))
      (mcn (fBu_giveSlots x1 M) fun _ M1 =>
      mcn (fBu_layOut x1 M1) fun v3 M2 =>
      meq v3 0
        (some (4, 0, M2))
        (mcn (fDe_takeOver 8 1024 M2) fun _ M4 =>
        some (0, (M4 7 7), M4))))
set_option maxRecDepth 10000 in
theorem wX_build {r : Nat × Int × Mm} (X : Cy p l e (rmn 7 164) s m args below meth c D aK TX mvX false a0 "PackedImage" cX_build 2 (some .int) r) {x1 : Int} {M : Mm} (hf : fX_build x1 M = some r) : Wm X 0 [some (.inr 0), some (.inl x1)] [] M := by
  unfold fX_build at hf
  refine x_iloadn dX_build_0 rfl ?_
  refine x_lt0 hf dX_build_1 rfl (fun hf => ?_) (fun hf => ?_)
  · exact x_throw (rt_x hf) (by decide) eX_45_47 (by decide) (by decide) ⟨Nat.le_of_ble_eq_true rfl, Nat.le_of_ble_eq_true rfl, Nat.le_of_ble_eq_true rfl, Nat.le_of_ble_eq_true rfl⟩ dX_build_10 dX_build_13 dX_build_14 dX_build_17
  · refine x_iloadn dX_build_4 rfl ?_
    refine x_bipush dX_build_5 (by decide) ?_
    refine x_le hf dX_build_7 rfl (fun hf => ?_) (fun hf => ?_)
    · refine x_aloadn dX_build_18 rfl ?_
      refine x_getR gX_19 tX_0 rfl dX_build_19 ?_
      refine x_aloadn dX_build_22 rfl ?_
      refine x_getR gX_10 tX_0 rfl dX_build_23 ?_
      refine x_iloadn dX_build_26 rfl ?_
      refine x_cvnv hf (kBu_giveSlots X.hst) iBu_giveSlots lX_92 tX_7 rfl rfl (by decide) (Nat.le_of_ble_eq_true rfl) dX_build_27 (fun _ M1 hf => ?_)
      refine x_aloadn dX_build_30 rfl ?_
      refine x_getR gX_19 tX_0 rfl dX_build_31 ?_
      refine x_aloadn dX_build_34 rfl ?_
      refine x_getR gX_10 tX_0 rfl dX_build_35 ?_
      refine x_iloadn dX_build_38 rfl ?_
      refine x_cvni hf (kBu_layOut X.hst) iBu_layOut lX_96 tX_7 rfl rfl (by decide) (Nat.le_of_ble_eq_true rfl) dX_build_39 (fun v3 M2 hf => ?_)
      refine x_ne0 hf dX_build_42 rfl (fun hf => ?_) (fun hf => ?_)
      · refine x_aloadn dX_build_53 rfl ?_
        refine x_getR gX_26 tX_0 rfl dX_build_54 ?_
        refine x_aloadn dX_build_57 rfl ?_
        refine x_getR gX_19 tX_0 rfl dX_build_58 ?_
        refine x_getR gX_103 tX_7 rfl dX_build_61 ?_
        refine x_cvnv hf (kDe_takeOver X.hst tX_8 (by decide)) iDe_takeOver lX_106 tX_16 rfl rfl (by decide) (Nat.le_of_ble_eq_true rfl) dX_build_64 (fun _ M4 hf => ?_)
        refine x_aloadn dX_build_67 rfl ?_
        refine x_getR gX_19 tX_0 rfl dX_build_68 ?_
        refine x_getI gX_110 tX_7 rfl dX_build_71 ?_
        exact x_iret (rt_x hf) rfl dX_build_74
      · exact x_throw (rt_x hf) (by decide) eX_100_102 (by decide) (by decide) ⟨Nat.le_of_ble_eq_true rfl, Nat.le_of_ble_eq_true rfl, Nat.le_of_ble_eq_true rfl, Nat.le_of_ble_eq_true rfl⟩ dX_build_45 dX_build_48 dX_build_49 dX_build_52
    · exact x_throw (rt_x hf) (by decide) eX_45_47 (by decide) (by decide) ⟨Nat.le_of_ble_eq_true rfl, Nat.le_of_ble_eq_true rfl, Nat.le_of_ble_eq_true rfl, Nat.le_of_ble_eq_true rfl⟩ dX_build_10 dX_build_13 dX_build_14 dX_build_17
theorem kX_build {l : Launch} (hl : l.stackTraces = false) {x1 : Int} {M : Mm} (w : Nat × Int × Mm) (hf : fX_build x1 M = some w) : Ct l yX_build (rmn 7 164) TX mvX false (some .int) [.inr 0, .inl x1] M w := ct_of hl (by decide) iX_build.1 (Nat.le_of_ble_eq_true rfl) (fun X => wX_build X hf)
def fX_demandPlace (x1 : Int) (M : Mm) : Option (Nat × Int × Mm) :=
  mlt x1 0
    (some (3, 0, M))
    (mlt x1 1024
      (some (0, 0, M))
      (some (3, 0, M)))
set_option maxRecDepth 10000 in
theorem wX_demandPlace {r : Nat × Int × Mm} (X : Cy p l e (rmn 6 89) s m args below meth c D aK TX mvX false a0 "PackedImage" cX_demandPlace 2 none r) {x1 : Int} {M : Mm} (hf : fX_demandPlace x1 M = some r) : Wm X 0 [some (.inr 0), some (.inl x1)] [] M := by
  unfold fX_demandPlace at hf
  refine x_iloadn dX_demandPlace_0 rfl ?_
  refine x_lt0 hf dX_demandPlace_1 rfl (fun hf => ?_) (fun hf => ?_)
  · exact x_throw (rt_x hf) (by decide) eX_159_161 (by decide) (by decide) ⟨Nat.le_of_ble_eq_true rfl, Nat.le_of_ble_eq_true rfl, Nat.le_of_ble_eq_true rfl, Nat.le_of_ble_eq_true rfl⟩ dX_demandPlace_11 dX_demandPlace_14 dX_demandPlace_15 dX_demandPlace_18
  · refine x_iloadn dX_demandPlace_4 rfl ?_
    refine x_sipush dX_demandPlace_5 (by decide) ?_
    refine x_lt hf dX_demandPlace_8 rfl (fun hf => ?_) (fun hf => ?_)
    · exact x_vret ⟨_, rt_x hf⟩ rfl dX_demandPlace_19
    · exact x_throw (rt_x hf) (by decide) eX_159_161 (by decide) (by decide) ⟨Nat.le_of_ble_eq_true rfl, Nat.le_of_ble_eq_true rfl, Nat.le_of_ble_eq_true rfl, Nat.le_of_ble_eq_true rfl⟩ dX_demandPlace_11 dX_demandPlace_14 dX_demandPlace_15 dX_demandPlace_18
theorem kX_demandPlace {l : Launch} (hl : l.stackTraces = false) {x1 : Int} {M : Mm} (w : Nat × Int × Mm) (hf : fX_demandPlace x1 M = some w) : Ct l yX_demandPlace (rmn 6 89) TX mvX false none [.inr 0, .inl x1] M w := ct_of hl (by decide) iX_demandPlace.1 (Nat.le_of_ble_eq_true rfl) (fun X => wX_demandPlace X hf)
def fDe_byteAt (x1 : Int) (M : Mm) : Option (Int × Mm) :=
  mlt x1 0
    (some (0, M))
    (mlt x1 1024
      (mrd M 17 1024 x1 fun v1 =>
      some (v1, M))
      (some (0, M)))
set_option maxRecDepth 10000 in
theorem wDe_byteAt {v0 : Int} {M9 : Mm} (X : Cy p l e (rmn 0 0) s m args below meth c D aK TX mvX false a0 "PackedImage$Device" cDe_byteAt 2 (some .int) (0, v0, M9)) {x1 : Int} {M : Mm} (hf : fDe_byteAt x1 M = some (v0, M9)) : Wm X 0 [some (.inr 16), some (.inl x1)] [] M := by
  unfold fDe_byteAt at hf
  refine x_iloadn dDe_byteAt_0 rfl ?_
  refine x_lt0 hf dDe_byteAt_1 rfl (fun hf => ?_) (fun hf => ?_)
  · refine x_iconst dDe_byteAt_20 ?_
    exact x_iret (rt_n hf) rfl dDe_byteAt_21
  · refine x_iloadn dDe_byteAt_4 rfl ?_
    refine x_sipush dDe_byteAt_5 (by decide) ?_
    refine x_ge hf dDe_byteAt_8 rfl (fun hf => ?_) (fun hf => ?_)
    · refine x_iconst dDe_byteAt_20 ?_
      exact x_iret (rt_n hf) rfl dDe_byteAt_21
    · refine x_aloadn dDe_byteAt_11 rfl ?_
      refine x_getR gDe_9 tX_16 rfl dDe_byteAt_12 ?_
      refine x_iloadn dDe_byteAt_15 rfl ?_
      refine x_iald hf tX_17 (by decide) dDe_byteAt_16 (fun v1 hf => ?_)
      refine x_goto (tgt := 21) dDe_byteAt_17 rfl ?_
      exact x_iret (rt_n hf) rfl dDe_byteAt_21
theorem kDe_byteAt {l : Launch} (hl : l.stackTraces = false) {x1 : Int} {M : Mm} (v0 : Int) (M9 : Mm) (hf : fDe_byteAt x1 M = some (v0, M9)) : Ct l yDe_byteAt (rmn 0 0) TX mvX false (some .int) [.inr 16, .inl x1] M (0, v0, M9) := ct_of hl (by decide) iDe_byteAt.1 (Nat.le_of_ble_eq_true rfl) (fun X => wDe_byteAt X hf)
def fX_peek (x1 : Int) (M : Mm) : Option (Nat × Int × Mm) :=
  mcx (fX_demandPlace x1 M) fun _ M1 =>
  mcn (fDe_byteAt x1 M1) fun v3 M2 =>
  some (0, v3, M2)
set_option maxRecDepth 10000 in
theorem wX_peek {r : Nat × Int × Mm} (X : Cy p l e (rmn 7 110) s m args below meth c D aK TX mvX false a0 "PackedImage" cX_peek 2 (some .int) r) {x1 : Int} {M : Mm} (hf : fX_peek x1 M = some r) : Wm X 0 [some (.inr 0), some (.inl x1)] [] M := by
  unfold fX_peek at hf
  refine x_aloadn dX_peek_0 rfl ?_
  refine x_iloadn dX_peek_1 rfl ?_
  refine x_cvxv hf (kX_demandPlace X.hst) iX_demandPlace lX_113 tX_0 rfl rfl (by decide) (Nat.le_of_ble_eq_true rfl) dX_peek_2 (fun _ M1 hf => ?_)
  refine x_aloadn dX_peek_5 rfl ?_
  refine x_getR gX_26 tX_0 rfl dX_peek_6 ?_
  refine x_iloadn dX_peek_9 rfl ?_
  refine x_cvni hf (kDe_byteAt X.hst) iDe_byteAt lX_117 tX_16 rfl rfl (by decide) (Nat.le_of_ble_eq_true rfl) dX_peek_10 (fun v3 M2 hf => ?_)
  exact x_iret (rt_x hf) rfl dX_peek_13
theorem kX_peek {l : Launch} (hl : l.stackTraces = false) {x1 : Int} {M : Mm} (w : Nat × Int × Mm) (hf : fX_peek x1 M = some w) : Ct l yX_peek (rmn 7 110) TX mvX false (some .int) [.inr 0, .inl x1] M w := ct_of hl (by decide) iX_peek.1 (Nat.le_of_ble_eq_true rfl) (fun X => wX_peek X hf)
def fDe_put (x1 : Int) (x2 : Int) (M : Mm) : Option (Int × Mm) :=
  mlt x1 0
    (mpuz M 16 2 0 fun M1 =>
    some (0, M1))
    (mlt x1 1024
      (mwr M 17 1024 x1 x2 fun M3 =>
      mpuz M3 16 2 0 fun M4 =>
      some (0, M4))
      (mpuz M 16 2 0 fun M2 =>
      some (0, M2)))
set_option maxRecDepth 10000 in
theorem wDe_put {v0 : Int} {M9 : Mm} (X : Cy p l e (rmn 0 0) s m args below meth c D aK TX mvX false a0 "PackedImage$Device" cDe_put 3 none (0, v0, M9)) {x1 : Int} {x2 : Int} {M : Mm} (hf : fDe_put x1 x2 M = some (v0, M9)) : Wm X 0 [some (.inr 16), some (.inl x1), some (.inl x2)] [] M := by
  unfold fDe_put at hf
  refine x_iloadn dDe_put_0 rfl ?_
  refine x_lt0 hf dDe_put_1 rfl (fun hf => ?_) (fun hf => ?_)
  · refine x_aloadn dDe_put_18 rfl ?_
    refine x_iconst dDe_put_19 ?_
    refine x_putz hf gDe_19 pDe_2 tX_16 rfl dDe_put_20 (fun M1 hf => ?_)
    exact x_vret ⟨_, rt_n hf⟩ rfl dDe_put_23
  · refine x_iloadn dDe_put_4 rfl ?_
    refine x_sipush dDe_put_5 (by decide) ?_
    refine x_ge hf dDe_put_8 rfl (fun hf => ?_) (fun hf => ?_)
    · refine x_aloadn dDe_put_18 rfl ?_
      refine x_iconst dDe_put_19 ?_
      refine x_putz hf gDe_19 pDe_2 tX_16 rfl dDe_put_20 (fun M2 hf => ?_)
      exact x_vret ⟨_, rt_n hf⟩ rfl dDe_put_23
    · refine x_aloadn dDe_put_11 rfl ?_
      refine x_getR gDe_9 tX_16 rfl dDe_put_12 ?_
      refine x_iloadn dDe_put_15 rfl ?_
      refine x_iloadn dDe_put_16 rfl ?_
      refine x_iast hf tX_17 (by decide) dDe_put_17 (fun M3 hf => ?_)
      refine x_aloadn dDe_put_18 rfl ?_
      refine x_iconst dDe_put_19 ?_
      refine x_putz hf gDe_19 pDe_2 tX_16 rfl dDe_put_20 (fun M4 hf => ?_)
      exact x_vret ⟨_, rt_n hf⟩ rfl dDe_put_23
theorem kDe_put {l : Launch} (hl : l.stackTraces = false) {x1 : Int} {x2 : Int} {M : Mm} (v0 : Int) (M9 : Mm) (hf : fDe_put x1 x2 M = some (v0, M9)) : Ct l yDe_put (rmn 0 0) TX mvX false none [.inr 16, .inl x1, .inl x2] M (0, v0, M9) := ct_of hl (by decide) iDe_put.1 (Nat.le_of_ble_eq_true rfl) (fun X => wDe_put X hf)
def fX_poke (x1 : Int) (x2 : Int) (M : Mm) : Option (Nat × Int × Mm) :=
  mcx (fX_demandPlace x1 M) fun _ M1 =>
  mcn (fDe_put x1 (x2 % 256) M1) fun _ M2 =>
  some (0, 0, M2)
set_option maxRecDepth 10000 in
theorem wX_poke {r : Nat × Int × Mm} (X : Cy p l e (rmn 7 110) s m args below meth c D aK TX mvX false a0 "PackedImage" cX_poke 3 none r) {x1 : Int} {x2 : Int} {M : Mm} (hf : fX_poke x1 x2 M = some r) : Wm X 0 [some (.inr 0), some (.inl x1), some (.inl x2)] [] M := by
  unfold fX_poke at hf
  refine x_aloadn dX_poke_0 rfl ?_
  refine x_iloadn dX_poke_1 rfl ?_
  refine x_cvxv hf (kX_demandPlace X.hst) iX_demandPlace lX_113 tX_0 rfl rfl (by decide) (Nat.le_of_ble_eq_true rfl) dX_poke_2 (fun _ M1 hf => ?_)
  refine x_aloadn dX_poke_5 rfl ?_
  refine x_getR gX_26 tX_0 rfl dX_poke_6 ?_
  refine x_iloadn dX_poke_9 rfl ?_
  refine x_iloadn dX_poke_10 rfl ?_
  refine x_sipush dX_poke_11 (by decide) ?_
  refine x_iandm (an255 _) dX_poke_14 ?_
  refine x_cvnv hf (kDe_put X.hst) iDe_put lX_120 tX_16 rfl rfl (by decide) (Nat.le_of_ble_eq_true rfl) dX_poke_15 (fun _ M2 hf => ?_)
  exact x_vret ⟨_, rt_x hf⟩ rfl dX_poke_18
theorem kX_poke {l : Launch} (hl : l.stackTraces = false) {x1 : Int} {x2 : Int} {M : Mm} (w : Nat × Int × Mm) (hf : fX_poke x1 x2 M = some w) : Ct l yX_poke (rmn 7 110) TX mvX false none [.inr 0, .inl x1, .inl x2] M w := ct_of hl (by decide) iX_poke.1 (Nat.le_of_ble_eq_true rfl) (fun X => wX_poke X hf)
def fDe_renewCheck (M : Mm) : Option (Int × Mm) :=
  mcn (fX_putHeaderCheck 17 1024 M) fun _ M1 =>
  mpuz M1 16 2 0 fun M2 =>
  some (0, M2)
set_option maxRecDepth 10000 in
theorem wDe_renewCheck {v0 : Int} {M9 : Mm} (X : Cy p l e (rmn 2 44) s m args below meth c D aK TX mvX false a0 "PackedImage$Device" cDe_renewCheck 1 none (0, v0, M9)) {M : Mm} (hf : fDe_renewCheck M = some (v0, M9)) : Wm X 0 [some (.inr 16)] [] M := by
  unfold fDe_renewCheck at hf
  refine x_aloadn dDe_renewCheck_0 rfl ?_
  refine x_getR gDe_9 tX_16 rfl dDe_renewCheck_1 ?_
  refine x_csnv hf (kX_putHeaderCheck X.hst tX_17 (by decide)) iX_putHeaderCheck lDe_29 rfl (by decide) (Nat.le_of_ble_eq_true rfl) dDe_renewCheck_4 (fun _ M1 hf => ?_)
  refine x_aloadn dDe_renewCheck_7 rfl ?_
  refine x_iconst dDe_renewCheck_8 ?_
  refine x_putz hf gDe_19 pDe_2 tX_16 rfl dDe_renewCheck_9 (fun M2 hf => ?_)
  exact x_vret ⟨_, rt_n hf⟩ rfl dDe_renewCheck_12
theorem kDe_renewCheck {l : Launch} (hl : l.stackTraces = false) {M : Mm} (v0 : Int) (M9 : Mm) (hf : fDe_renewCheck M = some (v0, M9)) : Ct l yDe_renewCheck (rmn 2 44) TX mvX false none [.inr 16] M (0, v0, M9) := ct_of hl (by decide) iDe_renewCheck.1 (Nat.le_of_ble_eq_true rfl) (fun X => wDe_renewCheck X hf)
def fX_seal (M : Mm) : Option (Int × Mm) :=
  mcn (fDe_renewCheck M) fun _ M1 =>
  some (0, M1)
set_option maxRecDepth 10000 in
theorem wX_seal {v0 : Int} {M9 : Mm} (X : Cy p l e (rmn 3 64) s m args below meth c D aK TX mvX false a0 "PackedImage" cX_seal 1 none (0, v0, M9)) {M : Mm} (hf : fX_seal M = some (v0, M9)) : Wm X 0 [some (.inr 0)] [] M := by
  unfold fX_seal at hf
  refine x_aloadn dX_seal_0 rfl ?_
  refine x_getR gX_26 tX_0 rfl dX_seal_1 ?_
  refine x_cvnv hf (kDe_renewCheck X.hst) iDe_renewCheck lX_123 tX_16 rfl rfl (by decide) (Nat.le_of_ble_eq_true rfl) dX_seal_4 (fun _ M1 hf => ?_)
  exact x_vret ⟨_, rt_n hf⟩ rfl dX_seal_7
theorem kX_seal {l : Launch} (hl : l.stackTraces = false) {M : Mm} (v0 : Int) (M9 : Mm) (hf : fX_seal M = some (v0, M9)) : Ct l yX_seal (rmn 3 64) TX mvX false none [.inr 0] M (0, v0, M9) := ct_of hl (by decide) iX_seal.1 (Nat.le_of_ble_eq_true rfl) (fun X => wX_seal X hf)
def fCa_empty (M : Mm) : Option (Int × Mm) :=
  mput M 20 1 (-1) fun M1 =>
  mput M1 22 1 (-1) fun M2 =>
  mput M2 19 3 0 fun M3 =>
  mput M3 19 4 0 fun M4 =>
  some (0, M4)
set_option maxRecDepth 10000 in
theorem wCa_empty {v0 : Int} {M9 : Mm} (X : Cy p l e (rmn 0 0) s m args below meth c D aK TX mvX false a0 "PackedImage$Cache" cCa_empty 1 none (0, v0, M9)) {M : Mm} (hf : fCa_empty M = some (v0, M9)) : Wm X 0 [some (.inr 19)] [] M := by
  unfold fCa_empty at hf
  refine x_aloadn dCa_empty_0 rfl ?_
  refine x_getR gCa_12 tX_19 rfl dCa_empty_1 ?_
  refine x_iconst dCa_empty_4 ?_
  refine x_put hf gCa_24 pCl_1 tX_20 rfl dCa_empty_5 (fun M1 hf => ?_)
  refine x_aloadn dCa_empty_8 rfl ?_
  refine x_getR gCa_18 tX_19 rfl dCa_empty_9 ?_
  refine x_iconst dCa_empty_12 ?_
  refine x_put hf gCa_24 pCl_1 tX_22 rfl dCa_empty_13 (fun M2 hf => ?_)
  refine x_aloadn dCa_empty_16 rfl ?_
  refine x_iconst dCa_empty_17 ?_
  refine x_put hf gCa_28 pCa_3 tX_19 rfl dCa_empty_18 (fun M3 hf => ?_)
  refine x_aloadn dCa_empty_21 rfl ?_
  refine x_iconst dCa_empty_22 ?_
  refine x_put hf gCa_31 pCa_4 tX_19 rfl dCa_empty_23 (fun M4 hf => ?_)
  exact x_vret ⟨_, rt_n hf⟩ rfl dCa_empty_26
theorem kCa_empty {l : Launch} (hl : l.stackTraces = false) {M : Mm} (v0 : Int) (M9 : Mm) (hf : fCa_empty M = some (v0, M9)) : Ct l yCa_empty (rmn 0 0) TX mvX false none [.inr 19] M (0, v0, M9) := ct_of hl (by decide) iCa_empty.1 (Nat.le_of_ble_eq_true rfl) (fun X => wCa_empty X hf)
def fDe_isHeaderRight (M : Mm) : Option (Int × Mm) :=
  mrd M 17 1024 0 fun v1 =>
  meq v1 225
    (mrd M 17 1024 1 fun v2 =>
    meq v2 245
      (mrd M 17 1024 14 fun v3 =>
      mrd M 17 1024 15 fun v4 =>
      mlor (v3 * 256) v4 fun v5 =>
      mcn (fX_headerCheck 17 1024 M) fun v7 M6 =>
      meq v5 v7
        (mrd M6 17 1024 2 fun v8 =>
        mlt 7 v8
          (some (0, M6))
          (mrd M6 17 1024 4 fun v9 =>
          mlt v9 1
            (some (0, M6))
            (mrd M6 17 1024 4 fun v10 =>
            mlt 64 v10
              (some (0, M6))
              (mrd M6 17 1024 3 fun v11 =>
              mlt v11 1
                (some (0, M6))
                (mrd M6 17 1024 3 fun v12 =>
                mcn (fX_firstBlockBehind v12 M6) fun v14 M13 =>
                mrd M13 17 1024 4 fun v15 =>
                mlt v15 v14
                  (some (0, M13))
                  (some (1, M13)))))))
        (some (0, M6)))
      (some (0, M)))
    (some (0, M))
set_option maxRecDepth 10000 in
theorem wDe_isHeaderRight {v0 : Int} {M9 : Mm} (X : Cy p l e (rmn 2 40) s m args below meth c D aK TX mvX false a0 "PackedImage$Device" cDe_isHeaderRight 1 (some .boolean) (0, v0, M9)) {M : Mm} (hf : fDe_isHeaderRight M = some (v0, M9)) : Wm X 0 [some (.inr 16)] [] M := by
  unfold fDe_isHeaderRight at hf
  refine x_aloadn dDe_isHeaderRight_0 rfl ?_
  refine x_getR gDe_9 tX_16 rfl dDe_isHeaderRight_1 ?_
  refine x_iconst dDe_isHeaderRight_4 ?_
  refine x_iald hf tX_17 (by decide) dDe_isHeaderRight_5 (fun v1 hf => ?_)
  refine x_sipush dDe_isHeaderRight_6 (by decide) ?_
  refine x_ne hf dDe_isHeaderRight_9 rfl (fun hf => ?_) (fun hf => ?_)
  · refine x_iconst dDe_isHeaderRight_116 ?_
    exact x_zret (rt_n hf) (by decide) rfl dDe_isHeaderRight_117
  · refine x_aloadn dDe_isHeaderRight_12 rfl ?_
    refine x_getR gDe_9 tX_16 rfl dDe_isHeaderRight_13 ?_
    refine x_iconst dDe_isHeaderRight_16 ?_
    refine x_iald hf tX_17 (by decide) dDe_isHeaderRight_17 (fun v2 hf => ?_)
    refine x_sipush dDe_isHeaderRight_18 (by decide) ?_
    refine x_ne hf dDe_isHeaderRight_21 rfl (fun hf => ?_) (fun hf => ?_)
    · refine x_iconst dDe_isHeaderRight_116 ?_
      exact x_zret (rt_n hf) (by decide) rfl dDe_isHeaderRight_117
    · refine x_aloadn dDe_isHeaderRight_24 rfl ?_
      refine x_getR gDe_9 tX_16 rfl dDe_isHeaderRight_25 ?_
      refine x_bipush dDe_isHeaderRight_28 (by decide) ?_
      refine x_iald hf tX_17 (by decide) dDe_isHeaderRight_30 (fun v3 hf => ?_)
      refine x_bipush dDe_isHeaderRight_31 (by decide) ?_
      refine x_ishl (sl8 _) dDe_isHeaderRight_33 ?_
      refine x_aloadn dDe_isHeaderRight_34 rfl ?_
      refine x_getR gDe_9 tX_16 rfl dDe_isHeaderRight_35 ?_
      refine x_bipush dDe_isHeaderRight_38 (by decide) ?_
      refine x_iald hf tX_17 (by decide) dDe_isHeaderRight_40 (fun v4 hf => ?_)
      refine x_ior hf dDe_isHeaderRight_41 (fun v5 hf => ?_)
      refine x_aloadn dDe_isHeaderRight_42 rfl ?_
      refine x_getR gDe_9 tX_16 rfl dDe_isHeaderRight_43 ?_
      refine x_csni hf (kX_headerCheck X.hst tX_17 (by decide)) iX_headerCheck lDe_47 rfl (by decide) (Nat.le_of_ble_eq_true rfl) dDe_isHeaderRight_46 (fun v7 M6 hf => ?_)
      refine x_ne hf dDe_isHeaderRight_49 rfl (fun hf => ?_) (fun hf => ?_)
      · refine x_iconst dDe_isHeaderRight_116 ?_
        exact x_zret (rt_n hf) (by decide) rfl dDe_isHeaderRight_117
      · refine x_aloadn dDe_isHeaderRight_52 rfl ?_
        refine x_getR gDe_9 tX_16 rfl dDe_isHeaderRight_53 ?_
        refine x_iconst dDe_isHeaderRight_56 ?_
        refine x_iald hf tX_17 (by decide) dDe_isHeaderRight_57 (fun v8 hf => ?_)
        refine x_bipush dDe_isHeaderRight_58 (by decide) ?_
        refine x_gt hf dDe_isHeaderRight_60 rfl (fun hf => ?_) (fun hf => ?_)
        · refine x_iconst dDe_isHeaderRight_116 ?_
          exact x_zret (rt_n hf) (by decide) rfl dDe_isHeaderRight_117
        · refine x_aloadn dDe_isHeaderRight_63 rfl ?_
          refine x_getR gDe_9 tX_16 rfl dDe_isHeaderRight_64 ?_
          refine x_iconst dDe_isHeaderRight_67 ?_
          refine x_iald hf tX_17 (by decide) dDe_isHeaderRight_68 (fun v9 hf => ?_)
          refine x_iconst dDe_isHeaderRight_69 ?_
          refine x_lt hf dDe_isHeaderRight_70 rfl (fun hf => ?_) (fun hf => ?_)
          · refine x_iconst dDe_isHeaderRight_116 ?_
            exact x_zret (rt_n hf) (by decide) rfl dDe_isHeaderRight_117
          · refine x_aloadn dDe_isHeaderRight_73 rfl ?_
            refine x_getR gDe_9 tX_16 rfl dDe_isHeaderRight_74 ?_
            refine x_iconst dDe_isHeaderRight_77 ?_
            refine x_iald hf tX_17 (by decide) dDe_isHeaderRight_78 (fun v10 hf => ?_)
            refine x_bipush dDe_isHeaderRight_79 (by decide) ?_
            refine x_gt hf dDe_isHeaderRight_81 rfl (fun hf => ?_) (fun hf => ?_)
            · refine x_iconst dDe_isHeaderRight_116 ?_
              exact x_zret (rt_n hf) (by decide) rfl dDe_isHeaderRight_117
            · refine x_aloadn dDe_isHeaderRight_84 rfl ?_
              refine x_getR gDe_9 tX_16 rfl dDe_isHeaderRight_85 ?_
              refine x_iconst dDe_isHeaderRight_88 ?_
              refine x_iald hf tX_17 (by decide) dDe_isHeaderRight_89 (fun v11 hf => ?_)
              refine x_iconst dDe_isHeaderRight_90 ?_
              refine x_lt hf dDe_isHeaderRight_91 rfl (fun hf => ?_) (fun hf => ?_)
              · refine x_iconst dDe_isHeaderRight_116 ?_
                exact x_zret (rt_n hf) (by decide) rfl dDe_isHeaderRight_117
              · refine x_aloadn dDe_isHeaderRight_94 rfl ?_
                refine x_getR gDe_9 tX_16 rfl dDe_isHeaderRight_95 ?_
                refine x_iconst dDe_isHeaderRight_98 ?_
                refine x_iald hf tX_17 (by decide) dDe_isHeaderRight_99 (fun v12 hf => ?_)
                refine x_csni hf (kX_firstBlockBehind X.hst) iX_firstBlockBehind lDe_51 rfl (by decide) (Nat.le_of_ble_eq_true rfl) dDe_isHeaderRight_100 (fun v14 M13 hf => ?_)
                refine x_aloadn dDe_isHeaderRight_103 rfl ?_
                refine x_getR gDe_9 tX_16 rfl dDe_isHeaderRight_104 ?_
                refine x_iconst dDe_isHeaderRight_107 ?_
                refine x_iald hf tX_17 (by decide) dDe_isHeaderRight_108 (fun v15 hf => ?_)
                refine x_gt hf dDe_isHeaderRight_109 rfl (fun hf => ?_) (fun hf => ?_)
                · refine x_iconst dDe_isHeaderRight_116 ?_
                  exact x_zret (rt_n hf) (by decide) rfl dDe_isHeaderRight_117
                · refine x_iconst dDe_isHeaderRight_112 ?_
                  refine x_goto (tgt := 117) dDe_isHeaderRight_113 rfl ?_
                  exact x_zret (rt_n hf) (by decide) rfl dDe_isHeaderRight_117
theorem kDe_isHeaderRight {l : Launch} (hl : l.stackTraces = false) {M : Mm} (v0 : Int) (M9 : Mm) (hf : fDe_isHeaderRight M = some (v0, M9)) : Ct l yDe_isHeaderRight (rmn 2 40) TX mvX false (some .boolean) [.inr 16] M (0, v0, M9) := ct_of hl (by decide) iDe_isHeaderRight.1 (Nat.le_of_ble_eq_true rfl) (fun X => wDe_isHeaderRight X hf)
def fDe_slotByte (x1 : Int) (x2 : Int) (M : Mm) : Option (Int × Mm) :=
  mlt ((16 + (x1 * 8)) + x2) 0
    (some (0, M))
    (mlt ((16 + (x1 * 8)) + x2) 1024
      (mrd M 17 1024 ((16 + (x1 * 8)) + x2) fun v1 =>
      some (v1, M))
      (some (0, M)))
set_option maxRecDepth 10000 in
theorem wDe_slotByte {v0 : Int} {M9 : Mm} (X : Cy p l e (rmn 0 0) s m args below meth c D aK TX mvX false a0 "PackedImage$Device" cDe_slotByte 4 (some .int) (0, v0, M9)) {x1 : Int} {x2 : Int} {M : Mm} (hf : fDe_slotByte x1 x2 M = some (v0, M9)) : Wm X 0 [some (.inr 16), some (.inl x1), some (.inl x2), none] [] M := by
  unfold fDe_slotByte at hf
  refine x_bipush dDe_slotByte_0 (by decide) ?_
  refine x_iloadn dDe_slotByte_2 rfl ?_
  refine x_bipush dDe_slotByte_3 (by decide) ?_
  refine x_imul dDe_slotByte_5 ?_
  refine x_iadd dDe_slotByte_6 ?_
  refine x_iloadn dDe_slotByte_7 rfl ?_
  refine x_iadd dDe_slotByte_8 ?_
  refine x_istoren dDe_slotByte_9 (by decide) ?_
  refine x_iloadn dDe_slotByte_10 rfl ?_
  refine x_lt0 hf dDe_slotByte_11 rfl (fun hf => ?_) (fun hf => ?_)
  · refine x_iconst dDe_slotByte_30 ?_
    exact x_iret (rt_n hf) rfl dDe_slotByte_31
  · refine x_iloadn dDe_slotByte_14 rfl ?_
    refine x_sipush dDe_slotByte_15 (by decide) ?_
    refine x_ge hf dDe_slotByte_18 rfl (fun hf => ?_) (fun hf => ?_)
    · refine x_iconst dDe_slotByte_30 ?_
      exact x_iret (rt_n hf) rfl dDe_slotByte_31
    · refine x_aloadn dDe_slotByte_21 rfl ?_
      refine x_getR gDe_9 tX_16 rfl dDe_slotByte_22 ?_
      refine x_iloadn dDe_slotByte_25 rfl ?_
      refine x_iald hf tX_17 (by decide) dDe_slotByte_26 (fun v1 hf => ?_)
      refine x_goto (tgt := 31) dDe_slotByte_27 rfl ?_
      exact x_iret (rt_n hf) rfl dDe_slotByte_31
theorem kDe_slotByte {l : Launch} (hl : l.stackTraces = false) {x1 : Int} {x2 : Int} {M : Mm} (v0 : Int) (M9 : Mm) (hf : fDe_slotByte x1 x2 M = some (v0, M9)) : Ct l yDe_slotByte (rmn 0 0) TX mvX false (some .int) [.inr 16, .inl x1, .inl x2] M (0, v0, M9) := ct_of hl (by decide) iDe_slotByte.1 (Nat.le_of_ble_eq_true rfl) (fun X => wDe_slotByte X hf)
def fDe_isLong (x1 : Int) (M : Mm) : Option (Int × Mm) :=
  mcn (fDe_slotByte x1 0 M) fun v2 M1 =>
  meq (v2 % 2) 0
    (some (0, M1))
    (some (1, M1))
set_option maxRecDepth 10000 in
theorem wDe_isLong {v0 : Int} {M9 : Mm} (X : Cy p l e (rmn 1 23) s m args below meth c D aK TX mvX false a0 "PackedImage$Device" cDe_isLong 2 (some .boolean) (0, v0, M9)) {x1 : Int} {M : Mm} (hf : fDe_isLong x1 M = some (v0, M9)) : Wm X 0 [some (.inr 16), some (.inl x1)] [] M := by
  unfold fDe_isLong at hf
  refine x_aloadn dDe_isLong_0 rfl ?_
  refine x_iloadn dDe_isLong_1 rfl ?_
  refine x_iconst dDe_isLong_2 ?_
  refine x_cvni hf (kDe_slotByte X.hst) iDe_slotByte lDe_62 tX_16 rfl rfl (by decide) (Nat.le_of_ble_eq_true rfl) dDe_isLong_3 (fun v2 M1 hf => ?_)
  refine x_iconst dDe_isLong_6 ?_
  refine x_iandm (an1 _) dDe_isLong_7 ?_
  refine x_eq0 hf dDe_isLong_8 rfl (fun hf => ?_) (fun hf => ?_)
  · refine x_iconst dDe_isLong_15 ?_
    exact x_zret (rt_n hf) (by decide) rfl dDe_isLong_16
  · refine x_iconst dDe_isLong_11 ?_
    refine x_goto (tgt := 16) dDe_isLong_12 rfl ?_
    exact x_zret (rt_n hf) (by decide) rfl dDe_isLong_16
theorem kDe_isLong {l : Launch} (hl : l.stackTraces = false) {x1 : Int} {M : Mm} (v0 : Int) (M9 : Mm) (hf : fDe_isLong x1 M = some (v0, M9)) : Ct l yDe_isLong (rmn 1 23) TX mvX false (some .boolean) [.inr 16, .inl x1] M (0, v0, M9) := ct_of hl (by decide) iDe_isLong.1 (Nat.le_of_ble_eq_true rfl) (fun X => wDe_isLong X hf)
end WK
