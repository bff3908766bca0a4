section WK
variable {p : Program} {l : Launch} {e : Env} {s : State} {m : MethodId} {args : Array Value} {below : List Frame} {meth : Method} {c : Code} {D : va_G} {aK : Nat → ClassId} {a0 : Nat → Nat}
def fR_poke_17 (y1 y2 z1 : Int) (M : Mm) : Option (Int × Mm) :=
  mput M 0 0 z1 fun M1 =>
  mlt 0 (M1 0 0)
    (some (0, M1))
    (mwr M1 13 1024 y1 (y2 % 256) fun M2 =>
    mpuz M2 0 17 0 fun M3 =>
    some (0, M3))
def fR_poke_12 (y1 y2 : Int) (M : Mm) : Option (Int × Mm) :=
  fR_poke_17 y1 y2 1 M
def fR_poke (x1 : Int) (x2 : Int) (M : Mm) : Option (Int × Mm) :=
  mlt x1 0
    (fR_poke_12 x1 x2 M)
    (mlt 1023 x1
      (fR_poke_12 x1 x2 M)
      (fR_poke_17 x1 x2 0 M))
set_option maxRecDepth 10000 in
theorem wR_poke_17 {v0 : Int} {M9 : Mm} (X : Cy p l e (rmn 0 0) s m args below meth c D aK TR mvR false a0 "PackedImageModel" cR_poke 3 none (0, v0, M9)) : ∀ (y1 : Int) (y2 : Int) (z1 : Int) (M : Mm), fR_poke_17 y1 y2 z1 M = some (v0, M9) → Wm X 17 [some (.inr 0), some (.inl y1), some (.inl y2)] [.inl z1, .inr 0] M := by
  intro y1 y2 z1 M hf
  unfold fR_poke_17 at hf
  refine x_put hf gR_69 pR_0 tR_0 rfl dR_poke_17 (fun M1 hf => ?_)
  refine x_aloadn dR_poke_20 rfl ?_
  refine x_getI gR_69 tR_0 rfl dR_poke_21 ?_
  refine x_le0 hf dR_poke_24 rfl (fun hf => ?_) (fun hf => ?_)
  · refine x_aloadn dR_poke_28 rfl ?_
    refine x_getR gR_51 tR_0 rfl dR_poke_29 ?_
    refine x_iloadn dR_poke_32 rfl ?_
    refine x_iloadn dR_poke_33 rfl ?_
    refine x_sipush dR_poke_34 (by decide) ?_
    refine x_iandm (an255 _) dR_poke_37 ?_
    refine x_iast hf tR_13 (by decide) dR_poke_38 (fun M2 hf => ?_)
    refine x_aloadn dR_poke_39 rfl ?_
    refine x_iconst dR_poke_40 ?_
    refine x_putz hf gR_132 pR_17 tR_0 rfl dR_poke_41 (fun M3 hf => ?_)
    exact x_vret ⟨_, rt_n hf⟩ rfl dR_poke_44
  · exact x_vret ⟨_, rt_n hf⟩ rfl dR_poke_27
set_option maxRecDepth 10000 in
theorem wR_poke_12 {v0 : Int} {M9 : Mm} (X : Cy p l e (rmn 0 0) s m args below meth c D aK TR mvR false a0 "PackedImageModel" cR_poke 3 none (0, v0, M9)) : ∀ (y1 : Int) (y2 : Int) (M : Mm), fR_poke_12 y1 y2 M = some (v0, M9) → Wm X 12 [some (.inr 0), some (.inl y1), some (.inl y2)] [.inr 0] M := by
  intro y1 y2 M hf
  unfold fR_poke_12 at hf
  refine x_iconst dR_poke_12 ?_
  refine x_goto (tgt := 17) dR_poke_13 rfl ?_
  exact x_mask [true, true, true] (wR_poke_17 X _ _ _ _ hf)
set_option maxRecDepth 10000 in
theorem wR_poke {v0 : Int} {M9 : Mm} (X : Cy p l e (rmn 0 0) s m args below meth c D aK TR mvR false a0 "PackedImageModel" cR_poke 3 none (0, v0, M9)) {x1 : Int} {x2 : Int} {M : Mm} (hf : fR_poke x1 x2 M = some (v0, M9)) : Wm X 0 [some (.inr 0), some (.inl x1), some (.inl x2)] [] M := by
  unfold fR_poke at hf
  refine x_aloadn dR_poke_0 rfl ?_
  refine x_iloadn dR_poke_1 rfl ?_
  refine x_lt0 hf dR_poke_2 rfl (fun hf => ?_) (fun hf => ?_)
  · exact x_mask [true, true, true] (wR_poke_12 X _ _ _ hf)
  · refine x_iloadn dR_poke_5 rfl ?_
    refine x_sipush dR_poke_6 (by decide) ?_
    refine x_le hf dR_poke_9 rfl (fun hf => ?_) (fun hf => ?_)
    · refine x_iconst dR_poke_16 ?_
      exact x_mask [true, true, true] (wR_poke_17 X _ _ _ _ hf)
    · exact x_mask [true, true, true] (wR_poke_12 X _ _ _ hf)
theorem kR_poke {l : Launch} (hl : l.stackTraces = false) {x1 : Int} {x2 : Int} {M : Mm} (v0 : Int) (M9 : Mm) (hf : fR_poke x1 x2 M = some (v0, M9)) : Ct l yR_poke (rmn 0 0) TR mvR false none [.inr 0, .inl x1, .inl x2] M (0, v0, M9) := ct_of hl (by decide) iR_poke.1 (Nat.le_of_ble_eq_true rfl) (fun X => wR_poke X hf)
def fR_isRight_103 (y1 z0 : Int) (M : Mm) : Option (Int × Mm) :=
  meq y1 0
    (some (0, M))
    (meq z0 0
      (some (0, M))
      (mrd M 13 1024 3 fun v3 =>
      mdiv (v3 + 1) 2 fun v4 =>
      mrd M 13 1024 4 fun v5 =>
      mlt v5 (1 + v4)
        (some (0, M))
        (some (1, M))))
def fR_isRight_102 (y1 : Int) (M : Mm) : Option (Int × Mm) :=
  fR_isRight_103 y1 0 M
def fR_isRight_57 (z0 : Int) (M : Mm) : Option (Int × Mm) :=
  mrd M 13 1024 2 fun v2 =>
  mlt v2 8
    (mrd M 13 1024 4 fun v6 =>
    mlt 0 v6
      (mrd M 13 1024 4 fun v7 =>
      mlt 64 v7
        (fR_isRight_102 z0 M)
        (mrd M 13 1024 3 fun v8 =>
        mlt 0 v8
          (fR_isRight_103 z0 1 M)
          (fR_isRight_102 z0 M)))
      (fR_isRight_102 z0 M))
    (fR_isRight_102 z0 M)
def fR_isRight_56 (M : Mm) : Option (Int × Mm) :=
  fR_isRight_57 0 M
def fR_isRight (M : Mm) : Option (Int × Mm) :=
  mrd M 13 1024 0 fun v1 =>
  meq v1 225
    (mrd M 13 1024 1 fun v9 =>
    meq v9 245
      (mrd M 13 1024 14 fun v10 =>
      mrd M 13 1024 15 fun v11 =>
      mcn (fR_check1 112 M) fun v13 M12 =>
      meq ((256 * v10) + v11) v13
        (fR_isRight_57 1 M12)
        (fR_isRight_56 M12))
      (fR_isRight_56 M))
    (fR_isRight_56 M)
set_option maxRecDepth 10000 in
theorem wR_isRight_103 {v0 : Int} {M9 : Mm} (X : Cy p l e (rmn 1 25) s m args below meth c D aK TR mvR false a0 "PackedImageModel" cR_isRight 3 (some .boolean) (0, v0, M9)) : ∀ (y1 : Int) (z0 : Int) (M : Mm), fR_isRight_103 y1 z0 M = some (v0, M9) → Wm X 103 [some (.inr 0), some (.inl y1), none] [.inl z0] M := by
  intro y1 z0 M hf
  unfold fR_isRight_103 at hf
  refine x_istoren dR_isRight_103 (by decide) ?_
  refine x_iloadn dR_isRight_104 rfl ?_
  refine x_eq0 hf dR_isRight_105 rfl (fun hf => ?_) (fun hf => ?_)
  · refine x_iconst dR_isRight_137 ?_
    exact x_zret (rt_n hf) (by decide) rfl dR_isRight_138
  · refine x_iloadn dR_isRight_108 rfl ?_
    refine x_eq0 hf dR_isRight_109 rfl (fun hf => ?_) (fun hf => ?_)
    · refine x_iconst dR_isRight_137 ?_
      exact x_zret (rt_n hf) (by decide) rfl dR_isRight_138
    · refine x_iconst dR_isRight_112 ?_
      refine x_aloadn dR_isRight_113 rfl ?_
      refine x_getR gR_51 tR_0 rfl dR_isRight_114 ?_
      refine x_iconst dR_isRight_117 ?_
      refine x_iald hf tR_13 (by decide) dR_isRight_118 (fun v3 hf => ?_)
      refine x_iconst dR_isRight_119 ?_
      refine x_iadd dR_isRight_120 ?_
      refine x_iconst dR_isRight_121 ?_
      refine x_idiv hf dR_isRight_122 (fun v4 hf => ?_)
      refine x_iadd dR_isRight_123 ?_
      refine x_aloadn dR_isRight_124 rfl ?_
      refine x_getR gR_51 tR_0 rfl dR_isRight_125 ?_
      refine x_iconst dR_isRight_128 ?_
      refine x_iald hf tR_13 (by decide) dR_isRight_129 (fun v5 hf => ?_)
      refine x_gt hf dR_isRight_130 rfl (fun hf => ?_) (fun hf => ?_)
      · refine x_iconst dR_isRight_137 ?_
        exact x_zret (rt_n hf) (by decide) rfl dR_isRight_138
      · refine x_iconst dR_isRight_133 ?_
        refine x_goto (tgt := 138) dR_isRight_134 rfl ?_
        exact x_zret (rt_n hf) (by decide) rfl dR_isRight_138
set_option maxRecDepth 10000 in
theorem wR_isRight_102 {v0 : Int} {M9 : Mm} (X : Cy p l e (rmn 1 25) s m args below meth c D aK TR mvR false a0 "PackedImageModel" cR_isRight 3 (some .boolean) (0, v0, M9)) : ∀ (y1 : Int) (M : Mm), fR_isRight_102 y1 M = some (v0, M9) → Wm X 102 [some (.inr 0), some (.inl y1), none] [] M := by
  intro y1 M hf
  unfold fR_isRight_102 at hf
  refine x_iconst dR_isRight_102 ?_
  exact x_mask [true, true, false] (wR_isRight_103 X _ _ _ hf)
set_option maxRecDepth 10000 in
theorem wR_isRight_57 {v0 : Int} {M9 : Mm} (X : Cy p l e (rmn 1 25) s m args below meth c D aK TR mvR false a0 "PackedImageModel" cR_isRight 3 (some .boolean) (0, v0, M9)) : ∀ (z0 : Int) (M : Mm), fR_isRight_57 z0 M = some (v0, M9) → Wm X 57 [some (.inr 0), none, none] [.inl z0] M := by
  intro z0 M hf
  unfold fR_isRight_57 at hf
  refine x_istoren dR_isRight_57 (by decide) ?_
  refine x_aloadn dR_isRight_58 rfl ?_
  refine x_getR gR_51 tR_0 rfl dR_isRight_59 ?_
  refine x_iconst dR_isRight_62 ?_
  refine x_iald hf tR_13 (by decide) dR_isRight_63 (fun v2 hf => ?_)
  refine x_bipush dR_isRight_64 (by decide) ?_
  refine x_ge hf dR_isRight_66 rfl (fun hf => ?_) (fun hf => ?_)
  · exact x_mask [true, true, false] (wR_isRight_102 X _ _ hf)
  · refine x_aloadn dR_isRight_69 rfl ?_
    refine x_getR gR_51 tR_0 rfl dR_isRight_70 ?_
    refine x_iconst dR_isRight_73 ?_
    refine x_iald hf tR_13 (by decide) dR_isRight_74 (fun v6 hf => ?_)
    refine x_le0 hf dR_isRight_75 rfl (fun hf => ?_) (fun hf => ?_)
    · exact x_mask [true, true, false] (wR_isRight_102 X _ _ hf)
    · refine x_aloadn dR_isRight_78 rfl ?_
      refine x_getR gR_51 tR_0 rfl dR_isRight_79 ?_
      refine x_iconst dR_isRight_82 ?_
      refine x_iald hf tR_13 (by decide) dR_isRight_83 (fun v7 hf => ?_)
      refine x_bipush dR_isRight_84 (by decide) ?_
      refine x_gt hf dR_isRight_86 rfl (fun hf => ?_) (fun hf => ?_)
      · exact x_mask [true, true, false] (wR_isRight_102 X _ _ hf)
      · refine x_aloadn dR_isRight_89 rfl ?_
        refine x_getR gR_51 tR_0 rfl dR_isRight_90 ?_
        refine x_iconst dR_isRight_93 ?_
        refine x_iald hf tR_13 (by decide) dR_isRight_94 (fun v8 hf => ?_)
        refine x_le0 hf dR_isRight_95 rfl (fun hf => ?_) (fun hf => ?_)
        · exact x_mask [true, true, false] (wR_isRight_102 X _ _ hf)
        · refine x_iconst dR_isRight_98 ?_
          refine x_goto (tgt := 103) dR_isRight_99 rfl ?_
          exact x_mask [true, true, false] (wR_isRight_103 X _ _ _ hf)
set_option maxRecDepth 10000 in
theorem wR_isRight_56 {v0 : Int} {M9 : Mm} (X : Cy p l e (rmn 1 25) s m args below meth c D aK TR mvR false a0 "PackedImageModel" cR_isRight 3 (some .boolean) (0, v0, M9)) : ∀ (M : Mm), fR_isRight_56 M = some (v0, M9) → Wm X 56 [some (.inr 0), none, none] [] M := by
  intro M hf
  unfold fR_isRight_56 at hf
  refine x_iconst dR_isRight_56 ?_
  exact x_mask [true, false, false] (wR_isRight_57 X _ _ hf)
set_option maxRecDepth 10000 in
theorem wR_isRight {v0 : Int} {M9 : Mm} (X : Cy p l e (rmn 1 25) s m args below meth c D aK TR mvR false a0 "PackedImageModel" cR_isRight 3 (some .boolean) (0, v0, M9)) {M : Mm} (hf : fR_isRight M = some (v0, M9)) : Wm X 0 [some (.inr 0), none, none] [] M := by
  unfold fR_isRight at hf
  refine x_aloadn dR_isRight_0 rfl ?_
  refine x_getR gR_51 tR_0 rfl dR_isRight_1 ?_
  refine x_iconst dR_isRight_4 ?_
  refine x_iald hf tR_13 (by decide) dR_isRight_5 (fun v1 hf => ?_)
  refine x_sipush dR_isRight_6 (by decide) ?_
  refine x_ne hf dR_isRight_9 rfl (fun hf => ?_) (fun hf => ?_)
  · exact x_mask [true, false, false] (wR_isRight_56 X _ hf)
  · refine x_aloadn dR_isRight_12 rfl ?_
    refine x_getR gR_51 tR_0 rfl dR_isRight_13 ?_
    refine x_iconst dR_isRight_16 ?_
    refine x_iald hf tR_13 (by decide) dR_isRight_17 (fun v9 hf => ?_)
    refine x_sipush dR_isRight_18 (by decide) ?_
    refine x_ne hf dR_isRight_21 rfl (fun hf => ?_) (fun hf => ?_)
    · exact x_mask [true, false, false] (wR_isRight_56 X _ hf)
    · refine x_sipush dR_isRight_24 (by decide) ?_
      refine x_aloadn dR_isRight_27 rfl ?_
      refine x_getR gR_51 tR_0 rfl dR_isRight_28 ?_
      refine x_bipush dR_isRight_31 (by decide) ?_
      refine x_iald hf tR_13 (by decide) dR_isRight_33 (fun v10 hf => ?_)
      refine x_imul dR_isRight_34 ?_
      refine x_aloadn dR_isRight_35 rfl ?_
      refine x_getR gR_51 tR_0 rfl dR_isRight_36 ?_
      refine x_bipush dR_isRight_39 (by decide) ?_
      refine x_iald hf tR_13 (by decide) dR_isRight_41 (fun v11 hf => ?_)
      refine x_iadd dR_isRight_42 ?_
      refine x_aloadn dR_isRight_43 rfl ?_
      refine x_bipush dR_isRight_44 (by decide) ?_
      refine x_cvni hf (kR_check1 X.hst) iR_check1 lR_136 tR_0 rfl rfl (by decide) (Nat.le_of_ble_eq_true rfl) dR_isRight_46 (fun v13 M12 hf => ?_)
      refine x_ne hf dR_isRight_49 rfl (fun hf => ?_) (fun hf => ?_)
      · exact x_mask [true, false, false] (wR_isRight_56 X _ hf)
      · refine x_iconst dR_isRight_52 ?_
        refine x_goto (tgt := 57) dR_isRight_53 rfl ?_
        exact x_mask [true, false, false] (wR_isRight_57 X _ _ hf)
theorem kR_isRight {l : Launch} (hl : l.stackTraces = false) {M : Mm} (v0 : Int) (M9 : Mm) (hf : fR_isRight M = some (v0, M9)) : Ct l yR_isRight (rmn 1 25) TR mvR false (some .boolean) [.inr 0] M (0, v0, M9) := ct_of hl (by decide) iR_isRight.1 (Nat.le_of_ble_eq_true rfl) (fun X => wR_isRight X hf)
def fR_mount_160 (K83 : Int → Int → Int → Mm → Option (Int × Mm)) (y1 y3 z0 : Int) (M : Mm) : Option (Int × Mm) :=
  mrd M 14 256 y3 fun v14 =>
  meq v14 0
    (K83 (y1 + 0) z0 (y3 + 1) M)
    (K83 (y1 + 1) z0 (y3 + 1) M)
def fR_mount_146 (K83 : Int → Int → Int → Mm → Option (Int × Mm)) (y1 y2 y3 y4 z1 z2 : Int) (M : Mm) : Option (Int × Mm) :=
  mwz M 14 256 z1 z2 fun M13 =>
  meq y3 y2
    (fR_mount_160 K83 y1 y3 (y3 + y4) M13)
    (fR_mount_160 K83 y1 y3 y2 M13)
def fR_mount_145 (K83 : Int → Int → Int → Mm → Option (Int × Mm)) (y1 y2 y3 y4 z1 : Int) (M : Mm) : Option (Int × Mm) :=
  fR_mount_146 K83 y1 y2 y3 y4 z1 0 M
def fR_mount_118 (K83 : Int → Int → Int → Mm → Option (Int × Mm)) (y1 y2 y3 z0 : Int) (M : Mm) : Option (Int × Mm) :=
  meq y3 y2
    (mlt (M 0 18) (y3 + z0)
      (fR_mount_145 K83 y1 y2 y3 z0 y3 M)
      (fR_mount_146 K83 y1 y2 y3 z0 y3 1 M))
    (fR_mount_145 K83 y1 y2 y3 z0 y3 M)
def fR_mount_83 : Nat → Int → Int → Int → Mm → Option (Int × Mm)
  | 0, _, _, _, _ => none
  | n+1, y1, y2, y3, M =>
    mlt y3 256
      (mlt y3 (M 0 18)
        (mrd M 13 1024 (16 + (8 * y3)) fun v15 =>
        mrem v15 2 fun v16 =>
        fR_mount_118 (fR_mount_83 n) y1 y2 y3 (1 + v16) M)
        (fR_mount_118 (fR_mount_83 n) y1 y2 y3 1 M))
      (some (y1, M))
def fR_mount_21 (z1 : Int) (M : Mm) : Option (Int × Mm) :=
  mput M 0 0 z1 fun M4 =>
  mlt 0 (M4 0 0)
    (some (0, M4))
    (mrd M4 13 1024 3 fun v5 =>
    mput M4 0 18 v5 fun M6 =>
    mrd M6 13 1024 4 fun v7 =>
    mput M6 0 19 v7 fun M8 =>
    mput M8 0 24 0 fun M9 =>
    mput M9 0 25 0 fun M10 =>
    mwr M10 16 2 0 (-1) fun M11 =>
    mwr M11 16 2 1 (-1) fun M12 =>
    fR_mount_83 FU 0 0 0 M12)
def fR_mount (M : Mm) : Option (Int × Mm) :=
  mcn (fR_isRight M) fun v2 M1 =>
  mpuz M1 0 17 v2 fun M3 =>
  meq (M3 0 17) 0
    (fR_mount_21 1 M3)
    (fR_mount_21 0 M3)
set_option maxRecDepth 10000 in
theorem wR_mount_160 {v0 : Int} {M9 : Mm} (X : Cy p l e (rmn 2 47) s m args below meth c D aK TR mvR false a0 "PackedImageModel" cR_mount 5 (some .int) (0, v0, M9)) {K83 : Int → Int → Int → Mm → Option (Int × Mm)} (hK83 : ∀ (y1 : Int) (y2 : Int) (y3 : Int) (M : Mm), K83 y1 y2 y3 M = some (v0, M9) → Wm X 83 [some (.inr 0), some (.inl y1), some (.inl y2), some (.inl y3), none] [] M) : ∀ (y1 : Int) (y3 : Int) (z0 : Int) (M : Mm), fR_mount_160 K83 y1 y3 z0 M = some (v0, M9) → Wm X 160 [some (.inr 0), some (.inl y1), none, some (.inl y3), none] [.inl z0] M := by
  intro y1 y3 z0 M hf
  unfold fR_mount_160 at hf
  refine x_istoren dR_mount_160 (by decide) ?_
  refine x_iloadn dR_mount_161 rfl ?_
  refine x_aloadn dR_mount_162 rfl ?_
  refine x_getR gR_54 tR_0 rfl dR_mount_163 ?_
  refine x_iloadn dR_mount_166 rfl ?_
  refine x_zald hf tR_14 (by decide) dR_mount_167 (fun v14 hf => ?_)
  refine x_eq0 hf dR_mount_168 rfl (fun hf => ?_) (fun hf => ?_)
  · refine x_iconst dR_mount_175 ?_
    refine x_iadd dR_mount_176 ?_
    refine x_istoren dR_mount_177 (by decide) ?_
    refine x_iinc dR_mount_178 rfl (by decide) ?_
    refine x_goto (tgt := 83) dR_mount_181 rfl ?_
    exact x_mask [true, true, true, true, false] (hK83 _ _ _ _ hf)
  · refine x_iconst dR_mount_171 ?_
    refine x_goto (tgt := 176) dR_mount_172 rfl ?_
    refine x_iadd dR_mount_176 ?_
    refine x_istoren dR_mount_177 (by decide) ?_
    refine x_iinc dR_mount_178 rfl (by decide) ?_
    refine x_goto (tgt := 83) dR_mount_181 rfl ?_
    exact x_mask [true, true, true, true, false] (hK83 _ _ _ _ hf)
set_option maxRecDepth 10000 in
theorem wR_mount_146 {v0 : Int} {M9 : Mm} (X : Cy p l e (rmn 2 47) s m args below meth c D aK TR mvR false a0 "PackedImageModel" cR_mount 5 (some .int) (0, v0, M9)) {K83 : Int → Int → Int → Mm → Option (Int × Mm)} (hK83 : ∀ (y1 : Int) (y2 : Int) (y3 : Int) (M : Mm), K83 y1 y2 y3 M = some (v0, M9) → Wm X 83 [some (.inr 0), some (.inl y1), some (.inl y2), some (.inl y3), none] [] M) : ∀ (y1 : Int) (y2 : Int) (y3 : Int) (y4 : Int) (z1 : Int) (z2 : Int) (M : Mm), fR_mount_146 K83 y1 y2 y3 y4 z1 z2 M = some (v0, M9) → Wm X 146 [some (.inr 0), some (.inl y1), some (.inl y2), some (.inl y3), some (.inl y4)] [.inl z2, .inl z1, .inr 14] M := by
  intro y1 y2 y3 y4 z1 z2 M hf
  unfold fR_mount_146 at hf
  refine x_zast hf tR_14 (by decide) dR_mount_146 (fun M13 hf => ?_)
  refine x_iloadn dR_mount_147 rfl ?_
  refine x_iloadn dR_mount_148 rfl ?_
  refine x_ne hf dR_mount_149 rfl (fun hf => ?_) (fun hf => ?_)
  · refine x_iloadn dR_mount_159 rfl ?_
    exact x_mask [true, true, false, true, false] (wR_mount_160 X hK83 _ _ _ _ hf)
  · refine x_iloadn dR_mount_152 rfl ?_
    refine x_iload dR_mount_153 rfl ?_
    refine x_iadd dR_mount_155 ?_
    refine x_goto (tgt := 160) dR_mount_156 rfl ?_
    exact x_mask [true, true, false, true, false] (wR_mount_160 X hK83 _ _ _ _ hf)
set_option maxRecDepth 10000 in
theorem wR_mount_145 {v0 : Int} {M9 : Mm} (X : Cy p l e (rmn 2 47) s m args below meth c D aK TR mvR false a0 "PackedImageModel" cR_mount 5 (some .int) (0, v0, M9)) {K83 : Int → Int → Int → Mm → Option (Int × Mm)} (hK83 : ∀ (y1 : Int) (y2 : Int) (y3 : Int) (M : Mm), K83 y1 y2 y3 M = some (v0, M9) → Wm X 83 [some (.inr 0), some (.inl y1), some (.inl y2), some (.inl y3), none] [] M) : ∀ (y1 : Int) (y2 : Int) (y3 : Int) (y4 : Int) (z1 : Int) (M : Mm), fR_mount_145 K83 y1 y2 y3 y4 z1 M = some (v0, M9) → Wm X 145 [some (.inr 0), some (.inl y1), some (.inl y2), some (.inl y3), some (.inl y4)] [.inl z1, .inr 14] M := by
  intro y1 y2 y3 y4 z1 M hf
  unfold fR_mount_145 at hf
  refine x_iconst dR_mount_145 ?_
  exact x_mask [true, true, true, true, true] (wR_mount_146 X hK83 _ _ _ _ _ _ _ hf)
set_option maxRecDepth 10000 in
theorem wR_mount_118 {v0 : Int} {M9 : Mm} (X : Cy p l e (rmn 2 47) s m args below meth c D aK TR mvR false a0 "PackedImageModel" cR_mount 5 (some .int) (0, v0, M9)) {K83 : Int → Int → Int → Mm → Option (Int × Mm)} (hK83 : ∀ (y1 : Int) (y2 : Int) (y3 : Int) (M : Mm), K83 y1 y2 y3 M = some (v0, M9) → Wm X 83 [some (.inr 0), some (.inl y1), some (.inl y2), some (.inl y3), none] [] M) : ∀ (y1 : Int) (y2 : Int) (y3 : Int) (z0 : Int) (M : Mm), fR_mount_118 K83 y1 y2 y3 z0 M = some (v0, M9) → Wm X 118 [some (.inr 0), some (.inl y1), some (.inl y2), some (.inl y3), none] [.inl z0] M := by
  intro y1 y2 y3 z0 M hf
  unfold fR_mount_118 at hf
  refine x_istore dR_mount_118 (by decide) ?_
  refine x_aloadn dR_mount_120 rfl ?_
  refine x_getR gR_54 tR_0 rfl dR_mount_121 ?_
  refine x_iloadn dR_mount_124 rfl ?_
  refine x_iloadn dR_mount_125 rfl ?_
  refine x_iloadn dR_mount_126 rfl ?_
  refine x_ne hf dR_mount_127 rfl (fun hf => ?_) (fun hf => ?_)
  · exact x_mask [true, true, true, true, true] (wR_mount_145 X hK83 _ _ _ _ _ _ hf)
  · refine x_iloadn dR_mount_130 rfl ?_
    refine x_iload dR_mount_131 rfl ?_
    refine x_iadd dR_mount_133 ?_
    refine x_aloadn dR_mount_134 rfl ?_
    refine x_getI gR_143 tR_0 rfl dR_mount_135 ?_
    refine x_gt hf dR_mount_138 rfl (fun hf => ?_) (fun hf => ?_)
    · exact x_mask [true, true, true, true, true] (wR_mount_145 X hK83 _ _ _ _ _ _ hf)
    · refine x_iconst dR_mount_141 ?_
      refine x_goto (tgt := 146) dR_mount_142 rfl ?_
      exact x_mask [true, true, true, true, true] (wR_mount_146 X hK83 _ _ _ _ _ _ _ hf)
set_option maxRecDepth 10000 in
theorem wR_mount_83 {v0 : Int} {M9 : Mm} (X : Cy p l e (rmn 2 47) s m args below meth c D aK TR mvR false a0 "PackedImageModel" cR_mount 5 (some .int) (0, v0, M9)) : ∀ (n : Nat) (y1 : Int) (y2 : Int) (y3 : Int) (M : Mm), fR_mount_83 n y1 y2 y3 M = some (v0, M9) → Wm X 83 [some (.inr 0), some (.inl y1), some (.inl y2), some (.inl y3), none] [] M := by
  intro n
  induction n with
  | zero => intro y1 y2 y3 M hf; exact nomatch (show (none : Option (Int × Mm)) = _ from hf)
  | succ n ih =>
    intro y1 y2 y3 M hf
    rw [fR_mount_83] at hf
    refine x_iloadn dR_mount_83 rfl ?_
    refine x_sipush dR_mount_84 (by decide) ?_
    refine x_ge hf dR_mount_87 rfl (fun hf => ?_) (fun hf => ?_)
    · refine x_iloadn dR_mount_184 rfl ?_
      exact x_iret (rt_n hf) rfl dR_mount_185
    · refine x_iloadn dR_mount_90 rfl ?_
      refine x_aloadn dR_mount_91 rfl ?_
      refine x_getI gR_143 tR_0 rfl dR_mount_92 ?_
      refine x_ge hf dR_mount_95 rfl (fun hf => ?_) (fun hf => ?_)
      · refine x_iconst dR_mount_117 ?_
        exact x_mask [true, true, true, true, false] (wR_mount_118 X ih _ _ _ _ _ hf)
      · refine x_iconst dR_mount_98 ?_
        refine x_aloadn dR_mount_99 rfl ?_
        refine x_getR gR_51 tR_0 rfl dR_mount_100 ?_
        refine x_bipush dR_mount_103 (by decide) ?_
        refine x_bipush dR_mount_105 (by decide) ?_
        refine x_iloadn dR_mount_107 rfl ?_
        refine x_imul dR_mount_108 ?_
        refine x_iadd dR_mount_109 ?_
        refine x_iald hf tR_13 (by decide) dR_mount_110 (fun v15 hf => ?_)
        refine x_iconst dR_mount_111 ?_
        refine x_irem hf dR_mount_112 (fun v16 hf => ?_)
        refine x_iadd dR_mount_113 ?_
        refine x_goto (tgt := 118) dR_mount_114 rfl ?_
        exact x_mask [true, true, true, true, false] (wR_mount_118 X ih _ _ _ _ _ hf)
set_option maxRecDepth 10000 in
theorem wR_mount_21 {v0 : Int} {M9 : Mm} (X : Cy p l e (rmn 2 47) s m args below meth c D aK TR mvR false a0 "PackedImageModel" cR_mount 5 (some .int) (0, v0, M9)) : ∀ (z1 : Int) (M : Mm), fR_mount_21 z1 M = some (v0, M9) → Wm X 21 [some (.inr 0), none, none, none, none] [.inl z1, .inr 0] M := by
  intro z1 M hf
  unfold fR_mount_21 at hf
  refine x_put hf gR_69 pR_0 tR_0 rfl dR_mount_21 (fun M4 hf => ?_)
  refine x_aloadn dR_mount_24 rfl ?_
  refine x_getI gR_69 tR_0 rfl dR_mount_25 ?_
  refine x_le0 hf dR_mount_28 rfl (fun hf => ?_) (fun hf => ?_)
  · refine x_aloadn dR_mount_33 rfl ?_
    refine x_aloadn dR_mount_34 rfl ?_
    refine x_getR gR_51 tR_0 rfl dR_mount_35 ?_
    refine x_iconst dR_mount_38 ?_
    refine x_iald hf tR_13 (by decide) dR_mount_39 (fun v5 hf => ?_)
    refine x_put hf gR_143 pR_18 tR_0 rfl dR_mount_40 (fun M6 hf => ?_)
    refine x_aloadn dR_mount_43 rfl ?_
    refine x_aloadn dR_mount_44 rfl ?_
    refine x_getR gR_51 tR_0 rfl dR_mount_45 ?_
    refine x_iconst dR_mount_48 ?_
    refine x_iald hf tR_13 (by decide) dR_mount_49 (fun v7 hf => ?_)
    refine x_put hf gR_146 pR_19 tR_0 rfl dR_mount_50 (fun M8 hf => ?_)
    refine x_aloadn dR_mount_53 rfl ?_
    refine x_iconst dR_mount_54 ?_
    refine x_put hf gR_149 pR_24 tR_0 rfl dR_mount_55 (fun M9 hf => ?_)
    refine x_aloadn dR_mount_58 rfl ?_
    refine x_iconst dR_mount_59 ?_
    refine x_put hf gR_152 pR_25 tR_0 rfl dR_mount_60 (fun M10 hf => ?_)
    refine x_aloadn dR_mount_63 rfl ?_
    refine x_getR gR_60 tR_0 rfl dR_mount_64 ?_
    refine x_iconst dR_mount_67 ?_
    refine x_iconst dR_mount_68 ?_
    refine x_iast hf tR_16 (by decide) dR_mount_69 (fun M11 hf => ?_)
    refine x_aloadn dR_mount_70 rfl ?_
    refine x_getR gR_60 tR_0 rfl dR_mount_71 ?_
    refine x_iconst dR_mount_74 ?_
    refine x_iconst dR_mount_75 ?_
    refine x_iast hf tR_16 (by decide) dR_mount_76 (fun M12 hf => ?_)
    refine x_iconst dR_mount_77 ?_
    refine x_istoren dR_mount_78 (by decide) ?_
    refine x_iconst dR_mount_79 ?_
    refine x_istoren dR_mount_80 (by decide) ?_
    refine x_iconst dR_mount_81 ?_
    refine x_istoren dR_mount_82 (by decide) ?_
    exact x_mask [true, true, true, true, false] (wR_mount_83 X FU _ _ _ _ hf)
  · refine x_iconst dR_mount_31 ?_
    exact x_iret (rt_n hf) rfl dR_mount_32
set_option maxRecDepth 10000 in
theorem wR_mount {v0 : Int} {M9 : Mm} (X : Cy p l e (rmn 2 47) s m args below meth c D aK TR mvR false a0 "PackedImageModel" cR_mount 5 (some .int) (0, v0, M9)) {M : Mm} (hf : fR_mount M = some (v0, M9)) : Wm X 0 [some (.inr 0), none, none, none, none] [] M := by
  unfold fR_mount at hf
  refine x_aloadn dR_mount_0 rfl ?_
  refine x_aloadn dR_mount_1 rfl ?_
  refine x_cvni hf (kR_isRight X.hst) iR_isRight lR_139 tR_0 rfl rfl (by decide) (Nat.le_of_ble_eq_true rfl) dR_mount_2 (fun v2 M1 hf => ?_)
  refine x_putz hf gR_132 pR_17 tR_0 rfl dR_mount_5 (fun M3 hf => ?_)
  refine x_aloadn dR_mount_8 rfl ?_
  refine x_aloadn dR_mount_9 rfl ?_
  refine x_getI gR_132 tR_0 rfl dR_mount_10 ?_
  refine x_eq0 hf dR_mount_13 rfl (fun hf => ?_) (fun hf => ?_)
  · refine x_iconst dR_mount_20 ?_
    exact x_mask [true, false, false, false, false] (wR_mount_21 X _ _ hf)
  · refine x_iconst dR_mount_16 ?_
    refine x_goto (tgt := 21) dR_mount_17 rfl ?_
    exact x_mask [true, false, false, false, false] (wR_mount_21 X _ _ hf)
theorem kR_mount {l : Launch} (hl : l.stackTraces = false) {M : Mm} (v0 : Int) (M9 : Mm) (hf : fR_mount M = some (v0, M9)) : Ct l yR_mount (rmn 2 47) TR mvR false (some .int) [.inr 0] M (0, v0, M9) := ct_of hl (by decide) iR_mount.1 (Nat.le_of_ble_eq_true rfl) (fun X => wR_mount X hf)
def fR_tag (x1 : Int) (x2 : Int) (M : Mm) : Option (Int × Mm) :=
  mrd M 13 1024 (16 + (8 * x1)) fun v1 =>
  mshr v1 x2 fun v2 =>
  some ((v2 % 4), M)
set_option maxRecDepth 10000 in
theorem wR_tag {v0 : Int} {M9 : Mm} (X : Cy p l e (rmn 0 0) s m args below meth c D aK TR mvR false a0 "PackedImageModel" cR_tag 3 (some .int) (0, v0, M9)) {x1 : Int} {x2 : Int} {M : Mm} (hf : fR_tag x1 x2 M = some (v0, M9)) : Wm X 0 [some (.inr 0), some (.inl x1), some (.inl x2)] [] M := by
  unfold fR_tag at hf
  refine x_aloadn dR_tag_0 rfl ?_
  refine x_getR gR_51 tR_0 rfl dR_tag_1 ?_
  refine x_bipush dR_tag_4 (by decide) ?_
  refine x_bipush dR_tag_6 (by decide) ?_
  refine x_iloadn dR_tag_8 rfl ?_
  refine x_imul dR_tag_9 ?_
  refine x_iadd dR_tag_10 ?_
  refine x_iald hf tR_13 (by decide) dR_tag_11 (fun v1 hf => ?_)
  refine x_iloadn dR_tag_12 rfl ?_
  refine x_ishr hf dR_tag_13 (fun v2 hf => ?_)
  refine x_iconst dR_tag_14 ?_
  refine x_iandm (an3 _) dR_tag_15 ?_
  exact x_iret (rt_n hf) rfl dR_tag_16
theorem kR_tag {l : Launch} (hl : l.stackTraces = false) {x1 : Int} {x2 : Int} {M : Mm} (v0 : Int) (M9 : Mm) (hf : fR_tag x1 x2 M = some (v0, M9)) : Ct l yR_tag (rmn 0 0) TR mvR false (some .int) [.inr 0, .inl x1, .inl x2] M (0, v0, M9) := ct_of hl (by decide) iR_tag.1 (Nat.le_of_ble_eq_true rfl) (fun X => wR_tag X hf)
def fR_size (x1 : Int) (M : Mm) : Option (Int × Mm) :=
  mrd M 13 1024 ((16 + (8 * x1)) + 1) fun v1 =>
  some (v1, M)
set_option maxRecDepth 10000 in
theorem wR_size {v0 : Int} {M9 : Mm} (X : Cy p l e (rmn 0 0) s m args below meth c D aK TR mvR false a0 "PackedImageModel" cR_size 2 (some .int) (0, v0, M9)) {x1 : Int} {M : Mm} (hf : fR_size x1 M = some (v0, M9)) : Wm X 0 [some (.inr 0), some (.inl x1)] [] M := by
  unfold fR_size at hf
  refine x_aloadn dR_size_0 rfl ?_
  refine x_getR gR_51 tR_0 rfl dR_size_1 ?_
  refine x_bipush dR_size_4 (by decide) ?_
  refine x_bipush dR_size_6 (by decide) ?_
  refine x_iloadn dR_size_8 rfl ?_
  refine x_imul dR_size_9 ?_
  refine x_iadd dR_size_10 ?_
  refine x_iconst dR_size_11 ?_
  refine x_iadd dR_size_12 ?_
  refine x_iald hf tR_13 (by decide) dR_size_13 (fun v1 hf => ?_)
  exact x_iret (rt_n hf) rfl dR_size_14
theorem kR_size {l : Launch} (hl : l.stackTraces = false) {x1 : Int} {M : Mm} (v0 : Int) (M9 : Mm) (hf : fR_size x1 M = some (v0, M9)) : Ct l yR_size (rmn 0 0) TR mvR false (some .int) [.inr 0, .inl x1] M (0, v0, M9) := ct_of hl (by decide) iR_size.1 (Nat.le_of_ble_eq_true rfl) (fun X => wR_size X hf)
def fR_first (x1 : Int) (M : Mm) : Option (Int × Mm) :=
  mrd M 13 1024 ((16 + (8 * x1)) + 2) fun v1 =>
  some (v1, M)
set_option maxRecDepth 10000 in
theorem wR_first {v0 : Int} {M9 : Mm} (X : Cy p l e (rmn 0 0) s m args below meth c D aK TR mvR false a0 "PackedImageModel" cR_first 2 (some .int) (0, v0, M9)) {x1 : Int} {M : Mm} (hf : fR_first x1 M = some (v0, M9)) : Wm X 0 [some (.inr 0), some (.inl x1)] [] M := by
  unfold fR_first at hf
  refine x_aloadn dR_first_0 rfl ?_
  refine x_getR gR_51 tR_0 rfl dR_first_1 ?_
  refine x_bipush dR_first_4 (by decide) ?_
  refine x_bipush dR_first_6 (by decide) ?_
  refine x_iloadn dR_first_8 rfl ?_
  refine x_imul dR_first_9 ?_
  refine x_iadd dR_first_10 ?_
  refine x_iconst dR_first_11 ?_
  refine x_iadd dR_first_12 ?_
  refine x_iald hf tR_13 (by decide) dR_first_13 (fun v1 hf => ?_)
  exact x_iret (rt_n hf) rfl dR_first_14
theorem kR_first {l : Launch} (hl : l.stackTraces = false) {x1 : Int} {M : Mm} (v0 : Int) (M9 : Mm) (hf : fR_first x1 M = some (v0, M9)) : Ct l yR_first (rmn 0 0) TR mvR false (some .int) [.inr 0, .inl x1] M (0, v0, M9) := ct_of hl (by decide) iR_first.1 (Nat.le_of_ble_eq_true rfl) (fun X => wR_first X hf)
def fR_rest (x1 : Int) (x2 : Int) (M : Mm) : Option (Int × Mm) :=
  mrd M 13 1024 (((16 + (8 * x1)) + 4) + x2) fun v1 =>
  some (v1, M)
set_option maxRecDepth 10000 in
theorem wR_rest {v0 : Int} {M9 : Mm} (X : Cy p l e (rmn 0 0) s m args below meth c D aK TR mvR false a0 "PackedImageModel" cR_rest 3 (some .int) (0, v0, M9)) {x1 : Int} {x2 : Int} {M : Mm} (hf : fR_rest x1 x2 M = some (v0, M9)) : Wm X 0 [some (.inr 0), some (.inl x1), some (.inl x2)] [] M := by
  unfold fR_rest at hf
  refine x_aloadn dR_rest_0 rfl ?_
  refine x_getR gR_51 tR_0 rfl dR_rest_1 ?_
  refine x_bipush dR_rest_4 (by decide) ?_
  refine x_bipush dR_rest_6 (by decide) ?_
  refine x_iloadn dR_rest_8 rfl ?_
  refine x_imul dR_rest_9 ?_
  refine x_iadd dR_rest_10 ?_
  refine x_iconst dR_rest_11 ?_
  refine x_iadd dR_rest_12 ?_
  refine x_iloadn dR_rest_13 rfl ?_
  refine x_iadd dR_rest_14 ?_
  refine x_iald hf tR_13 (by decide) dR_rest_15 (fun v1 hf => ?_)
  exact x_iret (rt_n hf) rfl dR_rest_16
theorem kR_rest {l : Launch} (hl : l.stackTraces = false) {x1 : Int} {x2 : Int} {M : Mm} (v0 : Int) (M9 : Mm) (hf : fR_rest x1 x2 M = some (v0, M9)) : Ct l yR_rest (rmn 0 0) TR mvR false (some .int) [.inr 0, .inl x1, .inl x2] M (0, v0, M9) := ct_of hl (by decide) iR_rest.1 (Nat.le_of_ble_eq_true rfl) (fun X => wR_rest X hf)
def fR_end (x1 : Int) (x2 : Int) (M : Mm) : Option (Int × Mm) :=
  mlt x2 0
    (some (0, M))
    (mcn (fR_rest x1 (1 + x2) M) fun v2 M1 =>
    some (v2, M1))
set_option maxRecDepth 10000 in
theorem wR_end {v0 : Int} {M9 : Mm} (X : Cy p l e (rmn 1 22) s m args below meth c D aK TR mvR false a0 "PackedImageModel" cR_end 3 (some .int) (0, v0, M9)) {x1 : Int} {x2 : Int} {M : Mm} (hf : fR_end x1 x2 M = some (v0, M9)) : Wm X 0 [some (.inr 0), some (.inl x1), some (.inl x2)] [] M := by
  unfold fR_end at hf
  refine x_iloadn dR_end_0 rfl ?_
  refine x_ge0 hf dR_end_1 rfl (fun hf => ?_) (fun hf => ?_)
  · refine x_aloadn dR_end_8 rfl ?_
    refine x_iloadn dR_end_9 rfl ?_
    refine x_iconst dR_end_10 ?_
    refine x_iloadn dR_end_11 rfl ?_
    refine x_iadd dR_end_12 ?_
    refine x_cvni hf (kR_rest X.hst) iR_rest lR_155 tR_0 rfl rfl (by decide) (Nat.le_of_ble_eq_true rfl) dR_end_13 (fun v2 M1 hf => ?_)
    exact x_iret (rt_n hf) rfl dR_end_16
  · refine x_iconst dR_end_4 ?_
    refine x_goto (tgt := 16) dR_end_5 rfl ?_
    exact x_iret (rt_n hf) rfl dR_end_16
theorem kR_end {l : Launch} (hl : l.stackTraces = false) {x1 : Int} {x2 : Int} {M : Mm} (v0 : Int) (M9 : Mm) (hf : fR_end x1 x2 M = some (v0, M9)) : Ct l yR_end (rmn 1 22) TR mvR false (some .int) [.inr 0, .inl x1, .inl x2] M (0, v0, M9) := ct_of hl (by decide) iR_end.1 (Nat.le_of_ble_eq_true rfl) (fun X => wR_end X hf)
def fR_endsAreWrong_41 : Nat → Int → Int → Int → Int → Mm → Option (Int × Mm)
  | 0, _, _, _, _, _ => none
  | n+1, y1, y2, y3, y4, M =>
    mlt y4 y2
      (meq y3 0
        (mcn (fR_end y1 y4 M) fun v8 M7 =>
        mcn (fR_end y1 (y4 - 1) M7) fun v10 M9 =>
        mlt v10 v8
          ((fR_endsAreWrong_41 n) y1 y2 0 (y4 + 1) M9)
          ((fR_endsAreWrong_41 n) y1 y2 1 (y4 + 1) M9))
        ((fR_endsAreWrong_41 n) y1 y2 1 (y4 + 1) M))
      (mz y3 (some (y3, M)))
def fR_endsAreWrong (x1 : Int) (M : Mm) : Option (Int × Mm) :=
  mcn (fR_rest x1 0 M) fun v2 M1 =>
  mlt v2 1
    (some (1, M1))
    (mlt 11 v2
      (some (1, M1))
      (mcn (fR_end x1 (v2 - 1) M1) fun v4 M3 =>
      mcn (fR_size x1 M3) fun v6 M5 =>
      meq v4 v6
        (fR_endsAreWrong_41 FU x1 v2 0 0 M5)
        (some (1, M5))))
set_option maxRecDepth 10000 in
theorem wR_endsAreWrong_41 {v0 : Int} {M9 : Mm} (X : Cy p l e (rmn 2 44) s m args below meth c D aK TR mvR false a0 "PackedImageModel" cR_endsAreWrong 5 (some .boolean) (0, v0, M9)) : ∀ (n : Nat) (y1 : Int) (y2 : Int) (y3 : Int) (y4 : Int) (M : Mm), fR_endsAreWrong_41 n y1 y2 y3 y4 M = some (v0, M9) → Wm X 41 [some (.inr 0), some (.inl y1), some (.inl y2), some (.inl y3), some (.inl y4)] [] M := by
  intro n
  induction n with
  | zero => intro y1 y2 y3 y4 M hf; exact nomatch (show (none : Option (Int × Mm)) = _ from hf)
  | succ n ih =>
    intro y1 y2 y3 y4 M hf
    rw [fR_endsAreWrong_41] at hf
    refine x_iload dR_endsAreWrong_41 rfl ?_
    refine x_iloadn dR_endsAreWrong_43 rfl ?_
    refine x_ge hf dR_endsAreWrong_44 rfl (fun hf => ?_) (fun hf => ?_)
    · refine x_iloadn dR_endsAreWrong_82 rfl ?_
      obtain ⟨hz, hf⟩ := mif_of hf
      exact x_zret (rt_n hf) hz rfl dR_endsAreWrong_83
    · refine x_iloadn dR_endsAreWrong_47 rfl ?_
      refine x_ne0 hf dR_endsAreWrong_48 rfl (fun hf => ?_) (fun hf => ?_)
      · refine x_iconst dR_endsAreWrong_70 ?_
        refine x_goto (tgt := 75) dR_endsAreWrong_71 rfl ?_
        refine x_istoren dR_endsAreWrong_75 (by decide) ?_
        refine x_iinc dR_endsAreWrong_76 rfl (by decide) ?_
        refine x_goto (tgt := 41) dR_endsAreWrong_79 rfl ?_
        exact x_mask [true, true, true, true, true] (ih _ _ _ _ _ hf)
      · refine x_aloadn dR_endsAreWrong_51 rfl ?_
        refine x_iloadn dR_endsAreWrong_52 rfl ?_
        refine x_iload dR_endsAreWrong_53 rfl ?_
        refine x_cvni hf (kR_end X.hst) iR_end lR_159 tR_0 rfl rfl (by decide) (Nat.le_of_ble_eq_true rfl) dR_endsAreWrong_55 (fun v8 M7 hf => ?_)
        refine x_aloadn dR_endsAreWrong_58 rfl ?_
        refine x_iloadn dR_endsAreWrong_59 rfl ?_
        refine x_iload dR_endsAreWrong_60 rfl ?_
        refine x_iconst dR_endsAreWrong_62 ?_
        refine x_isub dR_endsAreWrong_63 ?_
        refine x_cvni hf (kR_end X.hst) iR_end lR_159 tR_0 rfl rfl (by decide) (Nat.le_of_ble_eq_true rfl) dR_endsAreWrong_64 (fun v10 M9 hf => ?_)
        refine x_gt hf dR_endsAreWrong_67 rfl (fun hf => ?_) (fun hf => ?_)
        · refine x_iconst dR_endsAreWrong_74 ?_
          refine x_istoren dR_endsAreWrong_75 (by decide) ?_
          refine x_iinc dR_endsAreWrong_76 rfl (by decide) ?_
          refine x_goto (tgt := 41) dR_endsAreWrong_79 rfl ?_
          exact x_mask [true, true, true, true, true] (ih _ _ _ _ _ hf)
        · refine x_iconst dR_endsAreWrong_70 ?_
          refine x_goto (tgt := 75) dR_endsAreWrong_71 rfl ?_
          refine x_istoren dR_endsAreWrong_75 (by decide) ?_
          refine x_iinc dR_endsAreWrong_76 rfl (by decide) ?_
          refine x_goto (tgt := 41) dR_endsAreWrong_79 rfl ?_
          exact x_mask [true, true, true, true, true] (ih _ _ _ _ _ hf)
set_option maxRecDepth 10000 in
theorem wR_endsAreWrong {v0 : Int} {M9 : Mm} (X : Cy p l e (rmn 2 44) s m args below meth c D aK TR mvR false a0 "PackedImageModel" cR_endsAreWrong 5 (some .boolean) (0, v0, M9)) {x1 : Int} {M : Mm} (hf : fR_endsAreWrong x1 M = some (v0, M9)) : Wm X 0 [some (.inr 0), some (.inl x1), none, none, none] [] M := by
  unfold fR_endsAreWrong at hf
  refine x_aloadn dR_endsAreWrong_0 rfl ?_
  refine x_iloadn dR_endsAreWrong_1 rfl ?_
  refine x_iconst dR_endsAreWrong_2 ?_
  refine x_cvni hf (kR_rest X.hst) iR_rest lR_155 tR_0 rfl rfl (by decide) (Nat.le_of_ble_eq_true rfl) dR_endsAreWrong_3 (fun v2 M1 hf => ?_)
  refine x_istoren dR_endsAreWrong_6 (by decide) ?_
  refine x_iloadn dR_endsAreWrong_7 rfl ?_
  refine x_iconst dR_endsAreWrong_8 ?_
  refine x_lt hf dR_endsAreWrong_9 rfl (fun hf => ?_) (fun hf => ?_)
  · refine x_iconst dR_endsAreWrong_34 ?_
    exact x_zret (rt_n hf) (by decide) rfl dR_endsAreWrong_35
  · refine x_iloadn dR_endsAreWrong_12 rfl ?_
    refine x_bipush dR_endsAreWrong_13 (by decide) ?_
    refine x_gt hf dR_endsAreWrong_15 rfl (fun hf => ?_) (fun hf => ?_)
    · refine x_iconst dR_endsAreWrong_34 ?_
      exact x_zret (rt_n hf) (by decide) rfl dR_endsAreWrong_35
    · refine x_aloadn dR_endsAreWrong_18 rfl ?_
      refine x_iloadn dR_endsAreWrong_19 rfl ?_
      refine x_iloadn dR_endsAreWrong_20 rfl ?_
      refine x_iconst dR_endsAreWrong_21 ?_
      refine x_isub dR_endsAreWrong_22 ?_
      refine x_cvni hf (kR_end X.hst) iR_end lR_159 tR_0 rfl rfl (by decide) (Nat.le_of_ble_eq_true rfl) dR_endsAreWrong_23 (fun v4 M3 hf => ?_)
      refine x_aloadn dR_endsAreWrong_26 rfl ?_
      refine x_iloadn dR_endsAreWrong_27 rfl ?_
      refine x_cvni hf (kR_size X.hst) iR_size lR_162 tR_0 rfl rfl (by decide) (Nat.le_of_ble_eq_true rfl) dR_endsAreWrong_28 (fun v6 M5 hf => ?_)
      refine x_eq hf dR_endsAreWrong_31 rfl (fun hf => ?_) (fun hf => ?_)
      · refine x_iconst dR_endsAreWrong_36 ?_
        refine x_istoren dR_endsAreWrong_37 (by decide) ?_
        refine x_iconst dR_endsAreWrong_38 ?_
        refine x_istore dR_endsAreWrong_39 (by decide) ?_
        exact x_mask [true, true, true, true, true] (wR_endsAreWrong_41 X FU _ _ _ _ _ hf)
      · refine x_iconst dR_endsAreWrong_34 ?_
        exact x_zret (rt_n hf) (by decide) rfl dR_endsAreWrong_35
theorem kR_endsAreWrong {l : Launch} (hl : l.stackTraces = false) {x1 : Int} {M : Mm} (v0 : Int) (M9 : Mm) (hf : fR_endsAreWrong x1 M = some (v0, M9)) : Ct l yR_endsAreWrong (rmn 2 44) TR mvR false (some .boolean) [.inr 0, .inl x1] M (0, v0, M9) := ct_of hl (by decide) iR_endsAreWrong.1 (Nat.le_of_ble_eq_true rfl) (fun X => wR_endsAreWrong X hf)
def fR_isBad_157 (y1 z0 : Int) (M : Mm) : Option (Int × Mm) :=
  mlt 0 z0
    (mcn (fR_first y1 M) fun v12 M11 =>
    mdiv ((M11 0 18) + 1) 2 fun v13 =>
    mlt v12 (1 + v13)
      (some (1, M11))
      (mcn (fR_first y1 M11) fun v15 M14 =>
      mlt (M14 0 19) (v15 + z0)
        (some (1, M14))
        (some (0, M14))))
    (some (0, M))
def fR_isBad_119 (y1 y3 : Int) (M : Mm) : Option (Int × Mm) :=
  meq y3 2
    (mcn (fR_rest y1 0 M) fun v20 M19 =>
    fR_isBad_157 y1 v20 M19)
    (meq y3 1
      (mcn (fR_size y1 M) fun v17 M16 =>
      mdiv v17 16 fun v18 =>
      fR_isBad_157 y1 v18 M16)
      (mcn (fR_size y1 M) fun v8 M7 =>
      mcn (fR_blocksFor v8 M7) fun v10 M9 =>
      fR_isBad_157 y1 v10 M9))
def fR_isBad_94 (y1 y2 y3 y4 : Int) (M : Mm) : Option (Int × Mm) :=
  meq y3 2
    (meq y4 0
      (some (1, M))
      (meq y2 1
        (mcn (fR_endsAreWrong y1 M) fun v22 M21 =>
        meq v22 0
          (fR_isBad_119 y1 y3 M21)
          (some (1, M21)))
        (some (1, M))))
    (fR_isBad_119 y1 y3 M)
def fR_isBad_89 (y1 y2 y3 y4 z0 z1 : Int) (M : Mm) : Option (Int × Mm) :=
  mlt z1 z0
    (some (1, M))
    (fR_isBad_94 y1 y2 y3 y4 M)
def fR_isBad_65 (y1 y2 y3 y4 : Int) (M : Mm) : Option (Int × Mm) :=
  meq y3 1
    (mcn (fR_size y1 M) fun v24 M23 =>
    mrem v24 16 fun v25 =>
    meq y4 0
      (fR_isBad_89 y1 y2 y3 y4 v25 4 M23)
      (fR_isBad_89 y1 y2 y3 y4 v25 12 M23))
    (fR_isBad_94 y1 y2 y3 y4 M)
def fR_isBad_37 (y1 y2 y3 z0 : Int) (M : Mm) : Option (Int × Mm) :=
  meq y2 3
    (some (1, M))
    (meq y3 3
      (some (1, M))
      (meq y2 0
        (mcn (fR_size y1 M) fun v27 M26 =>
        mrem v27 3 fun v28 =>
        mlt 0 v28
          (some (1, M26))
          (fR_isBad_65 y1 y2 y3 z0 M26))
        (fR_isBad_65 y1 y2 y3 z0 M)))
def fR_isBad (x1 : Int) (M : Mm) : Option (Int × Mm) :=
  mcn (fR_tag x1 1 M) fun v2 M1 =>
  mcn (fR_tag x1 3 M1) fun v4 M3 =>
  mrd M3 13 1024 (16 + (8 * x1)) fun v5 =>
  mrem v5 2 fun v6 =>
  meq v6 1
    (fR_isBad_37 x1 v2 v4 1 M3)
    (fR_isBad_37 x1 v2 v4 0 M3)
set_option maxRecDepth 10000 in
theorem wR_isBad_157 {v0 : Int} {M9 : Mm} (X : Cy p l e (rmn 3 68) s m args below meth c D aK TR mvR false a0 "PackedImageModel" cR_isBad 6 (some .boolean) (0, v0, M9)) : ∀ (y1 : Int) (z0 : Int) (M : Mm), fR_isBad_157 y1 z0 M = some (v0, M9) → Wm X 157 [some (.inr 0), some (.inl y1), none, none, none, none] [.inl z0] M := by
  intro y1 z0 M hf
  unfold fR_isBad_157 at hf
  refine x_istore dR_isBad_157 (by decide) ?_
  refine x_iload dR_isBad_159 rfl ?_
  refine x_le0 hf dR_isBad_161 rfl (fun hf => ?_) (fun hf => ?_)
  · refine x_iconst dR_isBad_201 ?_
    exact x_zret (rt_n hf) (by decide) rfl dR_isBad_202
  · refine x_aloadn dR_isBad_164 rfl ?_
    refine x_iloadn dR_isBad_165 rfl ?_
    refine x_cvni hf (kR_first X.hst) iR_first lR_171 tR_0 rfl rfl (by decide) (Nat.le_of_ble_eq_true rfl) dR_isBad_166 (fun v12 M11 hf => ?_)
    refine x_iconst dR_isBad_169 ?_
    refine x_aloadn dR_isBad_170 rfl ?_
    refine x_getI gR_143 tR_0 rfl dR_isBad_171 ?_
    refine x_iconst dR_isBad_174 ?_
    refine x_iadd dR_isBad_175 ?_
    refine x_iconst dR_isBad_176 ?_
    refine x_idiv hf dR_isBad_177 (fun v13 hf => ?_)
    refine x_iadd dR_isBad_178 ?_
    refine x_lt hf dR_isBad_179 rfl (fun hf => ?_) (fun hf => ?_)
    · refine x_iconst dR_isBad_197 ?_
      refine x_goto (tgt := 202) dR_isBad_198 rfl ?_
      exact x_zret (rt_n hf) (by decide) rfl dR_isBad_202
    · refine x_aloadn dR_isBad_182 rfl ?_
      refine x_iloadn dR_isBad_183 rfl ?_
      refine x_cvni hf (kR_first X.hst) iR_first lR_171 tR_0 rfl rfl (by decide) (Nat.le_of_ble_eq_true rfl) dR_isBad_184 (fun v15 M14 hf => ?_)
      refine x_iload dR_isBad_187 rfl ?_
      refine x_iadd dR_isBad_189 ?_
      refine x_aloadn dR_isBad_190 rfl ?_
      refine x_getI gR_146 tR_0 rfl dR_isBad_191 ?_
      refine x_le hf dR_isBad_194 rfl (fun hf => ?_) (fun hf => ?_)
      · refine x_iconst dR_isBad_201 ?_
        exact x_zret (rt_n hf) (by decide) rfl dR_isBad_202
      · refine x_iconst dR_isBad_197 ?_
        refine x_goto (tgt := 202) dR_isBad_198 rfl ?_
        exact x_zret (rt_n hf) (by decide) rfl dR_isBad_202
set_option maxRecDepth 10000 in
theorem wR_isBad_119 {v0 : Int} {M9 : Mm} (X : Cy p l e (rmn 3 68) s m args below meth c D aK TR mvR false a0 "PackedImageModel" cR_isBad 6 (some .boolean) (0, v0, M9)) : ∀ (y1 : Int) (y3 : Int) (M : Mm), fR_isBad_119 y1 y3 M = some (v0, M9) → Wm X 119 [some (.inr 0), some (.inl y1), none, some (.inl y3), none, none] [] M := by
  intro y1 y3 M hf
  unfold fR_isBad_119 at hf
  refine x_iloadn dR_isBad_119 rfl ?_
  refine x_iconst dR_isBad_120 ?_
  refine x_ne hf dR_isBad_121 rfl (fun hf => ?_) (fun hf => ?_)
  · refine x_iloadn dR_isBad_133 rfl ?_
    refine x_iconst dR_isBad_134 ?_
    refine x_ne hf dR_isBad_135 rfl (fun hf => ?_) (fun hf => ?_)
    · refine x_aloadn dR_isBad_149 rfl ?_
      refine x_iloadn dR_isBad_150 rfl ?_
      refine x_cvni hf (kR_size X.hst) iR_size lR_162 tR_0 rfl rfl (by decide) (Nat.le_of_ble_eq_true rfl) dR_isBad_151 (fun v8 M7 hf => ?_)
      refine x_csni hf (kR_blocksFor X.hst) iR_blocksFor lR_107 rfl (by decide) (Nat.le_of_ble_eq_true rfl) dR_isBad_154 (fun v10 M9 hf => ?_)
      exact x_mask [true, true, false, false, false, false] (wR_isBad_157 X _ _ _ hf)
    · refine x_aloadn dR_isBad_138 rfl ?_
      refine x_iloadn dR_isBad_139 rfl ?_
      refine x_cvni hf (kR_size X.hst) iR_size lR_162 tR_0 rfl rfl (by decide) (Nat.le_of_ble_eq_true rfl) dR_isBad_140 (fun v17 M16 hf => ?_)
      refine x_bipush dR_isBad_143 (by decide) ?_
      refine x_idiv hf dR_isBad_145 (fun v18 hf => ?_)
      refine x_goto (tgt := 157) dR_isBad_146 rfl ?_
      exact x_mask [true, true, false, false, false, false] (wR_isBad_157 X _ _ _ hf)
  · refine x_aloadn dR_isBad_124 rfl ?_
    refine x_iloadn dR_isBad_125 rfl ?_
    refine x_iconst dR_isBad_126 ?_
    refine x_cvni hf (kR_rest X.hst) iR_rest lR_155 tR_0 rfl rfl (by decide) (Nat.le_of_ble_eq_true rfl) dR_isBad_127 (fun v20 M19 hf => ?_)
    refine x_goto (tgt := 157) dR_isBad_130 rfl ?_
    exact x_mask [true, true, false, false, false, false] (wR_isBad_157 X _ _ _ hf)
set_option maxRecDepth 10000 in
theorem wR_isBad_94 {v0 : Int} {M9 : Mm} (X : Cy p l e (rmn 3 68) s m args below meth c D aK TR mvR false a0 "PackedImageModel" cR_isBad 6 (some .boolean) (0, v0, M9)) : ∀ (y1 : Int) (y2 : Int) (y3 : Int) (y4 : Int) (M : Mm), fR_isBad_94 y1 y2 y3 y4 M = some (v0, M9) → Wm X 94 [some (.inr 0), some (.inl y1), some (.inl y2), some (.inl y3), some (.inl y4), none] [] M := by
  intro y1 y2 y3 y4 M hf
  unfold fR_isBad_94 at hf
  refine x_iloadn dR_isBad_94 rfl ?_
  refine x_iconst dR_isBad_95 ?_
  refine x_ne hf dR_isBad_96 rfl (fun hf => ?_) (fun hf => ?_)
  · exact x_mask [true, true, false, true, false, false] (wR_isBad_119 X _ _ _ hf)
  · refine x_iload dR_isBad_99 rfl ?_
    refine x_eq0 hf dR_isBad_101 rfl (fun hf => ?_) (fun hf => ?_)
    · refine x_iconst dR_isBad_117 ?_
      exact x_zret (rt_n hf) (by decide) rfl dR_isBad_118
    · refine x_iloadn dR_isBad_104 rfl ?_
      refine x_iconst dR_isBad_105 ?_
      refine x_ne hf dR_isBad_106 rfl (fun hf => ?_) (fun hf => ?_)
      · refine x_iconst dR_isBad_117 ?_
        exact x_zret (rt_n hf) (by decide) rfl dR_isBad_118
      · refine x_aloadn dR_isBad_109 rfl ?_
        refine x_iloadn dR_isBad_110 rfl ?_
        refine x_cvni hf (kR_endsAreWrong X.hst) iR_endsAreWrong lR_168 tR_0 rfl rfl (by decide) (Nat.le_of_ble_eq_true rfl) dR_isBad_111 (fun v22 M21 hf => ?_)
        refine x_eq0 hf dR_isBad_114 rfl (fun hf => ?_) (fun hf => ?_)
        · exact x_mask [true, true, false, true, false, false] (wR_isBad_119 X _ _ _ hf)
        · refine x_iconst dR_isBad_117 ?_
          exact x_zret (rt_n hf) (by decide) rfl dR_isBad_118
set_option maxRecDepth 10000 in
theorem wR_isBad_89 {v0 : Int} {M9 : Mm} (X : Cy p l e (rmn 3 68) s m args below meth c D aK TR mvR false a0 "PackedImageModel" cR_isBad 6 (some .boolean) (0, v0, M9)) : ∀ (y1 : Int) (y2 : Int) (y3 : Int) (y4 : Int) (z0 : Int) (z1 : Int) (M : Mm), fR_isBad_89 y1 y2 y3 y4 z0 z1 M = some (v0, M9) → Wm X 89 [some (.inr 0), some (.inl y1), some (.inl y2), some (.inl y3), some (.inl y4), none] [.inl z1, .inl z0] M := by
  intro y1 y2 y3 y4 z0 z1 M hf
  unfold fR_isBad_89 at hf
  refine x_le hf dR_isBad_89 rfl (fun hf => ?_) (fun hf => ?_)
  · exact x_mask [true, true, true, true, true, false] (wR_isBad_94 X _ _ _ _ _ hf)
  · refine x_iconst dR_isBad_92 ?_
    exact x_zret (rt_n hf) (by decide) rfl dR_isBad_93
set_option maxRecDepth 10000 in
theorem wR_isBad_65 {v0 : Int} {M9 : Mm} (X : Cy p l e (rmn 3 68) s m args below meth c D aK TR mvR false a0 "PackedImageModel" cR_isBad 6 (some .boolean) (0, v0, M9)) : ∀ (y1 : Int) (y2 : Int) (y3 : Int) (y4 : Int) (M : Mm), fR_isBad_65 y1 y2 y3 y4 M = some (v0, M9) → Wm X 65 [some (.inr 0), some (.inl y1), some (.inl y2), some (.inl y3), some (.inl y4), none] [] M := by
  intro y1 y2 y3 y4 M hf
  unfold fR_isBad_65 at hf
  refine x_iloadn dR_isBad_65 rfl ?_
  refine x_iconst dR_isBad_66 ?_
  refine x_ne hf dR_isBad_67 rfl (fun hf => ?_) (fun hf => ?_)
  · exact x_mask [true, true, true, true, true, false] (wR_isBad_94 X _ _ _ _ _ hf)
  · refine x_aloadn dR_isBad_70 rfl ?_
    refine x_iloadn dR_isBad_71 rfl ?_
    refine x_cvni hf (kR_size X.hst) iR_size lR_162 tR_0 rfl rfl (by decide) (Nat.le_of_ble_eq_true rfl) dR_isBad_72 (fun v24 M23 hf => ?_)
    refine x_bipush dR_isBad_75 (by decide) ?_
    refine x_irem hf dR_isBad_77 (fun v25 hf => ?_)
    refine x_iload dR_isBad_78 rfl ?_
    refine x_eq0 hf dR_isBad_80 rfl (fun hf => ?_) (fun hf => ?_)
    · refine x_iconst dR_isBad_88 ?_
      exact x_mask [true, true, true, true, true, false] (wR_isBad_89 X _ _ _ _ _ _ _ hf)
    · refine x_bipush dR_isBad_83 (by decide) ?_
      refine x_goto (tgt := 89) dR_isBad_85 rfl ?_
      exact x_mask [true, true, true, true, true, false] (wR_isBad_89 X _ _ _ _ _ _ _ hf)
set_option maxRecDepth 10000 in
theorem wR_isBad_37 {v0 : Int} {M9 : Mm} (X : Cy p l e (rmn 3 68) s m args below meth c D aK TR mvR false a0 "PackedImageModel" cR_isBad 6 (some .boolean) (0, v0, M9)) : ∀ (y1 : Int) (y2 : Int) (y3 : Int) (z0 : Int) (M : Mm), fR_isBad_37 y1 y2 y3 z0 M = some (v0, M9) → Wm X 37 [some (.inr 0), some (.inl y1), some (.inl y2), some (.inl y3), none, none] [.inl z0] M := by
  intro y1 y2 y3 z0 M hf
  unfold fR_isBad_37 at hf
  refine x_istore dR_isBad_37 (by decide) ?_
  refine x_iloadn dR_isBad_39 rfl ?_
  refine x_iconst dR_isBad_40 ?_
  refine x_eq hf dR_isBad_41 rfl (fun hf => ?_) (fun hf => ?_)
  · refine x_iconst dR_isBad_63 ?_
    exact x_zret (rt_n hf) (by decide) rfl dR_isBad_64
  · refine x_iloadn dR_isBad_44 rfl ?_
    refine x_iconst dR_isBad_45 ?_
    refine x_eq hf dR_isBad_46 rfl (fun hf => ?_) (fun hf => ?_)
    · refine x_iconst dR_isBad_63 ?_
      exact x_zret (rt_n hf) (by decide) rfl dR_isBad_64
    · refine x_iloadn dR_isBad_49 rfl ?_
      refine x_ne0 hf dR_isBad_50 rfl (fun hf => ?_) (fun hf => ?_)
      · exact x_mask [true, true, true, true, true, false] (wR_isBad_65 X _ _ _ _ _ hf)
      · refine x_aloadn dR_isBad_53 rfl ?_
        refine x_iloadn dR_isBad_54 rfl ?_
        refine x_cvni hf (kR_size X.hst) iR_size lR_162 tR_0 rfl rfl (by decide) (Nat.le_of_ble_eq_true rfl) dR_isBad_55 (fun v27 M26 hf => ?_)
        refine x_iconst dR_isBad_58 ?_
        refine x_irem hf dR_isBad_59 (fun v28 hf => ?_)
        refine x_le0 hf dR_isBad_60 rfl (fun hf => ?_) (fun hf => ?_)
        · exact x_mask [true, true, true, true, true, false] (wR_isBad_65 X _ _ _ _ _ hf)
        · refine x_iconst dR_isBad_63 ?_
          exact x_zret (rt_n hf) (by decide) rfl dR_isBad_64
set_option maxRecDepth 10000 in
theorem wR_isBad {v0 : Int} {M9 : Mm} (X : Cy p l e (rmn 3 68) s m args below meth c D aK TR mvR false a0 "PackedImageModel" cR_isBad 6 (some .boolean) (0, v0, M9)) {x1 : Int} {M : Mm} (hf : fR_isBad x1 M = some (v0, M9)) : Wm X 0 [some (.inr 0), some (.inl x1), none, none, none, none] [] M := by
  unfold fR_isBad at hf
  refine x_aloadn dR_isBad_0 rfl ?_
  refine x_iloadn dR_isBad_1 rfl ?_
  refine x_iconst dR_isBad_2 ?_
  refine x_cvni hf (kR_tag X.hst) iR_tag lR_165 tR_0 rfl rfl (by decide) (Nat.le_of_ble_eq_true rfl) dR_isBad_3 (fun v2 M1 hf => ?_)
  refine x_istoren dR_isBad_6 (by decide) ?_
  refine x_aloadn dR_isBad_7 rfl ?_
  refine x_iloadn dR_isBad_8 rfl ?_
  refine x_iconst dR_isBad_9 ?_
  refine x_cvni hf (kR_tag X.hst) iR_tag lR_165 tR_0 rfl rfl (by decide) (Nat.le_of_ble_eq_true rfl) dR_isBad_10 (fun v4 M3 hf => ?_)
  refine x_istoren dR_isBad_13 (by decide) ?_
  refine x_aloadn dR_isBad_14 rfl ?_
  refine x_getR gR_51 tR_0 rfl dR_isBad_15 ?_
  refine x_bipush dR_isBad_18 (by decide) ?_
  refine x_bipush dR_isBad_20 (by decide) ?_
  refine x_iloadn dR_isBad_22 rfl ?_
  refine x_imul dR_isBad_23 ?_
  refine x_iadd dR_isBad_24 ?_
  refine x_iald hf tR_13 (by decide) dR_isBad_25 (fun v5 hf => ?_)
  refine x_iconst dR_isBad_26 ?_
  refine x_irem hf dR_isBad_27 (fun v6 hf => ?_)
  refine x_iconst dR_isBad_28 ?_
  refine x_ne hf dR_isBad_29 rfl (fun hf => ?_) (fun hf => ?_)
  · refine x_iconst dR_isBad_36 ?_
    exact x_mask [true, true, true, true, false, false] (wR_isBad_37 X _ _ _ _ _ hf)
  · refine x_iconst dR_isBad_32 ?_
    refine x_goto (tgt := 37) dR_isBad_33 rfl ?_
    exact x_mask [true, true, true, true, false, false] (wR_isBad_37 X _ _ _ _ _ hf)
theorem kR_isBad {l : Launch} (hl : l.stackTraces = false) {x1 : Int} {M : Mm} (v0 : Int) (M9 : Mm) (hf : fR_isBad x1 M = some (v0, M9)) : Ct l yR_isBad (rmn 3 68) TR mvR false (some .boolean) [.inr 0, .inl x1] M (0, v0, M9) := ct_of hl (by decide) iR_isBad.1 (Nat.le_of_ble_eq_true rfl) (fun X => wR_isBad X hf)
def fR_isInode (x1 : Int) (M : Mm) : Option (Int × Mm) :=
  mlt x1 0
    (some (0, M))
    (mlt x1 (M 0 18)
      (mrd M 14 256 x1 fun v1 =>
      meq v1 0
        (some (0, M))
        (some (1, M)))
      (some (0, M)))
set_option maxRecDepth 10000 in
theorem wR_isInode {v0 : Int} {M9 : Mm} (X : Cy p l e (rmn 0 0) s m args below meth c D aK TR mvR false a0 "PackedImageModel" cR_isInode 2 (some .boolean) (0, v0, M9)) {x1 : Int} {M : Mm} (hf : fR_isInode x1 M = some (v0, M9)) : Wm X 0 [some (.inr 0), some (.inl x1)] [] M := by
  unfold fR_isInode at hf
  refine x_iloadn dR_isInode_0 rfl ?_
  refine x_lt0 hf dR_isInode_1 rfl (fun hf => ?_) (fun hf => ?_)
  · refine x_iconst dR_isInode_25 ?_
    exact x_zret (rt_n hf) (by decide) rfl dR_isInode_26
  · refine x_iloadn dR_isInode_4 rfl ?_
    refine x_aloadn dR_isInode_5 rfl ?_
    refine x_getI gR_143 tR_0 rfl dR_isInode_6 ?_
    refine x_ge hf dR_isInode_9 rfl (fun hf => ?_) (fun hf => ?_)
    · refine x_iconst dR_isInode_25 ?_
      exact x_zret (rt_n hf) (by decide) rfl dR_isInode_26
    · refine x_aloadn dR_isInode_12 rfl ?_
      refine x_getR gR_54 tR_0 rfl dR_isInode_13 ?_
      refine x_iloadn dR_isInode_16 rfl ?_
      refine x_zald hf tR_14 (by decide) dR_isInode_17 (fun v1 hf => ?_)
      refine x_eq0 hf dR_isInode_18 rfl (fun hf => ?_) (fun hf => ?_)
      · refine x_iconst dR_isInode_25 ?_
        exact x_zret (rt_n hf) (by decide) rfl dR_isInode_26
      · refine x_iconst dR_isInode_21 ?_
        refine x_goto (tgt := 26) dR_isInode_22 rfl ?_
        exact x_zret (rt_n hf) (by decide) rfl dR_isInode_26
theorem kR_isInode {l : Launch} (hl : l.stackTraces = false) {x1 : Int} {M : Mm} (v0 : Int) (M9 : Mm) (hf : fR_isInode x1 M = some (v0, M9)) : Ct l yR_isInode (rmn 0 0) TR mvR false (some .boolean) [.inr 0, .inl x1] M (0, v0, M9) := ct_of hl (by decide) iR_isInode.1 (Nat.le_of_ble_eq_true rfl) (fun X => wR_isInode X hf)
end WK
