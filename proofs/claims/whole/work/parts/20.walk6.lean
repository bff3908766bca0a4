section WK
variable {p : Program} {l : Launch} {e : Env} {s : State} {m : MethodId} {args : Array Value} {below : List Frame} {meth : Method} {c : Code} {D : va_G} {aK : Nat → ClassId} {a0 : Nat → Nat}
def fR_append_87 (y1 y2 z1 : Int) (M : Mm) : Option (Int × Mm) :=
  mput M 0 0 z1 fun M6 =>
  mlt 0 (M6 0 0)
    (some (0, M6))
    (mrd M6 4 16 y1 fun v7 =>
    mwr M6 3 960 ((60 * y1) + v7) y2 fun M8 =>
    mrd M8 4 16 y1 fun v9 =>
    mwr M8 4 16 y1 (v9 + 1) fun M10 =>
    mrd M10 4 16 y1 fun v11 =>
    some (v11, M10))
def fR_append_79 (y1 y2 z1 z2 : Int) (M : Mm) : Option (Int × Mm) :=
  meq z1 z2
    (fR_append_87 y1 y2 2 M)
    (fR_append_87 y1 y2 0 M)
def fR_append_63 (y1 y2 y3 : Int) (M : Mm) : Option (Int × Mm) :=
  mrd M 4 16 y1 fun v5 =>
  meq y3 0
    (fR_append_79 y1 y2 v5 4 M)
    (fR_append_79 y1 y2 v5 60 M)
def fR_append_47 (y1 y2 y3 z0 : Int) (M : Mm) : Option (Int × Mm) :=
  meq y3 0
    (meq z0 0
      (fR_append_87 y1 y2 1 M)
      (fR_append_63 y1 y2 y3 M))
    (fR_append_63 y1 y2 y3 M)
def fR_append_46 (y1 y2 y3 : Int) (M : Mm) : Option (Int × Mm) :=
  fR_append_47 y1 y2 y3 0 M
def fR_append_25 (y1 y2 z0 : Int) (M : Mm) : Option (Int × Mm) :=
  mcn (fR_isNode y1 2 M) fun v4 M3 =>
  meq v4 0
    (fR_append_46 y1 y2 z0 M3)
    (mcn (fR_isLetter y2 M3) fun v13 M12 =>
    meq v13 0
      (fR_append_46 y1 y2 z0 M12)
      (fR_append_47 y1 y2 z0 1 M12))
def fR_append_24 (y1 y2 : Int) (M : Mm) : Option (Int × Mm) :=
  fR_append_25 y1 y2 0 M
def fR_append (x1 : Int) (x2 : Int) (M : Mm) : Option (Int × Mm) :=
  mcn (fR_isNode x1 1 M) fun v2 M1 =>
  meq v2 0
    (fR_append_24 x1 x2 M1)
    (mlt x2 0
      (fR_append_24 x1 x2 M1)
      (mlt x2 256
        (fR_append_25 x1 x2 1 M1)
        (fR_append_24 x1 x2 M1)))
set_option maxRecDepth 10000 in
theorem wR_append_87 {v0 : Int} {M9 : Mm} (X : Cy p l e (rmn 1 22) s m args below meth c D aK TR mvR false a0 "PackedImageModel" cR_append 5 (some .int) (0, v0, M9)) : ∀ (y1 : Int) (y2 : Int) (z1 : Int) (M : Mm), fR_append_87 y1 y2 z1 M = some (v0, M9) → Wm X 87 [some (.inr 0), some (.inl y1), some (.inl y2), none, none] [.inl z1, .inr 0] M := by
  intro y1 y2 z1 M hf
  unfold fR_append_87 at hf
  refine x_put hf gR_69 pR_0 tR_0 rfl dR_append_87 (fun M6 hf => ?_)
  refine x_aloadn dR_append_90 rfl ?_
  refine x_getI gR_69 tR_0 rfl dR_append_91 ?_
  refine x_le0 hf dR_append_94 rfl (fun hf => ?_) (fun hf => ?_)
  · refine x_aloadn dR_append_99 rfl ?_
    refine x_getR gR_20 tR_0 rfl dR_append_100 ?_
    refine x_bipush dR_append_103 (by decide) ?_
    refine x_iloadn dR_append_105 rfl ?_
    refine x_imul dR_append_106 ?_
    refine x_aloadn dR_append_107 rfl ?_
    refine x_getR gR_23 tR_0 rfl dR_append_108 ?_
    refine x_iloadn dR_append_111 rfl ?_
    refine x_iald hf tR_4 (by decide) dR_append_112 (fun v7 hf => ?_)
    refine x_iadd dR_append_113 ?_
    refine x_iloadn dR_append_114 rfl ?_
    refine x_iast hf tR_3 (by decide) dR_append_115 (fun M8 hf => ?_)
    refine x_aloadn dR_append_116 rfl ?_
    refine x_getR gR_23 tR_0 rfl dR_append_117 ?_
    refine x_iloadn dR_append_120 rfl ?_
    refine x_dup2 dR_append_121 ?_
    refine x_iald hf tR_4 (by decide) dR_append_122 (fun v9 hf => ?_)
    refine x_iconst dR_append_123 ?_
    refine x_iadd dR_append_124 ?_
    refine x_iast hf tR_4 (by decide) dR_append_125 (fun M10 hf => ?_)
    refine x_aloadn dR_append_126 rfl ?_
    refine x_getR gR_23 tR_0 rfl dR_append_127 ?_
    refine x_iloadn dR_append_130 rfl ?_
    refine x_iald hf tR_4 (by decide) dR_append_131 (fun v11 hf => ?_)
    exact x_iret (rt_n hf) rfl dR_append_132
  · refine x_iconst dR_append_97 ?_
    exact x_iret (rt_n hf) rfl dR_append_98
set_option maxRecDepth 10000 in
theorem wR_append_79 {v0 : Int} {M9 : Mm} (X : Cy p l e (rmn 1 22) s m args below meth c D aK TR mvR false a0 "PackedImageModel" cR_append 5 (some .int) (0, v0, M9)) : ∀ (y1 : Int) (y2 : Int) (z1 : Int) (z2 : Int) (M : Mm), fR_append_79 y1 y2 z1 z2 M = some (v0, M9) → Wm X 79 [some (.inr 0), some (.inl y1), some (.inl y2), none, none] [.inl z2, .inl z1, .inr 0] M := by
  intro y1 y2 z1 z2 M hf
  unfold fR_append_79 at hf
  refine x_ne hf dR_append_79 rfl (fun hf => ?_) (fun hf => ?_)
  · refine x_iconst dR_append_86 ?_
    exact x_mask [true, true, true, false, false] (wR_append_87 X _ _ _ _ hf)
  · refine x_iconst dR_append_82 ?_
    refine x_goto (tgt := 87) dR_append_83 rfl ?_
    exact x_mask [true, true, true, false, false] (wR_append_87 X _ _ _ _ hf)
set_option maxRecDepth 10000 in
theorem wR_append_63 {v0 : Int} {M9 : Mm} (X : Cy p l e (rmn 1 22) s m args below meth c D aK TR mvR false a0 "PackedImageModel" cR_append 5 (some .int) (0, v0, M9)) : ∀ (y1 : Int) (y2 : Int) (y3 : Int) (M : Mm), fR_append_63 y1 y2 y3 M = some (v0, M9) → Wm X 63 [some (.inr 0), some (.inl y1), some (.inl y2), some (.inl y3), none] [.inr 0] M := by
  intro y1 y2 y3 M hf
  unfold fR_append_63 at hf
  refine x_aloadn dR_append_63 rfl ?_
  refine x_getR gR_23 tR_0 rfl dR_append_64 ?_
  refine x_iloadn dR_append_67 rfl ?_
  refine x_iald hf tR_4 (by decide) dR_append_68 (fun v5 hf => ?_)
  refine x_iloadn dR_append_69 rfl ?_
  refine x_eq0 hf dR_append_70 rfl (fun hf => ?_) (fun hf => ?_)
  · refine x_iconst dR_append_78 ?_
    exact x_mask [true, true, true, false, false] (wR_append_79 X _ _ _ _ _ hf)
  · refine x_bipush dR_append_73 (by decide) ?_
    refine x_goto (tgt := 79) dR_append_75 rfl ?_
    exact x_mask [true, true, true, false, false] (wR_append_79 X _ _ _ _ _ hf)
set_option maxRecDepth 10000 in
theorem wR_append_47 {v0 : Int} {M9 : Mm} (X : Cy p l e (rmn 1 22) s m args below meth c D aK TR mvR false a0 "PackedImageModel" cR_append 5 (some .int) (0, v0, M9)) : ∀ (y1 : Int) (y2 : Int) (y3 : Int) (z0 : Int) (M : Mm), fR_append_47 y1 y2 y3 z0 M = some (v0, M9) → Wm X 47 [some (.inr 0), some (.inl y1), some (.inl y2), some (.inl y3), none] [.inl z0] M := by
  intro y1 y2 y3 z0 M hf
  unfold fR_append_47 at hf
  refine x_istore dR_append_47 (by decide) ?_
  refine x_aloadn dR_append_49 rfl ?_
  refine x_iloadn dR_append_50 rfl ?_
  refine x_ne0 hf dR_append_51 rfl (fun hf => ?_) (fun hf => ?_)
  · exact x_mask [true, true, true, true, false] (wR_append_63 X _ _ _ _ hf)
  · refine x_iload dR_append_54 rfl ?_
    refine x_ne0 hf dR_append_56 rfl (fun hf => ?_) (fun hf => ?_)
    · exact x_mask [true, true, true, true, false] (wR_append_63 X _ _ _ _ hf)
    · refine x_iconst dR_append_59 ?_
      refine x_goto (tgt := 87) dR_append_60 rfl ?_
      exact x_mask [true, true, true, false, false] (wR_append_87 X _ _ _ _ hf)
set_option maxRecDepth 10000 in
theorem wR_append_46 {v0 : Int} {M9 : Mm} (X : Cy p l e (rmn 1 22) s m args below meth c D aK TR mvR false a0 "PackedImageModel" cR_append 5 (some .int) (0, v0, M9)) : ∀ (y1 : Int) (y2 : Int) (y3 : Int) (M : Mm), fR_append_46 y1 y2 y3 M = some (v0, M9) → Wm X 46 [some (.inr 0), some (.inl y1), some (.inl y2), some (.inl y3), none] [] M := by
  intro y1 y2 y3 M hf
  unfold fR_append_46 at hf
  refine x_iconst dR_append_46 ?_
  exact x_mask [true, true, true, true, false] (wR_append_47 X _ _ _ _ _ hf)
set_option maxRecDepth 10000 in
theorem wR_append_25 {v0 : Int} {M9 : Mm} (X : Cy p l e (rmn 1 22) s m args below meth c D aK TR mvR false a0 "PackedImageModel" cR_append 5 (some .int) (0, v0, M9)) : ∀ (y1 : Int) (y2 : Int) (z0 : Int) (M : Mm), fR_append_25 y1 y2 z0 M = some (v0, M9) → Wm X 25 [some (.inr 0), some (.inl y1), some (.inl y2), none, none] [.inl z0] M := by
  intro y1 y2 z0 M hf
  unfold fR_append_25 at hf
  refine x_istoren dR_append_25 (by decide) ?_
  refine x_aloadn dR_append_26 rfl ?_
  refine x_iloadn dR_append_27 rfl ?_
  refine x_iconst dR_append_28 ?_
  refine x_cvni hf (kR_isNode X.hst) iR_isNode lR_72 tR_0 rfl rfl (by decide) (Nat.le_of_ble_eq_true rfl) dR_append_29 (fun v4 M3 hf => ?_)
  refine x_eq0 hf dR_append_32 rfl (fun hf => ?_) (fun hf => ?_)
  · exact x_mask [true, true, true, true, false] (wR_append_46 X _ _ _ _ hf)
  · refine x_iloadn dR_append_35 rfl ?_
    refine x_csni hf (kR_isLetter X.hst) iR_isLetter lR_76 rfl (by decide) (Nat.le_of_ble_eq_true rfl) dR_append_36 (fun v13 M12 hf => ?_)
    refine x_eq0 hf dR_append_39 rfl (fun hf => ?_) (fun hf => ?_)
    · exact x_mask [true, true, true, true, false] (wR_append_46 X _ _ _ _ hf)
    · refine x_iconst dR_append_42 ?_
      refine x_goto (tgt := 47) dR_append_43 rfl ?_
      exact x_mask [true, true, true, true, false] (wR_append_47 X _ _ _ _ _ hf)
set_option maxRecDepth 10000 in
theorem wR_append_24 {v0 : Int} {M9 : Mm} (X : Cy p l e (rmn 1 22) s m args below meth c D aK TR mvR false a0 "PackedImageModel" cR_append 5 (some .int) (0, v0, M9)) : ∀ (y1 : Int) (y2 : Int) (M : Mm), fR_append_24 y1 y2 M = some (v0, M9) → Wm X 24 [some (.inr 0), some (.inl y1), some (.inl y2), none, none] [] M := by
  intro y1 y2 M hf
  unfold fR_append_24 at hf
  refine x_iconst dR_append_24 ?_
  exact x_mask [true, true, true, false, false] (wR_append_25 X _ _ _ _ hf)
set_option maxRecDepth 10000 in
theorem wR_append {v0 : Int} {M9 : Mm} (X : Cy p l e (rmn 1 22) s m args below meth c D aK TR mvR false a0 "PackedImageModel" cR_append 5 (some .int) (0, v0, M9)) {x1 : Int} {x2 : Int} {M : Mm} (hf : fR_append x1 x2 M = some (v0, M9)) : Wm X 0 [some (.inr 0), some (.inl x1), some (.inl x2), none, none] [] M := by
  unfold fR_append at hf
  refine x_aloadn dR_append_0 rfl ?_
  refine x_iloadn dR_append_1 rfl ?_
  refine x_iconst dR_append_2 ?_
  refine x_cvni hf (kR_isNode X.hst) iR_isNode lR_72 tR_0 rfl rfl (by decide) (Nat.le_of_ble_eq_true rfl) dR_append_3 (fun v2 M1 hf => ?_)
  refine x_eq0 hf dR_append_6 rfl (fun hf => ?_) (fun hf => ?_)
  · exact x_mask [true, true, true, false, false] (wR_append_24 X _ _ _ hf)
  · refine x_iloadn dR_append_9 rfl ?_
    refine x_lt0 hf dR_append_10 rfl (fun hf => ?_) (fun hf => ?_)
    · exact x_mask [true, true, true, false, false] (wR_append_24 X _ _ _ hf)
    · refine x_iloadn dR_append_13 rfl ?_
      refine x_sipush dR_append_14 (by decide) ?_
      refine x_ge hf dR_append_17 rfl (fun hf => ?_) (fun hf => ?_)
      · exact x_mask [true, true, true, false, false] (wR_append_24 X _ _ _ hf)
      · refine x_iconst dR_append_20 ?_
        refine x_goto (tgt := 25) dR_append_21 rfl ?_
        exact x_mask [true, true, true, false, false] (wR_append_25 X _ _ _ _ hf)
theorem kR_append {l : Launch} (hl : l.stackTraces = false) {x1 : Int} {x2 : Int} {M : Mm} (v0 : Int) (M9 : Mm) (hf : fR_append x1 x2 M = some (v0, M9)) : Ct l yR_append (rmn 1 22) TR mvR false (some .int) [.inr 0, .inl x1, .inl x2] M (0, v0, M9) := ct_of hl (by decide) iR_append.1 (Nat.le_of_ble_eq_true rfl) (fun X => wR_append X hf)
def fR_sizeOf_20 : Nat → Int → Int → Int → Mm → Option (Int × Mm)
  | 0, _, _, _, _ => none
  | n+1, y1, y2, y3, M =>
    mlt y3 26
      (mrd M 2 416 ((26 * y1) + y3) fun v2 =>
      meq v2 (-1)
        ((fR_sizeOf_20 n) y1 (y2 + 0) (y3 + 1) M)
        ((fR_sizeOf_20 n) y1 (y2 + 1) (y3 + 1) M))
      (some ((3 * y2), M))
def fR_sizeOf (x1 : Int) (M : Mm) : Option (Int × Mm) :=
  mrd M 1 16 x1 fun v1 =>
  meq v1 0
    (fR_sizeOf_20 FU x1 0 0 M)
    (mrd M 4 16 x1 fun v3 =>
    some (v3, M))
set_option maxRecDepth 10000 in
theorem wR_sizeOf_20 {v0 : Int} {M9 : Mm} (X : Cy p l e (rmn 0 0) s m args below meth c D aK TR mvR false a0 "PackedImageModel" cR_sizeOf 4 (some .int) (0, v0, M9)) : ∀ (n : Nat) (y1 : Int) (y2 : Int) (y3 : Int) (M : Mm), fR_sizeOf_20 n y1 y2 y3 M = some (v0, M9) → Wm X 20 [some (.inr 0), some (.inl y1), some (.inl y2), some (.inl y3)] [] M := by
  intro n
  induction n with
  | zero => intro y1 y2 y3 M hf; exact nomatch (show (none : Option (Int × Mm)) = _ from hf)
  | succ n ih =>
    intro y1 y2 y3 M hf
    rw [fR_sizeOf_20] at hf
    refine x_iloadn dR_sizeOf_20 rfl ?_
    refine x_bipush dR_sizeOf_21 (by decide) ?_
    refine x_ge hf dR_sizeOf_23 rfl (fun hf => ?_) (fun hf => ?_)
    · refine x_iconst dR_sizeOf_55 ?_
      refine x_iloadn dR_sizeOf_56 rfl ?_
      refine x_imul dR_sizeOf_57 ?_
      exact x_iret (rt_n hf) rfl dR_sizeOf_58
    · refine x_iloadn dR_sizeOf_26 rfl ?_
      refine x_aloadn dR_sizeOf_27 rfl ?_
      refine x_getR gR_17 tR_0 rfl dR_sizeOf_28 ?_
      refine x_bipush dR_sizeOf_31 (by decide) ?_
      refine x_iloadn dR_sizeOf_33 rfl ?_
      refine x_imul dR_sizeOf_34 ?_
      refine x_iloadn dR_sizeOf_35 rfl ?_
      refine x_iadd dR_sizeOf_36 ?_
      refine x_iald hf tR_2 (by decide) dR_sizeOf_37 (fun v2 hf => ?_)
      refine x_iconst dR_sizeOf_38 ?_
      refine x_ne hf dR_sizeOf_39 rfl (fun hf => ?_) (fun hf => ?_)
      · refine x_iconst dR_sizeOf_46 ?_
        refine x_iadd dR_sizeOf_47 ?_
        refine x_istoren dR_sizeOf_48 (by decide) ?_
        refine x_iinc dR_sizeOf_49 rfl (by decide) ?_
        refine x_goto (tgt := 20) dR_sizeOf_52 rfl ?_
        exact x_mask [true, true, true, true] (ih _ _ _ _ hf)
      · refine x_iconst dR_sizeOf_42 ?_
        refine x_goto (tgt := 47) dR_sizeOf_43 rfl ?_
        refine x_iadd dR_sizeOf_47 ?_
        refine x_istoren dR_sizeOf_48 (by decide) ?_
        refine x_iinc dR_sizeOf_49 rfl (by decide) ?_
        refine x_goto (tgt := 20) dR_sizeOf_52 rfl ?_
        exact x_mask [true, true, true, true] (ih _ _ _ _ hf)
set_option maxRecDepth 10000 in
theorem wR_sizeOf {v0 : Int} {M9 : Mm} (X : Cy p l e (rmn 0 0) s m args below meth c D aK TR mvR false a0 "PackedImageModel" cR_sizeOf 4 (some .int) (0, v0, M9)) {x1 : Int} {M : Mm} (hf : fR_sizeOf x1 M = some (v0, M9)) : Wm X 0 [some (.inr 0), some (.inl x1), none, none] [] M := by
  unfold fR_sizeOf at hf
  refine x_aloadn dR_sizeOf_0 rfl ?_
  refine x_getR gR_13 tR_0 rfl dR_sizeOf_1 ?_
  refine x_iloadn dR_sizeOf_4 rfl ?_
  refine x_iald hf tR_1 (by decide) dR_sizeOf_5 (fun v1 hf => ?_)
  refine x_eq0 hf dR_sizeOf_6 rfl (fun hf => ?_) (fun hf => ?_)
  · refine x_iconst dR_sizeOf_16 ?_
    refine x_istoren dR_sizeOf_17 (by decide) ?_
    refine x_iconst dR_sizeOf_18 ?_
    refine x_istoren dR_sizeOf_19 (by decide) ?_
    exact x_mask [true, true, true, true] (wR_sizeOf_20 X FU _ _ _ _ hf)
  · refine x_aloadn dR_sizeOf_9 rfl ?_
    refine x_getR gR_23 tR_0 rfl dR_sizeOf_10 ?_
    refine x_iloadn dR_sizeOf_13 rfl ?_
    refine x_iald hf tR_4 (by decide) dR_sizeOf_14 (fun v3 hf => ?_)
    exact x_iret (rt_n hf) rfl dR_sizeOf_15
theorem kR_sizeOf {l : Launch} (hl : l.stackTraces = false) {x1 : Int} {M : Mm} (v0 : Int) (M9 : Mm) (hf : fR_sizeOf x1 M = some (v0, M9)) : Ct l yR_sizeOf (rmn 0 0) TR mvR false (some .int) [.inr 0, .inl x1] M (0, v0, M9) := ct_of hl (by decide) iR_sizeOf.1 (Nat.le_of_ble_eq_true rfl) (fun X => wR_sizeOf X hf)
def fR_layData_59 : Nat → Int → Int → Int → Mm → Option (Int × Mm)
  | 0, _, _, _, _ => none
  | n+1, y1, y2, y3, M =>
    mlt y3 26
      (mrd M 1 16 y1 fun v1 =>
      meq v1 0
        (mrd M 2 416 ((26 * y1) + y3) fun v2 =>
        meq v2 (-1)
          ((fR_layData_59 n) y1 y2 (y3 + 1) M)
          (mwr M 10 192 y2 (97 + y3) fun M3 =>
          mrd M3 6 16 v2 fun v4 =>
          mwr M3 10 192 (y2 + 1) v4 fun M5 =>
          mrd M5 1 16 v2 fun v6 =>
          mwr M5 10 192 (y2 + 2) v6 fun M7 =>
          (fR_layData_59 n) y1 (y2 + 3) (y3 + 1) M7))
        (some (0, M)))
      (some (0, M))
def fR_layData_2 : Nat → Int → Int → Mm → Option (Int × Mm)
  | 0, _, _, _ => none
  | n+1, y1, y2, M =>
    mlt y2 192
      (mrd M 1 16 y1 fun v8 =>
      meq v8 0
        (mwr M 10 192 y2 0 fun M9 =>
        (fR_layData_2 n) y1 (y2 + 1) M9)
        (mrd M 4 16 y1 fun v10 =>
        mlt y2 v10
          (mrd M 3 960 ((60 * y1) + y2) fun v12 =>
          mwr M 10 192 y2 v12 fun M13 =>
          (fR_layData_2 n) y1 (y2 + 1) M13)
          (mwr M 10 192 y2 0 fun M11 =>
          (fR_layData_2 n) y1 (y2 + 1) M11)))
      (fR_layData_59 FU y1 0 0 M)
def fR_layData (x1 : Int) (M : Mm) : Option (Int × Mm) :=
  fR_layData_2 FU x1 0 M
set_option maxRecDepth 10000 in
theorem wR_layData_59 {v0 : Int} {M9 : Mm} (X : Cy p l e (rmn 0 0) s m args below meth c D aK TR mvR false a0 "PackedImageModel" cR_layData 5 none (0, v0, M9)) : ∀ (n : Nat) (y1 : Int) (y2 : Int) (y3 : Int) (M : Mm), fR_layData_59 n y1 y2 y3 M = some (v0, M9) → Wm X 59 [some (.inr 0), some (.inl y1), some (.inl y2), some (.inl y3), none] [] M := by
  intro n
  induction n with
  | zero => intro y1 y2 y3 M hf; exact nomatch (show (none : Option (Int × Mm)) = _ from hf)
  | succ n ih =>
    intro y1 y2 y3 M hf
    rw [fR_layData_59] at hf
    refine x_iloadn dR_layData_59 rfl ?_
    refine x_bipush dR_layData_60 (by decide) ?_
    refine x_ge hf dR_layData_62 rfl (fun hf => ?_) (fun hf => ?_)
    · exact x_vret ⟨_, rt_n hf⟩ rfl dR_layData_145
    · refine x_aloadn dR_layData_65 rfl ?_
      refine x_getR gR_13 tR_0 rfl dR_layData_66 ?_
      refine x_iloadn dR_layData_69 rfl ?_
      refine x_iald hf tR_1 (by decide) dR_layData_70 (fun v1 hf => ?_)
      refine x_ne0 hf dR_layData_71 rfl (fun hf => ?_) (fun hf => ?_)
      · exact x_vret ⟨_, rt_n hf⟩ rfl dR_layData_145
      · refine x_aloadn dR_layData_74 rfl ?_
        refine x_getR gR_17 tR_0 rfl dR_layData_75 ?_
        refine x_bipush dR_layData_78 (by decide) ?_
        refine x_iloadn dR_layData_80 rfl ?_
        refine x_imul dR_layData_81 ?_
        refine x_iloadn dR_layData_82 rfl ?_
        refine x_iadd dR_layData_83 ?_
        refine x_iald hf tR_2 (by decide) dR_layData_84 (fun v2 hf => ?_)
        refine x_istore dR_layData_85 (by decide) ?_
        refine x_iload dR_layData_87 rfl ?_
        refine x_iconst dR_layData_89 ?_
        refine x_ne hf dR_layData_90 rfl (fun hf => ?_) (fun hf => ?_)
        · refine x_aloadn dR_layData_96 rfl ?_
          refine x_getR gR_42 tR_0 rfl dR_layData_97 ?_
          refine x_iloadn dR_layData_100 rfl ?_
          refine x_bipush dR_layData_101 (by decide) ?_
          refine x_iloadn dR_layData_103 rfl ?_
          refine x_iadd dR_layData_104 ?_
          refine x_iast hf tR_10 (by decide) dR_layData_105 (fun M3 hf => ?_)
          refine x_aloadn dR_layData_106 rfl ?_
          refine x_getR gR_42 tR_0 rfl dR_layData_107 ?_
          refine x_iloadn dR_layData_110 rfl ?_
          refine x_iconst dR_layData_111 ?_
          refine x_iadd dR_layData_112 ?_
          refine x_aloadn dR_layData_113 rfl ?_
          refine x_getR gR_29 tR_0 rfl dR_layData_114 ?_
          refine x_iload dR_layData_117 rfl ?_
          refine x_iald hf tR_6 (by decide) dR_layData_119 (fun v4 hf => ?_)
          refine x_iast hf tR_10 (by decide) dR_layData_120 (fun M5 hf => ?_)
          refine x_aloadn dR_layData_121 rfl ?_
          refine x_getR gR_42 tR_0 rfl dR_layData_122 ?_
          refine x_iloadn dR_layData_125 rfl ?_
          refine x_iconst dR_layData_126 ?_
          refine x_iadd dR_layData_127 ?_
          refine x_aloadn dR_layData_128 rfl ?_
          refine x_getR gR_13 tR_0 rfl dR_layData_129 ?_
          refine x_iload dR_layData_132 rfl ?_
          refine x_iald hf tR_1 (by decide) dR_layData_134 (fun v6 hf => ?_)
          refine x_iast hf tR_10 (by decide) dR_layData_135 (fun M7 hf => ?_)
          refine x_iinc dR_layData_136 rfl (by decide) ?_
          refine x_iinc dR_layData_139 rfl (by decide) ?_
          refine x_goto (tgt := 59) dR_layData_142 rfl ?_
          exact x_mask [true, true, true, true, false] (ih _ _ _ _ hf)
        · refine x_goto (tgt := 139) dR_layData_93 rfl ?_
          refine x_iinc dR_layData_139 rfl (by decide) ?_
          refine x_goto (tgt := 59) dR_layData_142 rfl ?_
          exact x_mask [true, true, true, true, false] (ih _ _ _ _ hf)
set_option maxRecDepth 10000 in
theorem wR_layData_2 {v0 : Int} {M9 : Mm} (X : Cy p l e (rmn 0 0) s m args below meth c D aK TR mvR false a0 "PackedImageModel" cR_layData 5 none (0, v0, M9)) : ∀ (n : Nat) (y1 : Int) (y2 : Int) (M : Mm), fR_layData_2 n y1 y2 M = some (v0, M9) → Wm X 2 [some (.inr 0), some (.inl y1), some (.inl y2), none, none] [] M := by
  intro n
  induction n with
  | zero => intro y1 y2 M hf; exact nomatch (show (none : Option (Int × Mm)) = _ from hf)
  | succ n ih =>
    intro y1 y2 M hf
    rw [fR_layData_2] at hf
    refine x_iloadn dR_layData_2 rfl ?_
    refine x_sipush dR_layData_3 (by decide) ?_
    refine x_ge hf dR_layData_6 rfl (fun hf => ?_) (fun hf => ?_)
    · refine x_iconst dR_layData_55 ?_
      refine x_istoren dR_layData_56 (by decide) ?_
      refine x_iconst dR_layData_57 ?_
      refine x_istoren dR_layData_58 (by decide) ?_
      exact x_mask [true, true, true, true, false] (wR_layData_59 X FU _ _ _ _ hf)
    · refine x_aloadn dR_layData_9 rfl ?_
      refine x_getR gR_42 tR_0 rfl dR_layData_10 ?_
      refine x_iloadn dR_layData_13 rfl ?_
      refine x_aloadn dR_layData_14 rfl ?_
      refine x_getR gR_13 tR_0 rfl dR_layData_15 ?_
      refine x_iloadn dR_layData_18 rfl ?_
      refine x_iald hf tR_1 (by decide) dR_layData_19 (fun v8 hf => ?_)
      refine x_eq0 hf dR_layData_20 rfl (fun hf => ?_) (fun hf => ?_)
      · refine x_iconst dR_layData_47 ?_
        refine x_iast hf tR_10 (by decide) dR_layData_48 (fun M9 hf => ?_)
        refine x_iinc dR_layData_49 rfl (by decide) ?_
        refine x_goto (tgt := 2) dR_layData_52 rfl ?_
        exact x_mask [true, true, true, false, false] (ih _ _ _ hf)
      · refine x_iloadn dR_layData_23 rfl ?_
        refine x_aloadn dR_layData_24 rfl ?_
        refine x_getR gR_23 tR_0 rfl dR_layData_25 ?_
        refine x_iloadn dR_layData_28 rfl ?_
        refine x_iald hf tR_4 (by decide) dR_layData_29 (fun v10 hf => ?_)
        refine x_ge hf dR_layData_30 rfl (fun hf => ?_) (fun hf => ?_)
        · refine x_iconst dR_layData_47 ?_
          refine x_iast hf tR_10 (by decide) dR_layData_48 (fun M11 hf => ?_)
          refine x_iinc dR_layData_49 rfl (by decide) ?_
          refine x_goto (tgt := 2) dR_layData_52 rfl ?_
          exact x_mask [true, true, true, false, false] (ih _ _ _ hf)
        · refine x_aloadn dR_layData_33 rfl ?_
          refine x_getR gR_20 tR_0 rfl dR_layData_34 ?_
          refine x_bipush dR_layData_37 (by decide) ?_
          refine x_iloadn dR_layData_39 rfl ?_
          refine x_imul dR_layData_40 ?_
          refine x_iloadn dR_layData_41 rfl ?_
          refine x_iadd dR_layData_42 ?_
          refine x_iald hf tR_3 (by decide) dR_layData_43 (fun v12 hf => ?_)
          refine x_goto (tgt := 48) dR_layData_44 rfl ?_
          refine x_iast hf tR_10 (by decide) dR_layData_48 (fun M13 hf => ?_)
          refine x_iinc dR_layData_49 rfl (by decide) ?_
          refine x_goto (tgt := 2) dR_layData_52 rfl ?_
          exact x_mask [true, true, true, false, false] (ih _ _ _ hf)
set_option maxRecDepth 10000 in
theorem wR_layData {v0 : Int} {M9 : Mm} (X : Cy p l e (rmn 0 0) s m args below meth c D aK TR mvR false a0 "PackedImageModel" cR_layData 5 none (0, v0, M9)) {x1 : Int} {M : Mm} (hf : fR_layData x1 M = some (v0, M9)) : Wm X 0 [some (.inr 0), some (.inl x1), none, none, none] [] M := by
  unfold fR_layData at hf
  refine x_iconst dR_layData_0 ?_
  refine x_istoren dR_layData_1 (by decide) ?_
  exact x_mask [true, true, true, false, false] (wR_layData_2 X FU _ _ _ hf)
theorem kR_layData {l : Launch} (hl : l.stackTraces = false) {x1 : Int} {M : Mm} (v0 : Int) (M9 : Mm) (hf : fR_layData x1 M = some (v0, M9)) : Ct l yR_layData (rmn 0 0) TR mvR false none [.inr 0, .inl x1] M (0, v0, M9) := ct_of hl (by decide) iR_layData.1 (Nat.le_of_ble_eq_true rfl) (fun X => wR_layData X hf)
def fR_match_94 (K6 : Int → Int → Int → Int → Int → Mm → Option (Int × Mm)) (y1 y2 y3 y4 y5 y6 z1 : Int) (M : Mm) : Option (Int × Mm) :=
  mput M 0 15 z1 fun M1 =>
  mlt y4 y6
    (K6 y1 y2 y3 y6 (y5 + 1) M1)
    (K6 y1 y2 y3 y4 (y5 + 1) M1)
def fR_match_77 (K6 : Int → Int → Int → Int → Int → Mm → Option (Int × Mm)) (y1 y2 y3 y4 y5 y6 : Int) (M : Mm) : Option (Int × Mm) :=
  mlt y4 y6
    (fR_match_94 K6 y1 y2 y3 y4 y5 y6 y5 M)
    (fR_match_94 K6 y1 y2 y3 y4 y5 y6 (M 0 15) M)
def fR_match_17 (K6 : Int → Int → Int → Int → Int → Mm → Option (Int × Mm)) : Nat → Int → Int → Int → Int → Int → Int → Mm → Option (Int × Mm)
  | 0, _, _, _, _, _, _, _ => none
  | n+1, y1, y2, y3, y4, y5, y6, M =>
    mlt y6 17
      (mrd M 4 16 y1 fun v2 =>
      mlt (y2 + y6) v2
        (mrd M 3 960 (((60 * y1) + y2) + y6) fun v3 =>
        mrd M 3 960 ((((60 * y1) + y2) + y6) - y5) fun v4 =>
        meq v3 v4
          ((fR_match_17 K6 n) y1 y2 y3 y4 y5 (y6 + 1) M)
          (fR_match_77 K6 y1 y2 y3 y4 y5 y6 M))
        (fR_match_77 K6 y1 y2 y3 y4 y5 y6 M))
      (fR_match_77 K6 y1 y2 y3 y4 y5 y6 M)
def fR_match_6 : Nat → Int → Int → Int → Int → Int → Mm → Option (Int × Mm)
  | 0, _, _, _, _, _, _ => none
  | n+1, y1, y2, y3, y4, y5, M =>
    mlt (y2 - y3) y5
      (mlt 2 y4
        (some (y4, M))
        (some (0, M)))
      (fR_match_17 (fR_match_6 n) FU y1 y2 y3 y4 y5 0 M)
def fR_match (x1 : Int) (x2 : Int) (x3 : Int) (M : Mm) : Option (Int × Mm) :=
  fR_match_6 FU x1 x2 x3 2 1 M
set_option maxRecDepth 10000 in
theorem wR_match_94 {v0 : Int} {M9 : Mm} (X : Cy p l e (rmn 0 0) s m args below meth c D aK TR mvR false a0 "PackedImageModel" cR_match 7 (some .int) (0, v0, M9)) {K6 : Int → Int → Int → Int → Int → Mm → Option (Int × Mm)} (hK6 : ∀ (y1 : Int) (y2 : Int) (y3 : Int) (y4 : Int) (y5 : Int) (M : Mm), K6 y1 y2 y3 y4 y5 M = some (v0, M9) → Wm X 6 [some (.inr 0), some (.inl y1), some (.inl y2), some (.inl y3), some (.inl y4), some (.inl y5), none] [] M) : ∀ (y1 : Int) (y2 : Int) (y3 : Int) (y4 : Int) (y5 : Int) (y6 : Int) (z1 : Int) (M : Mm), fR_match_94 K6 y1 y2 y3 y4 y5 y6 z1 M = some (v0, M9) → Wm X 94 [some (.inr 0), some (.inl y1), some (.inl y2), some (.inl y3), some (.inl y4), some (.inl y5), some (.inl y6)] [.inl z1, .inr 0] M := by
  intro y1 y2 y3 y4 y5 y6 z1 M hf
  unfold fR_match_94 at hf
  refine x_put hf gR_83 pR_15 tR_0 rfl dR_match_94 (fun M1 hf => ?_)
  refine x_iload dR_match_97 rfl ?_
  refine x_iload dR_match_99 rfl ?_
  refine x_le hf dR_match_101 rfl (fun hf => ?_) (fun hf => ?_)
  · refine x_iload dR_match_109 rfl ?_
    refine x_istore dR_match_111 (by decide) ?_
    refine x_iinc dR_match_113 rfl (by decide) ?_
    refine x_goto (tgt := 6) dR_match_116 rfl ?_
    exact x_mask [true, true, true, true, true, true, false] (hK6 _ _ _ _ _ _ hf)
  · refine x_iload dR_match_104 rfl ?_
    refine x_goto (tgt := 111) dR_match_106 rfl ?_
    refine x_istore dR_match_111 (by decide) ?_
    refine x_iinc dR_match_113 rfl (by decide) ?_
    refine x_goto (tgt := 6) dR_match_116 rfl ?_
    exact x_mask [true, true, true, true, true, true, false] (hK6 _ _ _ _ _ _ hf)
set_option maxRecDepth 10000 in
theorem wR_match_77 {v0 : Int} {M9 : Mm} (X : Cy p l e (rmn 0 0) s m args below meth c D aK TR mvR false a0 "PackedImageModel" cR_match 7 (some .int) (0, v0, M9)) {K6 : Int → Int → Int → Int → Int → Mm → Option (Int × Mm)} (hK6 : ∀ (y1 : Int) (y2 : Int) (y3 : Int) (y4 : Int) (y5 : Int) (M : Mm), K6 y1 y2 y3 y4 y5 M = some (v0, M9) → Wm X 6 [some (.inr 0), some (.inl y1), some (.inl y2), some (.inl y3), some (.inl y4), some (.inl y5), none] [] M) : ∀ (y1 : Int) (y2 : Int) (y3 : Int) (y4 : Int) (y5 : Int) (y6 : Int) (M : Mm), fR_match_77 K6 y1 y2 y3 y4 y5 y6 M = some (v0, M9) → Wm X 77 [some (.inr 0), some (.inl y1), some (.inl y2), some (.inl y3), some (.inl y4), some (.inl y5), some (.inl y6)] [] M := by
  intro y1 y2 y3 y4 y5 y6 M hf
  unfold fR_match_77 at hf
  refine x_aloadn dR_match_77 rfl ?_
  refine x_iload dR_match_78 rfl ?_
  refine x_iload dR_match_80 rfl ?_
  refine x_le hf dR_match_82 rfl (fun hf => ?_) (fun hf => ?_)
  · refine x_aloadn dR_match_90 rfl ?_
    refine x_getI gR_83 tR_0 rfl dR_match_91 ?_
    exact x_mask [true, true, true, true, true, true, true] (wR_match_94 X hK6 _ _ _ _ _ _ _ _ hf)
  · refine x_iload dR_match_85 rfl ?_
    refine x_goto (tgt := 94) dR_match_87 rfl ?_
    exact x_mask [true, true, true, true, true, true, true] (wR_match_94 X hK6 _ _ _ _ _ _ _ _ hf)
set_option maxRecDepth 10000 in
theorem wR_match_17 {v0 : Int} {M9 : Mm} (X : Cy p l e (rmn 0 0) s m args below meth c D aK TR mvR false a0 "PackedImageModel" cR_match 7 (some .int) (0, v0, M9)) {K6 : Int → Int → Int → Int → Int → Mm → Option (Int × Mm)} (hK6 : ∀ (y1 : Int) (y2 : Int) (y3 : Int) (y4 : Int) (y5 : Int) (M : Mm), K6 y1 y2 y3 y4 y5 M = some (v0, M9) → Wm X 6 [some (.inr 0), some (.inl y1), some (.inl y2), some (.inl y3), some (.inl y4), some (.inl y5), none] [] M) : ∀ (n : Nat) (y1 : Int) (y2 : Int) (y3 : Int) (y4 : Int) (y5 : Int) (y6 : Int) (M : Mm), fR_match_17 K6 n y1 y2 y3 y4 y5 y6 M = some (v0, M9) → Wm X 17 [some (.inr 0), some (.inl y1), some (.inl y2), some (.inl y3), some (.inl y4), some (.inl y5), some (.inl y6)] [] M := by
  intro n
  induction n with
  | zero => intro y1 y2 y3 y4 y5 y6 M hf; exact nomatch (show (none : Option (Int × Mm)) = _ from hf)
  | succ n ih =>
    intro y1 y2 y3 y4 y5 y6 M hf
    rw [fR_match_17] at hf
    refine x_iload dR_match_17 rfl ?_
    refine x_bipush dR_match_19 (by decide) ?_
    refine x_ge hf dR_match_21 rfl (fun hf => ?_) (fun hf => ?_)
    · exact x_mask [true, true, true, true, true, true, true] (wR_match_77 X hK6 _ _ _ _ _ _ _ hf)
    · refine x_iloadn dR_match_24 rfl ?_
      refine x_iload dR_match_25 rfl ?_
      refine x_iadd dR_match_27 ?_
      refine x_aloadn dR_match_28 rfl ?_
      refine x_getR gR_23 tR_0 rfl dR_match_29 ?_
      refine x_iloadn dR_match_32 rfl ?_
      refine x_iald hf tR_4 (by decide) dR_match_33 (fun v2 hf => ?_)
      refine x_ge hf dR_match_34 rfl (fun hf => ?_) (fun hf => ?_)
      · exact x_mask [true, true, true, true, true, true, true] (wR_match_77 X hK6 _ _ _ _ _ _ _ hf)
      · refine x_aloadn dR_match_37 rfl ?_
        refine x_getR gR_20 tR_0 rfl dR_match_38 ?_
        refine x_bipush dR_match_41 (by decide) ?_
        refine x_iloadn dR_match_43 rfl ?_
        refine x_imul dR_match_44 ?_
        refine x_iloadn dR_match_45 rfl ?_
        refine x_iadd dR_match_46 ?_
        refine x_iload dR_match_47 rfl ?_
        refine x_iadd dR_match_49 ?_
        refine x_iald hf tR_3 (by decide) dR_match_50 (fun v3 hf => ?_)
        refine x_aloadn dR_match_51 rfl ?_
        refine x_getR gR_20 tR_0 rfl dR_match_52 ?_
        refine x_bipush dR_match_55 (by decide) ?_
        refine x_iloadn dR_match_57 rfl ?_
        refine x_imul dR_match_58 ?_
        refine x_iloadn dR_match_59 rfl ?_
        refine x_iadd dR_match_60 ?_
        refine x_iload dR_match_61 rfl ?_
        refine x_iadd dR_match_63 ?_
        refine x_iload dR_match_64 rfl ?_
        refine x_isub dR_match_66 ?_
        refine x_iald hf tR_3 (by decide) dR_match_67 (fun v4 hf => ?_)
        refine x_ne hf dR_match_68 rfl (fun hf => ?_) (fun hf => ?_)
        · exact x_mask [true, true, true, true, true, true, true] (wR_match_77 X hK6 _ _ _ _ _ _ _ hf)
        · refine x_iinc dR_match_71 rfl (by decide) ?_
          refine x_goto (tgt := 17) dR_match_74 rfl ?_
          exact x_mask [true, true, true, true, true, true, true] (ih _ _ _ _ _ _ _ hf)
set_option maxRecDepth 10000 in
theorem wR_match_6 {v0 : Int} {M9 : Mm} (X : Cy p l e (rmn 0 0) s m args below meth c D aK TR mvR false a0 "PackedImageModel" cR_match 7 (some .int) (0, v0, M9)) : ∀ (n : Nat) (y1 : Int) (y2 : Int) (y3 : Int) (y4 : Int) (y5 : Int) (M : Mm), fR_match_6 n y1 y2 y3 y4 y5 M = some (v0, M9) → Wm X 6 [some (.inr 0), some (.inl y1), some (.inl y2), some (.inl y3), some (.inl y4), some (.inl y5), none] [] M := by
  intro n
  induction n with
  | zero => intro y1 y2 y3 y4 y5 M hf; exact nomatch (show (none : Option (Int × Mm)) = _ from hf)
  | succ n ih =>
    intro y1 y2 y3 y4 y5 M hf
    rw [fR_match_6] at hf
    refine x_iload dR_match_6 rfl ?_
    refine x_iloadn dR_match_8 rfl ?_
    refine x_iloadn dR_match_9 rfl ?_
    refine x_isub dR_match_10 ?_
    refine x_gt hf dR_match_11 rfl (fun hf => ?_) (fun hf => ?_)
    · refine x_iload dR_match_119 rfl ?_
      refine x_iconst dR_match_121 ?_
      refine x_le hf dR_match_122 rfl (fun hf => ?_) (fun hf => ?_)
      · refine x_iconst dR_match_130 ?_
        exact x_iret (rt_n hf) rfl dR_match_131
      · refine x_iload dR_match_125 rfl ?_
        refine x_goto (tgt := 131) dR_match_127 rfl ?_
        exact x_iret (rt_n hf) rfl dR_match_131
    · refine x_iconst dR_match_14 ?_
      refine x_istore dR_match_15 (by decide) ?_
      exact x_mask [true, true, true, true, true, true, true] (wR_match_17 X ih FU _ _ _ _ _ _ _ hf)
set_option maxRecDepth 10000 in
theorem wR_match {v0 : Int} {M9 : Mm} (X : Cy p l e (rmn 0 0) s m args below meth c D aK TR mvR false a0 "PackedImageModel" cR_match 7 (some .int) (0, v0, M9)) {x1 : Int} {x2 : Int} {x3 : Int} {M : Mm} (hf : fR_match x1 x2 x3 M = some (v0, M9)) : Wm X 0 [some (.inr 0), some (.inl x1), some (.inl x2), some (.inl x3), none, none, none] [] M := by
  unfold fR_match at hf
  refine x_iconst dR_match_0 ?_
  refine x_istore dR_match_1 (by decide) ?_
  refine x_iconst dR_match_3 ?_
  refine x_istore dR_match_4 (by decide) ?_
  exact x_mask [true, true, true, true, true, true, false] (wR_match_6 X FU _ _ _ _ _ _ hf)
theorem kR_match {l : Launch} (hl : l.stackTraces = false) {x1 : Int} {x2 : Int} {x3 : Int} {M : Mm} (v0 : Int) (M9 : Mm) (hf : fR_match x1 x2 x3 M = some (v0, M9)) : Ct l yR_match (rmn 0 0) TR mvR false (some .int) [.inr 0, .inl x1, .inl x2, .inl x3] M (0, v0, M9) := ct_of hl (by decide) iR_match.1 (Nat.le_of_ble_eq_true rfl) (fun X => wR_match X hf)
def fR_token_33 : Nat → Int → Int → Int → Int → Int → Int → Mm → Option (Int × Mm)
  | 0, _, _, _, _, _, _, _ => none
  | n+1, y1, y2, y3, y4, y5, y6, M =>
    mlt y6 y4
      (mrd M 3 960 (((60 * y2) + y3) + y6) fun v5 =>
      mwr M 11 192 (((y1 + (M 0 14)) + 1) + y6) v5 fun M6 =>
      (fR_token_33 n) y1 y2 y3 y4 y5 (y6 + 1) M6)
      (mput M 0 14 ((M 0 14) + (1 + y4)) fun M2 =>
      meq y5 0
        (some (0, M2))
        (mwr M2 11 192 (y1 + (M2 0 14)) (M2 0 15) fun M3 =>
        mput M3 0 14 ((M3 0 14) + 1) fun M4 =>
        some (0, M4)))
def fR_token (x1 : Int) (x2 : Int) (x3 : Int) (x4 : Int) (x5 : Int) (M : Mm) : Option (Int × Mm) :=
  mlt 0 x5
    (mwr M 11 192 (x1 + (M 0 14)) ((16 * x4) + (x5 - 2)) fun M7 =>
    fR_token_33 FU x1 x2 x3 x4 x5 0 M7)
    (mwr M 11 192 (x1 + (M 0 14)) ((16 * x4) + 0) fun M1 =>
    fR_token_33 FU x1 x2 x3 x4 x5 0 M1)
set_option maxRecDepth 10000 in
theorem wR_token_33 {v0 : Int} {M9 : Mm} (X : Cy p l e (rmn 0 0) s m args below meth c D aK TR mvR false a0 "PackedImageModel" cR_token 7 none (0, v0, M9)) : ∀ (n : Nat) (y1 : Int) (y2 : Int) (y3 : Int) (y4 : Int) (y5 : Int) (y6 : Int) (M : Mm), fR_token_33 n y1 y2 y3 y4 y5 y6 M = some (v0, M9) → Wm X 33 [some (.inr 0), some (.inl y1), some (.inl y2), some (.inl y3), some (.inl y4), some (.inl y5), some (.inl y6)] [] M := by
  intro n
  induction n with
  | zero => intro y1 y2 y3 y4 y5 y6 M hf; exact nomatch (show (none : Option (Int × Mm)) = _ from hf)
  | succ n ih =>
    intro y1 y2 y3 y4 y5 y6 M hf
    rw [fR_token_33] at hf
    refine x_iload dR_token_33 rfl ?_
    refine x_iload dR_token_35 rfl ?_
    refine x_ge hf dR_token_37 rfl (fun hf => ?_) (fun hf => ?_)
    · refine x_aloadn dR_token_76 rfl ?_
      refine x_dup dR_token_77 ?_
      refine x_getI gR_86 tR_0 rfl dR_token_78 ?_
      refine x_iconst dR_token_81 ?_
      refine x_iload dR_token_82 rfl ?_
      refine x_iadd dR_token_84 ?_
      refine x_iadd dR_token_85 ?_
      refine x_put hf gR_86 pR_14 tR_0 rfl dR_token_86 (fun M2 hf => ?_)
      refine x_iload dR_token_89 rfl ?_
      refine x_ne0 hf dR_token_91 rfl (fun hf => ?_) (fun hf => ?_)
      · refine x_aloadn dR_token_95 rfl ?_
        refine x_getR gR_45 tR_0 rfl dR_token_96 ?_
        refine x_iloadn dR_token_99 rfl ?_
        refine x_aloadn dR_token_100 rfl ?_
        refine x_getI gR_86 tR_0 rfl dR_token_101 ?_
        refine x_iadd dR_token_104 ?_
        refine x_aloadn dR_token_105 rfl ?_
        refine x_getI gR_83 tR_0 rfl dR_token_106 ?_
        refine x_iast hf tR_11 (by decide) dR_token_109 (fun M3 hf => ?_)
        refine x_aloadn dR_token_110 rfl ?_
        refine x_dup dR_token_111 ?_
        refine x_getI gR_86 tR_0 rfl dR_token_112 ?_
        refine x_iconst dR_token_115 ?_
        refine x_iadd dR_token_116 ?_
        refine x_put hf gR_86 pR_14 tR_0 rfl dR_token_117 (fun M4 hf => ?_)
        exact x_vret ⟨_, rt_n hf⟩ rfl dR_token_120
      · exact x_vret ⟨_, rt_n hf⟩ rfl dR_token_94
    · refine x_aloadn dR_token_40 rfl ?_
      refine x_getR gR_45 tR_0 rfl dR_token_41 ?_
      refine x_iloadn dR_token_44 rfl ?_
      refine x_aloadn dR_token_45 rfl ?_
      refine x_getI gR_86 tR_0 rfl dR_token_46 ?_
      refine x_iadd dR_token_49 ?_
      refine x_iconst dR_token_50 ?_
      refine x_iadd dR_token_51 ?_
      refine x_iload dR_token_52 rfl ?_
      refine x_iadd dR_token_54 ?_
      refine x_aloadn dR_token_55 rfl ?_
      refine x_getR gR_20 tR_0 rfl dR_token_56 ?_
      refine x_bipush dR_token_59 (by decide) ?_
      refine x_iloadn dR_token_61 rfl ?_
      refine x_imul dR_token_62 ?_
      refine x_iloadn dR_token_63 rfl ?_
      refine x_iadd dR_token_64 ?_
      refine x_iload dR_token_65 rfl ?_
      refine x_iadd dR_token_67 ?_
      refine x_iald hf tR_3 (by decide) dR_token_68 (fun v5 hf => ?_)
      refine x_iast hf tR_11 (by decide) dR_token_69 (fun M6 hf => ?_)
      refine x_iinc dR_token_70 rfl (by decide) ?_
      refine x_goto (tgt := 33) dR_token_73 rfl ?_
      exact x_mask [true, true, true, true, true, true, true] (ih _ _ _ _ _ _ _ hf)
set_option maxRecDepth 10000 in
theorem wR_token {v0 : Int} {M9 : Mm} (X : Cy p l e (rmn 0 0) s m args below meth c D aK TR mvR false a0 "PackedImageModel" cR_token 7 none (0, v0, M9)) {x1 : Int} {x2 : Int} {x3 : Int} {x4 : Int} {x5 : Int} {M : Mm} (hf : fR_token x1 x2 x3 x4 x5 M = some (v0, M9)) : Wm X 0 [some (.inr 0), some (.inl x1), some (.inl x2), some (.inl x3), some (.inl x4), some (.inl x5), none] [] M := by
  unfold fR_token at hf
  refine x_aloadn dR_token_0 rfl ?_
  refine x_getR gR_45 tR_0 rfl dR_token_1 ?_
  refine x_iloadn dR_token_4 rfl ?_
  refine x_aloadn dR_token_5 rfl ?_
  refine x_getI gR_86 tR_0 rfl dR_token_6 ?_
  refine x_iadd dR_token_9 ?_
  refine x_bipush dR_token_10 (by decide) ?_
  refine x_iload dR_token_12 rfl ?_
  refine x_imul dR_token_14 ?_
  refine x_iload dR_token_15 rfl ?_
  refine x_le0 hf dR_token_17 rfl (fun hf => ?_) (fun hf => ?_)
  · refine x_iconst dR_token_27 ?_
    refine x_iadd dR_token_28 ?_
    refine x_iast hf tR_11 (by decide) dR_token_29 (fun M1 hf => ?_)
    refine x_iconst dR_token_30 ?_
    refine x_istore dR_token_31 (by decide) ?_
    exact x_mask [true, true, true, true, true, true, true] (wR_token_33 X FU _ _ _ _ _ _ _ hf)
  · refine x_iload dR_token_20 rfl ?_
    refine x_iconst dR_token_22 ?_
    refine x_isub dR_token_23 ?_
    refine x_goto (tgt := 28) dR_token_24 rfl ?_
    refine x_iadd dR_token_28 ?_
    refine x_iast hf tR_11 (by decide) dR_token_29 (fun M7 hf => ?_)
    refine x_iconst dR_token_30 ?_
    refine x_istore dR_token_31 (by decide) ?_
    exact x_mask [true, true, true, true, true, true, true] (wR_token_33 X FU _ _ _ _ _ _ _ hf)
theorem kR_token {l : Launch} (hl : l.stackTraces = false) {x1 : Int} {x2 : Int} {x3 : Int} {x4 : Int} {x5 : Int} {M : Mm} (v0 : Int) (M9 : Mm) (hf : fR_token x1 x2 x3 x4 x5 M = some (v0, M9)) : Ct l yR_token (rmn 0 0) TR mvR false none [.inr 0, .inl x1, .inl x2, .inl x3, .inl x4, .inl x5] M (0, v0, M9) := ct_of hl (by decide) iR_token.1 (Nat.le_of_ble_eq_true rfl) (fun X => wR_token X hf)
end WK
