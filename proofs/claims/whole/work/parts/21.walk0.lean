section WK
variable {p : Program} {l : Launch} {e : Env} {s : State} {m : MethodId} {args : Array Value} {below : List Frame} {meth : Method} {c : Code} {D : va_G} {aK : Nat → ClassId} {a0 : Nat → Nat}
def fR_stat_38 (y1 y2 z1 : Int) (M : Mm) : Option (Int × Mm) :=
  mput M 0 0 z1 fun M3 =>
  mlt 0 (M3 0 0)
    (some (0, M3))
    (meq y2 0
      (mcn (fR_tag y1 1 M3) fun v14 M13 =>
      some (v14, M13))
      (meq y2 1
      (mcn (fR_tag y1 3 M3) fun v12 M11 =>
      some (v12, M11))
      (meq y2 2
      (mcn (fR_size y1 M3) fun v10 M9 =>
      some (v10, M9))
      (meq y2 3
      (mrd M3 13 1024 ((16 + (8 * y1)) + 3) fun v8 =>
      some (v8, M3))
      (meq y2 4
      (mcn (fR_first y1 M3) fun v7 M6 =>
      some (v7, M6))
      (mcn (fR_isBad y1 M3) fun v5 M4 =>
      meq v5 0
        (some (0, M4))
        (some (1, M4))))))))
def fR_stat_33 (y1 y2 : Int) (M : Mm) : Option (Int × Mm) :=
  fR_stat_38 y1 y2 3 M
def fR_stat (x1 : Int) (x2 : Int) (M : Mm) : Option (Int × Mm) :=
  meq (M 0 17) 0
    (fR_stat_38 x1 x2 1 M)
    (mcn (fR_isInode x1 M) fun v2 M1 =>
    meq v2 0
      (fR_stat_38 x1 x2 2 M1)
      (mlt x2 0
        (fR_stat_33 x1 x2 M1)
        (mlt 5 x2
          (fR_stat_33 x1 x2 M1)
          (fR_stat_38 x1 x2 0 M1))))
set_option maxRecDepth 10000 in
theorem wR_stat_38 {v0 : Int} {M9 : Mm} (X : Cy p l e (rmn 4 93) s m args below meth c D aK TR mvR false a0 "PackedImageModel" cR_stat 3 (some .int) (0, v0, M9)) : ∀ (y1 : Int) (y2 : Int) (z1 : Int) (M : Mm), fR_stat_38 y1 y2 z1 M = some (v0, M9) → Wm X 38 [some (.inr 0), some (.inl y1), some (.inl y2)] [.inl z1, .inr 0] M := by
  intro y1 y2 z1 M hf
  unfold fR_stat_38 at hf
  refine x_put hf gR_69 pR_0 tR_0 rfl dR_stat_38 (fun M3 hf => ?_)
  refine x_aloadn dR_stat_41 rfl ?_
  refine x_getI gR_69 tR_0 rfl dR_stat_42 ?_
  refine x_le0 hf dR_stat_45 rfl (fun hf => ?_) (fun hf => ?_)
  · refine x_iloadn dR_stat_50 rfl ?_
    obtain ⟨hr, -, hA, hB⟩ := meq_of hf
    clear hf
    by_cases hc : y2 = 0
    · subst hc
      have hf := hA rfl
      refine x_table (tgt := 84) ⟨by decide, by decide⟩ dR_stat_51 (fun _ _ => ⟨_, rfl, rfl⟩) (fun z => absurd z (by decide)) ?_
      refine x_aloadn dR_stat_84 rfl ?_
      refine x_iloadn dR_stat_85 rfl ?_
      refine x_iconst dR_stat_86 ?_
      refine x_cvni hf (kR_tag X.hst) iR_tag lR_165 tR_0 rfl rfl (by decide) (Nat.le_of_ble_eq_true rfl) dR_stat_87 (fun v14 M13 hf => ?_)
      exact x_iret (rt_n hf) rfl dR_stat_90
    · have n0 := hc
      have hf := hB hc
      obtain ⟨hr, -, hA, hB⟩ := meq_of hf
      clear hf
      by_cases hc : y2 = 1
      · subst hc
        have hf := hA rfl
        refine x_table (tgt := 91) ⟨by decide, by decide⟩ dR_stat_51 (fun _ _ => ⟨_, rfl, rfl⟩) (fun z => absurd z (by decide)) ?_
        refine x_aloadn dR_stat_91 rfl ?_
        refine x_iloadn dR_stat_92 rfl ?_
        refine x_iconst dR_stat_93 ?_
        refine x_cvni hf (kR_tag X.hst) iR_tag lR_165 tR_0 rfl rfl (by decide) (Nat.le_of_ble_eq_true rfl) dR_stat_94 (fun v12 M11 hf => ?_)
        exact x_iret (rt_n hf) rfl dR_stat_97
      · have n1 := hc
        have hf := hB hc
        obtain ⟨hr, -, hA, hB⟩ := meq_of hf
        clear hf
        by_cases hc : y2 = 2
        · subst hc
          have hf := hA rfl
          refine x_table (tgt := 98) ⟨by decide, by decide⟩ dR_stat_51 (fun _ _ => ⟨_, rfl, rfl⟩) (fun z => absurd z (by decide)) ?_
          refine x_aloadn dR_stat_98 rfl ?_
          refine x_iloadn dR_stat_99 rfl ?_
          refine x_cvni hf (kR_size X.hst) iR_size lR_162 tR_0 rfl rfl (by decide) (Nat.le_of_ble_eq_true rfl) dR_stat_100 (fun v10 M9 hf => ?_)
          exact x_iret (rt_n hf) rfl dR_stat_103
        · have n2 := hc
          have hf := hB hc
          obtain ⟨hr, -, hA, hB⟩ := meq_of hf
          clear hf
          by_cases hc : y2 = 3
          · subst hc
            have hf := hA rfl
            refine x_table (tgt := 104) ⟨by decide, by decide⟩ dR_stat_51 (fun _ _ => ⟨_, rfl, rfl⟩) (fun z => absurd z (by decide)) ?_
            refine x_aloadn dR_stat_104 rfl ?_
            refine x_getR gR_51 tR_0 rfl dR_stat_105 ?_
            refine x_bipush dR_stat_108 (by decide) ?_
            refine x_bipush dR_stat_110 (by decide) ?_
            refine x_iloadn dR_stat_112 rfl ?_
            refine x_imul dR_stat_113 ?_
            refine x_iadd dR_stat_114 ?_
            refine x_iconst dR_stat_115 ?_
            refine x_iadd dR_stat_116 ?_
            refine x_iald hf tR_13 (by decide) dR_stat_117 (fun v8 hf => ?_)
            exact x_iret (rt_n hf) rfl dR_stat_118
          · have n3 := hc
            have hf := hB hc
            obtain ⟨hr, -, hA, hB⟩ := meq_of hf
            clear hf
            by_cases hc : y2 = 4
            · subst hc
              have hf := hA rfl
              refine x_table (tgt := 119) ⟨by decide, by decide⟩ dR_stat_51 (fun _ _ => ⟨_, rfl, rfl⟩) (fun z => absurd z (by decide)) ?_
              refine x_aloadn dR_stat_119 rfl ?_
              refine x_iloadn dR_stat_120 rfl ?_
              refine x_cvni hf (kR_first X.hst) iR_first lR_171 tR_0 rfl rfl (by decide) (Nat.le_of_ble_eq_true rfl) dR_stat_121 (fun v7 M6 hf => ?_)
              exact x_iret (rt_n hf) rfl dR_stat_124
            · have n4 := hc
              have hf := hB hc
              refine x_table (tgt := 125) hr dR_stat_51 (fun z1 z2 => by exfalso; omega) (fun _ => rfl) ?_
              refine x_aloadn dR_stat_125 rfl ?_
              refine x_iloadn dR_stat_126 rfl ?_
              refine x_cvni hf (kR_isBad X.hst) iR_isBad lR_177 tR_0 rfl rfl (by decide) (Nat.le_of_ble_eq_true rfl) dR_stat_127 (fun v5 M4 hf => ?_)
              refine x_eq0 hf dR_stat_130 rfl (fun hf => ?_) (fun hf => ?_)
              · refine x_iconst dR_stat_137 ?_
                exact x_iret (rt_n hf) rfl dR_stat_138
              · refine x_iconst dR_stat_133 ?_
                refine x_goto (tgt := 138) dR_stat_134 rfl ?_
                exact x_iret (rt_n hf) rfl dR_stat_138
  · refine x_iconst dR_stat_48 ?_
    exact x_iret (rt_n hf) rfl dR_stat_49
set_option maxRecDepth 10000 in
theorem wR_stat_33 {v0 : Int} {M9 : Mm} (X : Cy p l e (rmn 4 93) s m args below meth c D aK TR mvR false a0 "PackedImageModel" cR_stat 3 (some .int) (0, v0, M9)) : ∀ (y1 : Int) (y2 : Int) (M : Mm), fR_stat_33 y1 y2 M = some (v0, M9) → Wm X 33 [some (.inr 0), some (.inl y1), some (.inl y2)] [.inr 0] M := by
  intro y1 y2 M hf
  unfold fR_stat_33 at hf
  refine x_iconst dR_stat_33 ?_
  refine x_goto (tgt := 38) dR_stat_34 rfl ?_
  exact x_mask [true, true, true] (wR_stat_38 X _ _ _ _ hf)
set_option maxRecDepth 10000 in
theorem wR_stat {v0 : Int} {M9 : Mm} (X : Cy p l e (rmn 4 93) s m args below meth c D aK TR mvR false a0 "PackedImageModel" cR_stat 3 (some .int) (0, v0, M9)) {x1 : Int} {x2 : Int} {M : Mm} (hf : fR_stat x1 x2 M = some (v0, M9)) : Wm X 0 [some (.inr 0), some (.inl x1), some (.inl x2)] [] M := by
  unfold fR_stat at hf
  refine x_aloadn dR_stat_0 rfl ?_
  refine x_aloadn dR_stat_1 rfl ?_
  refine x_getI gR_132 tR_0 rfl dR_stat_2 ?_
  refine x_ne0 hf dR_stat_5 rfl (fun hf => ?_) (fun hf => ?_)
  · refine x_aloadn dR_stat_12 rfl ?_
    refine x_iloadn dR_stat_13 rfl ?_
    refine x_cvni hf (kR_isInode X.hst) iR_isInode lR_174 tR_0 rfl rfl (by decide) (Nat.le_of_ble_eq_true rfl) dR_stat_14 (fun v2 M1 hf => ?_)
    refine x_ne0 hf dR_stat_17 rfl (fun hf => ?_) (fun hf => ?_)
    · refine x_iloadn dR_stat_24 rfl ?_
      refine x_lt0 hf dR_stat_25 rfl (fun hf => ?_) (fun hf => ?_)
      · exact x_mask [true, true, true] (wR_stat_33 X _ _ _ hf)
      · refine x_iloadn dR_stat_28 rfl ?_
        refine x_iconst dR_stat_29 ?_
        refine x_le hf dR_stat_30 rfl (fun hf => ?_) (fun hf => ?_)
        · refine x_iconst dR_stat_37 ?_
          exact x_mask [true, true, true] (wR_stat_38 X _ _ _ _ hf)
        · exact x_mask [true, true, true] (wR_stat_33 X _ _ _ hf)
    · refine x_iconst dR_stat_20 ?_
      refine x_goto (tgt := 38) dR_stat_21 rfl ?_
      exact x_mask [true, true, true] (wR_stat_38 X _ _ _ _ hf)
  · refine x_iconst dR_stat_8 ?_
    refine x_goto (tgt := 38) dR_stat_9 rfl ?_
    exact x_mask [true, true, true] (wR_stat_38 X _ _ _ _ hf)
theorem kR_stat {l : Launch} (hl : l.stackTraces = false) {x1 : Int} {x2 : Int} {M : Mm} (v0 : Int) (M9 : Mm) (hf : fR_stat x1 x2 M = some (v0, M9)) : Ct l yR_stat (rmn 4 93) TR mvR false (some .int) [.inr 0, .inl x1, .inl x2] M (0, v0, M9) := ct_of hl (by decide) iR_stat.1 (Nat.le_of_ble_eq_true rfl) (fun X => wR_stat X hf)
def fR_byteOf_30 (y1 y2 z0 : Int) (M : Mm) : Option (Int × Mm) :=
  meq z0 0
    (mcn (fR_first y1 M) fun v4 M3 =>
    mrd M3 13 1024 ((16 * v4) + y2) fun v5 =>
    some (v5, M3))
    (mrem y2 16 fun v6 =>
    mcn (fR_rest y1 v6 M) fun v8 M7 =>
    some (v8, M7))
def fR_byteOf_29 (y1 y2 : Int) (M : Mm) : Option (Int × Mm) :=
  fR_byteOf_30 y1 y2 0 M
def fR_byteOf (x1 : Int) (x2 : Int) (M : Mm) : Option (Int × Mm) :=
  mcn (fR_tag x1 3 M) fun v2 M1 =>
  meq v2 1
    (mcn (fR_size x1 M1) fun v10 M9 =>
    mdiv v10 16 fun v11 =>
    mlt x2 (v11 * 16)
      (fR_byteOf_29 x1 x2 M9)
      (fR_byteOf_30 x1 x2 1 M9))
    (fR_byteOf_29 x1 x2 M1)
set_option maxRecDepth 10000 in
theorem wR_byteOf_30 {v0 : Int} {M9 : Mm} (X : Cy p l e (rmn 1 22) s m args below meth c D aK TR mvR false a0 "PackedImageModel" cR_byteOf 4 (some .int) (0, v0, M9)) : ∀ (y1 : Int) (y2 : Int) (z0 : Int) (M : Mm), fR_byteOf_30 y1 y2 z0 M = some (v0, M9) → Wm X 30 [some (.inr 0), some (.inl y1), some (.inl y2), none] [.inl z0] M := by
  intro y1 y2 z0 M hf
  unfold fR_byteOf_30 at hf
  refine x_istoren dR_byteOf_30 (by decide) ?_
  refine x_iloadn dR_byteOf_31 rfl ?_
  refine x_eq0 hf dR_byteOf_32 rfl (fun hf => ?_) (fun hf => ?_)
  · refine x_aloadn dR_byteOf_47 rfl ?_
    refine x_getR gR_51 tR_0 rfl dR_byteOf_48 ?_
    refine x_bipush dR_byteOf_51 (by decide) ?_
    refine x_aloadn dR_byteOf_53 rfl ?_
    refine x_iloadn dR_byteOf_54 rfl ?_
    refine x_cvni hf (kR_first X.hst) iR_first lR_171 tR_0 rfl rfl (by decide) (Nat.le_of_ble_eq_true rfl) dR_byteOf_55 (fun v4 M3 hf => ?_)
    refine x_imul dR_byteOf_58 ?_
    refine x_iloadn dR_byteOf_59 rfl ?_
    refine x_iadd dR_byteOf_60 ?_
    refine x_iald hf tR_13 (by decide) dR_byteOf_61 (fun v5 hf => ?_)
    exact x_iret (rt_n hf) rfl dR_byteOf_62
  · refine x_aloadn dR_byteOf_35 rfl ?_
    refine x_iloadn dR_byteOf_36 rfl ?_
    refine x_iloadn dR_byteOf_37 rfl ?_
    refine x_bipush dR_byteOf_38 (by decide) ?_
    refine x_irem hf dR_byteOf_40 (fun v6 hf => ?_)
    refine x_cvni hf (kR_rest X.hst) iR_rest lR_155 tR_0 rfl rfl (by decide) (Nat.le_of_ble_eq_true rfl) dR_byteOf_41 (fun v8 M7 hf => ?_)
    refine x_goto (tgt := 62) dR_byteOf_44 rfl ?_
    exact x_iret (rt_n hf) rfl dR_byteOf_62
set_option maxRecDepth 10000 in
theorem wR_byteOf_29 {v0 : Int} {M9 : Mm} (X : Cy p l e (rmn 1 22) s m args below meth c D aK TR mvR false a0 "PackedImageModel" cR_byteOf 4 (some .int) (0, v0, M9)) : ∀ (y1 : Int) (y2 : Int) (M : Mm), fR_byteOf_29 y1 y2 M = some (v0, M9) → Wm X 29 [some (.inr 0), some (.inl y1), some (.inl y2), none] [] M := by
  intro y1 y2 M hf
  unfold fR_byteOf_29 at hf
  refine x_iconst dR_byteOf_29 ?_
  exact x_mask [true, true, true, false] (wR_byteOf_30 X _ _ _ _ hf)
set_option maxRecDepth 10000 in
theorem wR_byteOf {v0 : Int} {M9 : Mm} (X : Cy p l e (rmn 1 22) s m args below meth c D aK TR mvR false a0 "PackedImageModel" cR_byteOf 4 (some .int) (0, v0, M9)) {x1 : Int} {x2 : Int} {M : Mm} (hf : fR_byteOf x1 x2 M = some (v0, M9)) : Wm X 0 [some (.inr 0), some (.inl x1), some (.inl x2), none] [] M := by
  unfold fR_byteOf at hf
  refine x_aloadn dR_byteOf_0 rfl ?_
  refine x_iloadn dR_byteOf_1 rfl ?_
  refine x_iconst dR_byteOf_2 ?_
  refine x_cvni hf (kR_tag X.hst) iR_tag lR_165 tR_0 rfl rfl (by decide) (Nat.le_of_ble_eq_true rfl) dR_byteOf_3 (fun v2 M1 hf => ?_)
  refine x_iconst dR_byteOf_6 ?_
  refine x_ne hf dR_byteOf_7 rfl (fun hf => ?_) (fun hf => ?_)
  · exact x_mask [true, true, true, false] (wR_byteOf_29 X _ _ _ hf)
  · refine x_iloadn dR_byteOf_10 rfl ?_
    refine x_aloadn dR_byteOf_11 rfl ?_
    refine x_iloadn dR_byteOf_12 rfl ?_
    refine x_cvni hf (kR_size X.hst) iR_size lR_162 tR_0 rfl rfl (by decide) (Nat.le_of_ble_eq_true rfl) dR_byteOf_13 (fun v10 M9 hf => ?_)
    refine x_bipush dR_byteOf_16 (by decide) ?_
    refine x_idiv hf dR_byteOf_18 (fun v11 hf => ?_)
    refine x_bipush dR_byteOf_19 (by decide) ?_
    refine x_imul dR_byteOf_21 ?_
    refine x_lt hf dR_byteOf_22 rfl (fun hf => ?_) (fun hf => ?_)
    · exact x_mask [true, true, true, false] (wR_byteOf_29 X _ _ _ hf)
    · refine x_iconst dR_byteOf_25 ?_
      refine x_goto (tgt := 30) dR_byteOf_26 rfl ?_
      exact x_mask [true, true, true, false] (wR_byteOf_30 X _ _ _ _ hf)
theorem kR_byteOf {l : Launch} (hl : l.stackTraces = false) {x1 : Int} {x2 : Int} {M : Mm} (v0 : Int) (M9 : Mm) (hf : fR_byteOf x1 x2 M = some (v0, M9)) : Ct l yR_byteOf (rmn 1 22) TR mvR false (some .int) [.inr 0, .inl x1, .inl x2] M (0, v0, M9) := ct_of hl (by decide) iR_byteOf.1 (Nat.le_of_ble_eq_true rfl) (fun X => wR_byteOf X hf)
def fR_unpack_191 (K43 : Int → Int → Int → Int → Int → Int → Int → Mm → Option (Int × Mm)) : Nat → Int → Int → Int → Int → Int → Int → Int → Int → Int → Mm → Option (Int × Mm)
  | 0, _, _, _, _, _, _, _, _, _, _ => none
  | n+1, y3, y4, y5, y6, y7, y8, y9, y10, y11, M =>
    meq y9 0
      (K43 y3 y4 y5 y6 y7 0 y9 M)
      (mlt y11 (y8 + 2)
        (mlt y6 y4
          (mrd M 15 256 (y6 - y10) fun v7 =>
          mwr M 15 256 y6 v7 fun M8 =>
          (fR_unpack_191 K43 n) y3 y4 y5 (y6 + 1) y7 y8 y9 y10 (y11 + 1) M8)
          (K43 y3 y4 y5 y6 y7 0 y9 M))
        (K43 y3 y4 y5 y6 y7 0 y9 M))
def fR_unpack_164 (K43 : Int → Int → Int → Int → Int → Int → Int → Mm → Option (Int × Mm)) (y3 y4 y5 y6 y7 y8 y9 y10 : Int) (M : Mm) : Option (Int × Mm) :=
  meq y9 0
    (K43 y3 y4 y5 y6 y7 y8 y9 M)
    (mlt 0 y10
      (mlt y6 y10
        (fR_unpack_191 K43 FU y3 y4 y5 y6 y7 y8 0 y10 0 M)
        (fR_unpack_191 K43 FU y3 y4 y5 y6 y7 y8 1 y10 0 M))
      (fR_unpack_191 K43 FU y3 y4 y5 y6 y7 y8 0 y10 0 M))
def fR_unpack_136 (K43 : Int → Int → Int → Int → Int → Int → Int → Mm → Option (Int × Mm)) (y3 y4 y5 y6 y7 y8 y9 y10 : Int) (M : Mm) : Option (Int × Mm) :=
  meq y9 0
    (fR_unpack_164 K43 y3 y4 y5 y6 y7 y8 y9 y10 M)
    (mlt 0 y7
      (mwr M 15 256 y6 y10 fun M9 =>
      K43 y3 y4 y5 (y6 + 1) (y7 + (-1)) y8 y9 M9)
      (fR_unpack_164 K43 y3 y4 y5 y6 y7 y8 y9 y10 M))
def fR_unpack_87 (K43 : Int → Int → Int → Int → Int → Int → Int → Mm → Option (Int × Mm)) (y3 y4 y5 y6 y7 y8 y9 z0 : Int) (M : Mm) : Option (Int × Mm) :=
  meq y9 0
    (fR_unpack_136 K43 y3 y4 (y5 + 1) y6 y7 y8 y9 z0 M)
    (meq y7 0
      (meq y8 0
        (mdiv z0 16 fun v10 =>
        mrem z0 16 fun v11 =>
        mlt 0 z0
          (K43 y3 y4 (y5 + 1) y6 v10 v11 1 M)
          (K43 y3 y4 (y5 + 1) y6 v10 v11 0 M))
        (fR_unpack_136 K43 y3 y4 (y5 + 1) y6 y7 y8 y9 z0 M))
      (fR_unpack_136 K43 y3 y4 (y5 + 1) y6 y7 y8 y9 z0 M))
def fR_unpack_67 (K43 : Int → Int → Int → Int → Int → Int → Int → Mm → Option (Int × Mm)) (y3 y4 y5 y6 y7 y8 z0 : Int) (M : Mm) : Option (Int × Mm) :=
  meq z0 0
    (fR_unpack_87 K43 y3 y4 y5 y6 y7 y8 z0 0 M)
    (mrd M 13 1024 (y3 + y5) fun v12 =>
    fR_unpack_87 K43 y3 y4 y5 y6 y7 y8 z0 v12 M)
def fR_unpack_43 : Nat → Int → Int → Int → Int → Int → Int → Int → Mm → Option (Int × Mm)
  | 0, _, _, _, _, _, _, _, _ => none
  | n+1, y3, y4, y5, y6, y7, y8, y9, M =>
    meq y9 0
      (mz y9 (some (y9, M)))
      (mlt y6 y4
        (mlt y5 16
          (fR_unpack_67 (fR_unpack_43 n) y3 y4 y5 y6 y7 y8 1 M)
          (fR_unpack_67 (fR_unpack_43 n) y3 y4 y5 y6 y7 y8 0 M))
        (mz y9 (some (y9, M))))
def fR_unpack (x1 : Int) (x2 : Int) (M : Mm) : Option (Int × Mm) :=
  mcn (fR_first x1 M) fun v2 M1 =>
  mcn (fR_end x1 x2 M1) fun v4 M3 =>
  mcn (fR_end x1 (x2 - 1) M3) fun v6 M5 =>
  fR_unpack_43 FU (16 * (v2 + x2)) (v4 - v6) 0 0 0 0 1 M5
set_option maxRecDepth 10000 in
theorem wR_unpack_191 {v0 : Int} {M9 : Mm} (X : Cy p l e (rmn 2 44) s m args below meth c D aK TR mvR false a0 "PackedImageModel" cR_unpack 12 (some .boolean) (0, v0, M9)) {K43 : Int → Int → Int → Int → Int → Int → Int → Mm → Option (Int × Mm)} (hK43 : ∀ (y3 : Int) (y4 : Int) (y5 : Int) (y6 : Int) (y7 : Int) (y8 : Int) (y9 : Int) (M : Mm), K43 y3 y4 y5 y6 y7 y8 y9 M = some (v0, M9) → Wm X 43 [some (.inr 0), none, none, some (.inl y3), some (.inl y4), some (.inl y5), some (.inl y6), some (.inl y7), some (.inl y8), some (.inl y9), none, none] [] M) : ∀ (n : Nat) (y3 : Int) (y4 : Int) (y5 : Int) (y6 : Int) (y7 : Int) (y8 : Int) (y9 : Int) (y10 : Int) (y11 : Int) (M : Mm), fR_unpack_191 K43 n y3 y4 y5 y6 y7 y8 y9 y10 y11 M = some (v0, M9) → Wm X 191 [some (.inr 0), none, none, some (.inl y3), some (.inl y4), some (.inl y5), some (.inl y6), some (.inl y7), some (.inl y8), some (.inl y9), some (.inl y10), some (.inl y11)] [] M := by
  intro n
  induction n with
  | zero => intro y3 y4 y5 y6 y7 y8 y9 y10 y11 M hf; exact nomatch (show (none : Option (Int × Mm)) = _ from hf)
  | succ n ih =>
    intro y3 y4 y5 y6 y7 y8 y9 y10 y11 M hf
    rw [fR_unpack_191] at hf
    refine x_iload dR_unpack_191 rfl ?_
    refine x_eq0 hf dR_unpack_193 rfl (fun hf => ?_) (fun hf => ?_)
    · refine x_iconst dR_unpack_238 ?_
      refine x_istore dR_unpack_239 (by decide) ?_
      refine x_goto (tgt := 43) dR_unpack_241 rfl ?_
      exact x_mask [true, false, false, true, true, true, true, true, true, true, false, false] (hK43 _ _ _ _ _ _ _ _ hf)
    · refine x_iload dR_unpack_196 rfl ?_
      refine x_iload dR_unpack_198 rfl ?_
      refine x_iconst dR_unpack_200 ?_
      refine x_iadd dR_unpack_201 ?_
      refine x_ge hf dR_unpack_202 rfl (fun hf => ?_) (fun hf => ?_)
      · refine x_iconst dR_unpack_238 ?_
        refine x_istore dR_unpack_239 (by decide) ?_
        refine x_goto (tgt := 43) dR_unpack_241 rfl ?_
        exact x_mask [true, false, false, true, true, true, true, true, true, true, false, false] (hK43 _ _ _ _ _ _ _ _ hf)
      · refine x_iload dR_unpack_205 rfl ?_
        refine x_iload dR_unpack_207 rfl ?_
        refine x_ge hf dR_unpack_209 rfl (fun hf => ?_) (fun hf => ?_)
        · refine x_iconst dR_unpack_238 ?_
          refine x_istore dR_unpack_239 (by decide) ?_
          refine x_goto (tgt := 43) dR_unpack_241 rfl ?_
          exact x_mask [true, false, false, true, true, true, true, true, true, true, false, false] (hK43 _ _ _ _ _ _ _ _ hf)
        · refine x_aloadn dR_unpack_212 rfl ?_
          refine x_getR gR_57 tR_0 rfl dR_unpack_213 ?_
          refine x_iload dR_unpack_216 rfl ?_
          refine x_aloadn dR_unpack_218 rfl ?_
          refine x_getR gR_57 tR_0 rfl dR_unpack_219 ?_
          refine x_iload dR_unpack_222 rfl ?_
          refine x_iload dR_unpack_224 rfl ?_
          refine x_isub dR_unpack_226 ?_
          refine x_iald hf tR_15 (by decide) dR_unpack_227 (fun v7 hf => ?_)
          refine x_iast hf tR_15 (by decide) dR_unpack_228 (fun M8 hf => ?_)
          refine x_iinc dR_unpack_229 rfl (by decide) ?_
          refine x_iinc dR_unpack_232 rfl (by decide) ?_
          refine x_goto (tgt := 191) dR_unpack_235 rfl ?_
          exact x_mask [true, false, false, true, true, true, true, true, true, true, true, true] (ih _ _ _ _ _ _ _ _ _ _ hf)
set_option maxRecDepth 10000 in
theorem wR_unpack_164 {v0 : Int} {M9 : Mm} (X : Cy p l e (rmn 2 44) s m args below meth c D aK TR mvR false a0 "PackedImageModel" cR_unpack 12 (some .boolean) (0, v0, M9)) {K43 : Int → Int → Int → Int → Int → Int → Int → Mm → Option (Int × Mm)} (hK43 : ∀ (y3 : Int) (y4 : Int) (y5 : Int) (y6 : Int) (y7 : Int) (y8 : Int) (y9 : Int) (M : Mm), K43 y3 y4 y5 y6 y7 y8 y9 M = some (v0, M9) → Wm X 43 [some (.inr 0), none, none, some (.inl y3), some (.inl y4), some (.inl y5), some (.inl y6), some (.inl y7), some (.inl y8), some (.inl y9), none, none] [] M) : ∀ (y3 : Int) (y4 : Int) (y5 : Int) (y6 : Int) (y7 : Int) (y8 : Int) (y9 : Int) (y10 : Int) (M : Mm), fR_unpack_164 K43 y3 y4 y5 y6 y7 y8 y9 y10 M = some (v0, M9) → Wm X 164 [some (.inr 0), none, none, some (.inl y3), some (.inl y4), some (.inl y5), some (.inl y6), some (.inl y7), some (.inl y8), some (.inl y9), some (.inl y10), none] [] M := by
  intro y3 y4 y5 y6 y7 y8 y9 y10 M hf
  unfold fR_unpack_164 at hf
  refine x_iload dR_unpack_164 rfl ?_
  refine x_eq0 hf dR_unpack_166 rfl (fun hf => ?_) (fun hf => ?_)
  · refine x_goto (tgt := 43) dR_unpack_241 rfl ?_
    exact x_mask [true, false, false, true, true, true, true, true, true, true, false, false] (hK43 _ _ _ _ _ _ _ _ hf)
  · refine x_iload dR_unpack_169 rfl ?_
    refine x_le0 hf dR_unpack_171 rfl (fun hf => ?_) (fun hf => ?_)
    · refine x_iconst dR_unpack_185 ?_
      refine x_istore dR_unpack_186 (by decide) ?_
      refine x_iconst dR_unpack_188 ?_
      refine x_istore dR_unpack_189 (by decide) ?_
      exact x_mask [true, false, false, true, true, true, true, true, true, true, true, true] (wR_unpack_191 X hK43 FU _ _ _ _ _ _ _ _ _ _ hf)
    · refine x_iload dR_unpack_174 rfl ?_
      refine x_iload dR_unpack_176 rfl ?_
      refine x_gt hf dR_unpack_178 rfl (fun hf => ?_) (fun hf => ?_)
      · refine x_iconst dR_unpack_185 ?_
        refine x_istore dR_unpack_186 (by decide) ?_
        refine x_iconst dR_unpack_188 ?_
        refine x_istore dR_unpack_189 (by decide) ?_
        exact x_mask [true, false, false, true, true, true, true, true, true, true, true, true] (wR_unpack_191 X hK43 FU _ _ _ _ _ _ _ _ _ _ hf)
      · refine x_iconst dR_unpack_181 ?_
        refine x_goto (tgt := 186) dR_unpack_182 rfl ?_
        refine x_istore dR_unpack_186 (by decide) ?_
        refine x_iconst dR_unpack_188 ?_
        refine x_istore dR_unpack_189 (by decide) ?_
        exact x_mask [true, false, false, true, true, true, true, true, true, true, true, true] (wR_unpack_191 X hK43 FU _ _ _ _ _ _ _ _ _ _ hf)
set_option maxRecDepth 10000 in
theorem wR_unpack_136 {v0 : Int} {M9 : Mm} (X : Cy p l e (rmn 2 44) s m args below meth c D aK TR mvR false a0 "PackedImageModel" cR_unpack 12 (some .boolean) (0, v0, M9)) {K43 : Int → Int → Int → Int → Int → Int → Int → Mm → Option (Int × Mm)} (hK43 : ∀ (y3 : Int) (y4 : Int) (y5 : Int) (y6 : Int) (y7 : Int) (y8 : Int) (y9 : Int) (M : Mm), K43 y3 y4 y5 y6 y7 y8 y9 M = some (v0, M9) → Wm X 43 [some (.inr 0), none, none, some (.inl y3), some (.inl y4), some (.inl y5), some (.inl y6), some (.inl y7), some (.inl y8), some (.inl y9), none, none] [] M) : ∀ (y3 : Int) (y4 : Int) (y5 : Int) (y6 : Int) (y7 : Int) (y8 : Int) (y9 : Int) (y10 : Int) (M : Mm), fR_unpack_136 K43 y3 y4 y5 y6 y7 y8 y9 y10 M = some (v0, M9) → Wm X 136 [some (.inr 0), none, none, some (.inl y3), some (.inl y4), some (.inl y5), some (.inl y6), some (.inl y7), some (.inl y8), some (.inl y9), some (.inl y10), none] [] M := by
  intro y3 y4 y5 y6 y7 y8 y9 y10 M hf
  unfold fR_unpack_136 at hf
  refine x_iload dR_unpack_136 rfl ?_
  refine x_eq0 hf dR_unpack_138 rfl (fun hf => ?_) (fun hf => ?_)
  · exact x_mask [true, false, false, true, true, true, true, true, true, true, true, false] (wR_unpack_164 X hK43 _ _ _ _ _ _ _ _ _ hf)
  · refine x_iload dR_unpack_141 rfl ?_
    refine x_le0 hf dR_unpack_143 rfl (fun hf => ?_) (fun hf => ?_)
    · exact x_mask [true, false, false, true, true, true, true, true, true, true, true, false] (wR_unpack_164 X hK43 _ _ _ _ _ _ _ _ _ hf)
    · refine x_aloadn dR_unpack_146 rfl ?_
      refine x_getR gR_57 tR_0 rfl dR_unpack_147 ?_
      refine x_iload dR_unpack_150 rfl ?_
      refine x_iload dR_unpack_152 rfl ?_
      refine x_iast hf tR_15 (by decide) dR_unpack_154 (fun M9 hf => ?_)
      refine x_iinc dR_unpack_155 rfl (by decide) ?_
      refine x_iinc dR_unpack_158 rfl (by decide) ?_
      refine x_goto (tgt := 241) dR_unpack_161 rfl ?_
      refine x_goto (tgt := 43) dR_unpack_241 rfl ?_
      exact x_mask [true, false, false, true, true, true, true, true, true, true, false, false] (hK43 _ _ _ _ _ _ _ _ hf)
set_option maxRecDepth 10000 in
theorem wR_unpack_87 {v0 : Int} {M9 : Mm} (X : Cy p l e (rmn 2 44) s m args below meth c D aK TR mvR false a0 "PackedImageModel" cR_unpack 12 (some .boolean) (0, v0, M9)) {K43 : Int → Int → Int → Int → Int → Int → Int → Mm → Option (Int × Mm)} (hK43 : ∀ (y3 : Int) (y4 : Int) (y5 : Int) (y6 : Int) (y7 : Int) (y8 : Int) (y9 : Int) (M : Mm), K43 y3 y4 y5 y6 y7 y8 y9 M = some (v0, M9) → Wm X 43 [some (.inr 0), none, none, some (.inl y3), some (.inl y4), some (.inl y5), some (.inl y6), some (.inl y7), some (.inl y8), some (.inl y9), none, none] [] M) : ∀ (y3 : Int) (y4 : Int) (y5 : Int) (y6 : Int) (y7 : Int) (y8 : Int) (y9 : Int) (z0 : Int) (M : Mm), fR_unpack_87 K43 y3 y4 y5 y6 y7 y8 y9 z0 M = some (v0, M9) → Wm X 87 [some (.inr 0), none, none, some (.inl y3), some (.inl y4), some (.inl y5), some (.inl y6), some (.inl y7), some (.inl y8), some (.inl y9), none, none] [.inl z0] M := by
  intro y3 y4 y5 y6 y7 y8 y9 z0 M hf
  unfold fR_unpack_87 at hf
  refine x_istore dR_unpack_87 (by decide) ?_
  refine x_iinc dR_unpack_89 rfl (by decide) ?_
  refine x_iload dR_unpack_92 rfl ?_
  refine x_eq0 hf dR_unpack_94 rfl (fun hf => ?_) (fun hf => ?_)
  · exact x_mask [true, false, false, true, true, true, true, true, true, true, true, false] (wR_unpack_136 X hK43 _ _ _ _ _ _ _ _ _ hf)
  · refine x_iload dR_unpack_97 rfl ?_
    refine x_ne0 hf dR_unpack_99 rfl (fun hf => ?_) (fun hf => ?_)
    · exact x_mask [true, false, false, true, true, true, true, true, true, true, true, false] (wR_unpack_136 X hK43 _ _ _ _ _ _ _ _ _ hf)
    · refine x_iload dR_unpack_102 rfl ?_
      refine x_ne0 hf dR_unpack_104 rfl (fun hf => ?_) (fun hf => ?_)
      · exact x_mask [true, false, false, true, true, true, true, true, true, true, true, false] (wR_unpack_136 X hK43 _ _ _ _ _ _ _ _ _ hf)
      · refine x_iload dR_unpack_107 rfl ?_
        refine x_bipush dR_unpack_109 (by decide) ?_
        refine x_idiv hf dR_unpack_111 (fun v10 hf => ?_)
        refine x_istore dR_unpack_112 (by decide) ?_
        refine x_iload dR_unpack_114 rfl ?_
        refine x_bipush dR_unpack_116 (by decide) ?_
        refine x_irem hf dR_unpack_118 (fun v11 hf => ?_)
        refine x_istore dR_unpack_119 (by decide) ?_
        refine x_iload dR_unpack_121 rfl ?_
        refine x_le0 hf dR_unpack_123 rfl (fun hf => ?_) (fun hf => ?_)
        · refine x_iconst dR_unpack_130 ?_
          refine x_istore dR_unpack_131 (by decide) ?_
          refine x_goto (tgt := 241) dR_unpack_133 rfl ?_
          refine x_goto (tgt := 43) dR_unpack_241 rfl ?_
          exact x_mask [true, false, false, true, true, true, true, true, true, true, false, false] (hK43 _ _ _ _ _ _ _ _ hf)
        · refine x_iconst dR_unpack_126 ?_
          refine x_goto (tgt := 131) dR_unpack_127 rfl ?_
          refine x_istore dR_unpack_131 (by decide) ?_
          refine x_goto (tgt := 241) dR_unpack_133 rfl ?_
          refine x_goto (tgt := 43) dR_unpack_241 rfl ?_
          exact x_mask [true, false, false, true, true, true, true, true, true, true, false, false] (hK43 _ _ _ _ _ _ _ _ hf)
set_option maxRecDepth 10000 in
theorem wR_unpack_67 {v0 : Int} {M9 : Mm} (X : Cy p l e (rmn 2 44) s m args below meth c D aK TR mvR false a0 "PackedImageModel" cR_unpack 12 (some .boolean) (0, v0, M9)) {K43 : Int → Int → Int → Int → Int → Int → Int → Mm → Option (Int × Mm)} (hK43 : ∀ (y3 : Int) (y4 : Int) (y5 : Int) (y6 : Int) (y7 : Int) (y8 : Int) (y9 : Int) (M : Mm), K43 y3 y4 y5 y6 y7 y8 y9 M = some (v0, M9) → Wm X 43 [some (.inr 0), none, none, some (.inl y3), some (.inl y4), some (.inl y5), some (.inl y6), some (.inl y7), some (.inl y8), some (.inl y9), none, none] [] M) : ∀ (y3 : Int) (y4 : Int) (y5 : Int) (y6 : Int) (y7 : Int) (y8 : Int) (z0 : Int) (M : Mm), fR_unpack_67 K43 y3 y4 y5 y6 y7 y8 z0 M = some (v0, M9) → Wm X 67 [some (.inr 0), none, none, some (.inl y3), some (.inl y4), some (.inl y5), some (.inl y6), some (.inl y7), some (.inl y8), none, none, none] [.inl z0] M := by
  intro y3 y4 y5 y6 y7 y8 z0 M hf
  unfold fR_unpack_67 at hf
  refine x_istore dR_unpack_67 (by decide) ?_
  refine x_iload dR_unpack_69 rfl ?_
  refine x_eq0 hf dR_unpack_71 rfl (fun hf => ?_) (fun hf => ?_)
  · refine x_iconst dR_unpack_86 ?_
    exact x_mask [true, false, false, true, true, true, true, true, true, true, false, false] (wR_unpack_87 X hK43 _ _ _ _ _ _ _ _ _ hf)
  · refine x_aloadn dR_unpack_74 rfl ?_
    refine x_getR gR_51 tR_0 rfl dR_unpack_75 ?_
    refine x_iloadn dR_unpack_78 rfl ?_
    refine x_iload dR_unpack_79 rfl ?_
    refine x_iadd dR_unpack_81 ?_
    refine x_iald hf tR_13 (by decide) dR_unpack_82 (fun v12 hf => ?_)
    refine x_goto (tgt := 87) dR_unpack_83 rfl ?_
    exact x_mask [true, false, false, true, true, true, true, true, true, true, false, false] (wR_unpack_87 X hK43 _ _ _ _ _ _ _ _ _ hf)
set_option maxRecDepth 10000 in
theorem wR_unpack_43 {v0 : Int} {M9 : Mm} (X : Cy p l e (rmn 2 44) s m args below meth c D aK TR mvR false a0 "PackedImageModel" cR_unpack 12 (some .boolean) (0, v0, M9)) : ∀ (n : Nat) (y3 : Int) (y4 : Int) (y5 : Int) (y6 : Int) (y7 : Int) (y8 : Int) (y9 : Int) (M : Mm), fR_unpack_43 n y3 y4 y5 y6 y7 y8 y9 M = some (v0, M9) → Wm X 43 [some (.inr 0), none, none, some (.inl y3), some (.inl y4), some (.inl y5), some (.inl y6), some (.inl y7), some (.inl y8), some (.inl y9), none, none] [] M := by
  intro n
  induction n with
  | zero => intro y3 y4 y5 y6 y7 y8 y9 M hf; exact nomatch (show (none : Option (Int × Mm)) = _ from hf)
  | succ n ih =>
    intro y3 y4 y5 y6 y7 y8 y9 M hf
    rw [fR_unpack_43] at hf
    refine x_iload dR_unpack_43 rfl ?_
    refine x_eq0 hf dR_unpack_45 rfl (fun hf => ?_) (fun hf => ?_)
    · refine x_iload dR_unpack_244 rfl ?_
      obtain ⟨hz, hf⟩ := mif_of hf
      exact x_zret (rt_n hf) hz rfl dR_unpack_246
    · refine x_iload dR_unpack_48 rfl ?_
      refine x_iload dR_unpack_50 rfl ?_
      refine x_ge hf dR_unpack_52 rfl (fun hf => ?_) (fun hf => ?_)
      · refine x_iload dR_unpack_244 rfl ?_
        obtain ⟨hz, hf⟩ := mif_of hf
        exact x_zret (rt_n hf) hz rfl dR_unpack_246
      · refine x_iload dR_unpack_55 rfl ?_
        refine x_bipush dR_unpack_57 (by decide) ?_
        refine x_ge hf dR_unpack_59 rfl (fun hf => ?_) (fun hf => ?_)
        · refine x_iconst dR_unpack_66 ?_
          exact x_mask [true, false, false, true, true, true, true, true, true, false, false, false] (wR_unpack_67 X ih _ _ _ _ _ _ _ _ hf)
        · refine x_iconst dR_unpack_62 ?_
          refine x_goto (tgt := 67) dR_unpack_63 rfl ?_
          exact x_mask [true, false, false, true, true, true, true, true, true, false, false, false] (wR_unpack_67 X ih _ _ _ _ _ _ _ _ hf)
set_option maxRecDepth 10000 in
theorem wR_unpack {v0 : Int} {M9 : Mm} (X : Cy p l e (rmn 2 44) s m args below meth c D aK TR mvR false a0 "PackedImageModel" cR_unpack 12 (some .boolean) (0, v0, M9)) {x1 : Int} {x2 : Int} {M : Mm} (hf : fR_unpack x1 x2 M = some (v0, M9)) : Wm X 0 [some (.inr 0), some (.inl x1), some (.inl x2), none, none, none, none, none, none, none, none, none] [] M := by
  unfold fR_unpack at hf
  refine x_bipush dR_unpack_0 (by decide) ?_
  refine x_aloadn dR_unpack_2 rfl ?_
  refine x_iloadn dR_unpack_3 rfl ?_
  refine x_cvni hf (kR_first X.hst) iR_first lR_171 tR_0 rfl rfl (by decide) (Nat.le_of_ble_eq_true rfl) dR_unpack_4 (fun v2 M1 hf => ?_)
  refine x_iloadn dR_unpack_7 rfl ?_
  refine x_iadd dR_unpack_8 ?_
  refine x_imul dR_unpack_9 ?_
  refine x_istoren dR_unpack_10 (by decide) ?_
  refine x_aloadn dR_unpack_11 rfl ?_
  refine x_iloadn dR_unpack_12 rfl ?_
  refine x_iloadn dR_unpack_13 rfl ?_
  refine x_cvni hf (kR_end X.hst) iR_end lR_159 tR_0 rfl rfl (by decide) (Nat.le_of_ble_eq_true rfl) dR_unpack_14 (fun v4 M3 hf => ?_)
  refine x_aloadn dR_unpack_17 rfl ?_
  refine x_iloadn dR_unpack_18 rfl ?_
  refine x_iloadn dR_unpack_19 rfl ?_
  refine x_iconst dR_unpack_20 ?_
  refine x_isub dR_unpack_21 ?_
  refine x_cvni hf (kR_end X.hst) iR_end lR_159 tR_0 rfl rfl (by decide) (Nat.le_of_ble_eq_true rfl) dR_unpack_22 (fun v6 M5 hf => ?_)
  refine x_isub dR_unpack_25 ?_
  refine x_istore dR_unpack_26 (by decide) ?_
  refine x_iconst dR_unpack_28 ?_
  refine x_istore dR_unpack_29 (by decide) ?_
  refine x_iconst dR_unpack_31 ?_
  refine x_istore dR_unpack_32 (by decide) ?_
  refine x_iconst dR_unpack_34 ?_
  refine x_istore dR_unpack_35 (by decide) ?_
  refine x_iconst dR_unpack_37 ?_
  refine x_istore dR_unpack_38 (by decide) ?_
  refine x_iconst dR_unpack_40 ?_
  refine x_istore dR_unpack_41 (by decide) ?_
  exact x_mask [true, false, false, true, true, true, true, true, true, true, false, false] (wR_unpack_43 X FU _ _ _ _ _ _ _ _ hf)
theorem kR_unpack {l : Launch} (hl : l.stackTraces = false) {x1 : Int} {x2 : Int} {M : Mm} (v0 : Int) (M9 : Mm) (hf : fR_unpack x1 x2 M = some (v0, M9)) : Ct l yR_unpack (rmn 2 44) TR mvR false (some .boolean) [.inr 0, .inl x1, .inl x2] M (0, v0, M9) := ct_of hl (by decide) iR_unpack.1 (Nat.le_of_ble_eq_true rfl) (fun X => wR_unpack X hf)
def fR_keep (x1 : Int) (x2 : Int) (M : Mm) : Option (Int × Mm) :=
  mrd M 16 2 0 fun v1 =>
  mwr M 16 2 1 v1 fun M2 =>
  mrd M2 17 2 0 fun v3 =>
  mwr M2 17 2 1 v3 fun M4 =>
  mwr M4 16 2 0 x1 fun M5 =>
  mwr M5 17 2 0 x2 fun M6 =>
  some (0, M6)
set_option maxRecDepth 10000 in
theorem wR_keep {v0 : Int} {M9 : Mm} (X : Cy p l e (rmn 0 0) s m args below meth c D aK TR mvR false a0 "PackedImageModel" cR_keep 3 none (0, v0, M9)) {x1 : Int} {x2 : Int} {M : Mm} (hf : fR_keep x1 x2 M = some (v0, M9)) : Wm X 0 [some (.inr 0), some (.inl x1), some (.inl x2)] [] M := by
  unfold fR_keep at hf
  refine x_aloadn dR_keep_0 rfl ?_
  refine x_getR gR_60 tR_0 rfl dR_keep_1 ?_
  refine x_iconst dR_keep_4 ?_
  refine x_aloadn dR_keep_5 rfl ?_
  refine x_getR gR_60 tR_0 rfl dR_keep_6 ?_
  refine x_iconst dR_keep_9 ?_
  refine x_iald hf tR_16 (by decide) dR_keep_10 (fun v1 hf => ?_)
  refine x_iast hf tR_16 (by decide) dR_keep_11 (fun M2 hf => ?_)
  refine x_aloadn dR_keep_12 rfl ?_
  refine x_getR gR_63 tR_0 rfl dR_keep_13 ?_
  refine x_iconst dR_keep_16 ?_
  refine x_aloadn dR_keep_17 rfl ?_
  refine x_getR gR_63 tR_0 rfl dR_keep_18 ?_
  refine x_iconst dR_keep_21 ?_
  refine x_iald hf tR_17 (by decide) dR_keep_22 (fun v3 hf => ?_)
  refine x_iast hf tR_17 (by decide) dR_keep_23 (fun M4 hf => ?_)
  refine x_aloadn dR_keep_24 rfl ?_
  refine x_getR gR_60 tR_0 rfl dR_keep_25 ?_
  refine x_iconst dR_keep_28 ?_
  refine x_iloadn dR_keep_29 rfl ?_
  refine x_iast hf tR_16 (by decide) dR_keep_30 (fun M5 hf => ?_)
  refine x_aloadn dR_keep_31 rfl ?_
  refine x_getR gR_63 tR_0 rfl dR_keep_32 ?_
  refine x_iconst dR_keep_35 ?_
  refine x_iloadn dR_keep_36 rfl ?_
  refine x_iast hf tR_17 (by decide) dR_keep_37 (fun M6 hf => ?_)
  exact x_vret ⟨_, rt_n hf⟩ rfl dR_keep_38
theorem kR_keep {l : Launch} (hl : l.stackTraces = false) {x1 : Int} {x2 : Int} {M : Mm} (v0 : Int) (M9 : Mm) (hf : fR_keep x1 x2 M = some (v0, M9)) : Ct l yR_keep (rmn 0 0) TR mvR false none [.inr 0, .inl x1, .inl x2] M (0, v0, M9) := ct_of hl (by decide) iR_keep.1 (Nat.le_of_ble_eq_true rfl) (fun X => wR_keep X hf)
def fR_readPacked_141 (y1 y2 y3 : Int) (M : Mm) : Option (Int × Mm) :=
  mcn (fR_end y1 (y3 - 1) M) fun v9 M8 =>
  mrd M8 15 256 (y2 - v9) fun v10 =>
  some (v10, M8)
def fR_readPacked_111 (y1 y2 y3 y4 z1 z2 : Int) (M : Mm) : Option (Int × Mm) :=
  mput M 0 25 (z1 + z2) fun M5 =>
  mcn (fR_unpack y1 y3 M5) fun v7 M6 =>
  meq v7 0
    (mcn (fR_fail 1 M6) fun v13 M12 =>
    some (v13, M12))
    (meq y4 0
      (mcn (fR_keep y1 y3 M6) fun _ M11 =>
      fR_readPacked_141 y1 y2 y3 M11)
      (fR_readPacked_141 y1 y2 y3 M6))
def fR_readPacked_92 (y1 y2 y3 y4 y5 z1 z2 : Int) (M : Mm) : Option (Int × Mm) :=
  mput M 0 24 (z1 + z2) fun M4 =>
  meq y5 0
    (fR_readPacked_111 y1 y2 y3 y4 (M4 0 25) 1 M4)
    (fR_readPacked_111 y1 y2 y3 y4 (M4 0 25) 0 M4)
def fR_readPacked_75 (y1 y2 y3 y4 z0 : Int) (M : Mm) : Option (Int × Mm) :=
  meq z0 0
    (fR_readPacked_92 y1 y2 y3 y4 z0 (M 0 24) 0 M)
    (fR_readPacked_92 y1 y2 y3 y4 z0 (M 0 24) 1 M)
def fR_readPacked_70 (y1 y2 y3 y4 : Int) (M : Mm) : Option (Int × Mm) :=
  fR_readPacked_75 y1 y2 y3 y4 1 M
def fR_readPacked_74 (y1 y2 y3 y4 : Int) (M : Mm) : Option (Int × Mm) :=
  fR_readPacked_75 y1 y2 y3 y4 0 M
def fR_readPacked_43 (y1 y2 y3 z0 : Int) (M : Mm) : Option (Int × Mm) :=
  meq z0 0
    (mrd M 16 2 1 fun v14 =>
    meq v14 y1
      (mrd M 17 2 1 fun v15 =>
      meq v15 y3
        (fR_readPacked_70 y1 y2 y3 z0 M)
        (fR_readPacked_74 y1 y2 y3 z0 M))
      (fR_readPacked_74 y1 y2 y3 z0 M))
    (fR_readPacked_70 y1 y2 y3 z0 M)
def fR_readPacked_42 (y1 y2 y3 : Int) (M : Mm) : Option (Int × Mm) :=
  fR_readPacked_43 y1 y2 y3 0 M
def fR_readPacked_2 : Nat → Int → Int → Int → Mm → Option (Int × Mm)
  | 0, _, _, _, _ => none
  | n+1, y1, y2, y3, M =>
    mcn (fR_end y1 y3 M) fun v2 M1 =>
    mlt y2 v2
      (mrd M1 16 2 0 fun v3 =>
      meq v3 y1
        (mrd M1 17 2 0 fun v16 =>
        meq v16 y3
          (fR_readPacked_43 y1 y2 y3 1 M1)
          (fR_readPacked_42 y1 y2 y3 M1))
        (fR_readPacked_42 y1 y2 y3 M1))
      ((fR_readPacked_2 n) y1 y2 (y3 + 1) M1)
def fR_readPacked (x1 : Int) (x2 : Int) (M : Mm) : Option (Int × Mm) :=
  fR_readPacked_2 FU x1 x2 0 M
set_option maxRecDepth 10000 in
theorem wR_readPacked_141 {v0 : Int} {M9 : Mm} (X : Cy p l e (rmn 3 75) s m args below meth c D aK TR mvR false a0 "PackedImageModel" cR_readPacked 6 (some .int) (0, v0, M9)) : ∀ (y1 : Int) (y2 : Int) (y3 : Int) (M : Mm), fR_readPacked_141 y1 y2 y3 M = some (v0, M9) → Wm X 141 [some (.inr 0), some (.inl y1), some (.inl y2), some (.inl y3), none, none] [] M := by
  intro y1 y2 y3 M hf
  unfold fR_readPacked_141 at hf
  refine x_aloadn dR_readPacked_141 rfl ?_
  refine x_getR gR_57 tR_0 rfl dR_readPacked_142 ?_
  refine x_iloadn dR_readPacked_145 rfl ?_
  refine x_aloadn dR_readPacked_146 rfl ?_
  refine x_iloadn dR_readPacked_147 rfl ?_
  refine x_iloadn dR_readPacked_148 rfl ?_
  refine x_iconst dR_readPacked_149 ?_
  refine x_isub dR_readPacked_150 ?_
  refine x_cvni hf (kR_end X.hst) iR_end lR_159 tR_0 rfl rfl (by decide) (Nat.le_of_ble_eq_true rfl) dR_readPacked_151 (fun v9 M8 hf => ?_)
  refine x_isub dR_readPacked_154 ?_
  refine x_iald hf tR_15 (by decide) dR_readPacked_155 (fun v10 hf => ?_)
  exact x_iret (rt_n hf) rfl dR_readPacked_156
set_option maxRecDepth 10000 in
theorem wR_readPacked_111 {v0 : Int} {M9 : Mm} (X : Cy p l e (rmn 3 75) s m args below meth c D aK TR mvR false a0 "PackedImageModel" cR_readPacked 6 (some .int) (0, v0, M9)) : ∀ (y1 : Int) (y2 : Int) (y3 : Int) (y4 : Int) (z1 : Int) (z2 : Int) (M : Mm), fR_readPacked_111 y1 y2 y3 y4 z1 z2 M = some (v0, M9) → Wm X 111 [some (.inr 0), some (.inl y1), some (.inl y2), some (.inl y3), some (.inl y4), none] [.inl z2, .inl z1, .inr 0] M := by
  intro y1 y2 y3 y4 z1 z2 M hf
  unfold fR_readPacked_111 at hf
  refine x_iadd dR_readPacked_111 ?_
  refine x_put hf gR_152 pR_25 tR_0 rfl dR_readPacked_112 (fun M5 hf => ?_)
  refine x_aloadn dR_readPacked_115 rfl ?_
  refine x_iloadn dR_readPacked_116 rfl ?_
  refine x_iloadn dR_readPacked_117 rfl ?_
  refine x_cvni hf (kR_unpack X.hst) iR_unpack lR_180 tR_0 rfl rfl (by decide) (Nat.le_of_ble_eq_true rfl) dR_readPacked_118 (fun v7 M6 hf => ?_)
  refine x_ne0 hf dR_readPacked_121 rfl (fun hf => ?_) (fun hf => ?_)
  · refine x_iload dR_readPacked_130 rfl ?_
    refine x_ne0 hf dR_readPacked_132 rfl (fun hf => ?_) (fun hf => ?_)
    · exact x_mask [true, true, true, true, false, false] (wR_readPacked_141 X _ _ _ _ hf)
    · refine x_aloadn dR_readPacked_135 rfl ?_
      refine x_iloadn dR_readPacked_136 rfl ?_
      refine x_iloadn dR_readPacked_137 rfl ?_
      refine x_cvnv hf (kR_keep X.hst) iR_keep lR_183 tR_0 rfl rfl (by decide) (Nat.le_of_ble_eq_true rfl) dR_readPacked_138 (fun _ M11 hf => ?_)
      exact x_mask [true, true, true, true, false, false] (wR_readPacked_141 X _ _ _ _ hf)
  · refine x_aloadn dR_readPacked_124 rfl ?_
    refine x_iconst dR_readPacked_125 ?_
    refine x_cvni hf (kR_fail X.hst) iR_fail lR_125 tR_0 rfl rfl (by decide) (Nat.le_of_ble_eq_true rfl) dR_readPacked_126 (fun v13 M12 hf => ?_)
    exact x_iret (rt_n hf) rfl dR_readPacked_129
set_option maxRecDepth 10000 in
theorem wR_readPacked_92 {v0 : Int} {M9 : Mm} (X : Cy p l e (rmn 3 75) s m args below meth c D aK TR mvR false a0 "PackedImageModel" cR_readPacked 6 (some .int) (0, v0, M9)) : ∀ (y1 : Int) (y2 : Int) (y3 : Int) (y4 : Int) (y5 : Int) (z1 : Int) (z2 : Int) (M : Mm), fR_readPacked_92 y1 y2 y3 y4 y5 z1 z2 M = some (v0, M9) → Wm X 92 [some (.inr 0), some (.inl y1), some (.inl y2), some (.inl y3), some (.inl y4), some (.inl y5)] [.inl z2, .inl z1, .inr 0] M := by
  intro y1 y2 y3 y4 y5 z1 z2 M hf
  unfold fR_readPacked_92 at hf
  refine x_iadd dR_readPacked_92 ?_
  refine x_put hf gR_149 pR_24 tR_0 rfl dR_readPacked_93 (fun M4 hf => ?_)
  refine x_aloadn dR_readPacked_96 rfl ?_
  refine x_dup dR_readPacked_97 ?_
  refine x_getI gR_152 tR_0 rfl dR_readPacked_98 ?_
  refine x_iload dR_readPacked_101 rfl ?_
  refine x_eq0 hf dR_readPacked_103 rfl (fun hf => ?_) (fun hf => ?_)
  · refine x_iconst dR_readPacked_110 ?_
    exact x_mask [true, true, true, true, true, false] (wR_readPacked_111 X _ _ _ _ _ _ _ hf)
  · refine x_iconst dR_readPacked_106 ?_
    refine x_goto (tgt := 111) dR_readPacked_107 rfl ?_
    exact x_mask [true, true, true, true, true, false] (wR_readPacked_111 X _ _ _ _ _ _ _ hf)
set_option maxRecDepth 10000 in
theorem wR_readPacked_75 {v0 : Int} {M9 : Mm} (X : Cy p l e (rmn 3 75) s m args below meth c D aK TR mvR false a0 "PackedImageModel" cR_readPacked 6 (some .int) (0, v0, M9)) : ∀ (y1 : Int) (y2 : Int) (y3 : Int) (y4 : Int) (z0 : Int) (M : Mm), fR_readPacked_75 y1 y2 y3 y4 z0 M = some (v0, M9) → Wm X 75 [some (.inr 0), some (.inl y1), some (.inl y2), some (.inl y3), some (.inl y4), none] [.inl z0] M := by
  intro y1 y2 y3 y4 z0 M hf
  unfold fR_readPacked_75 at hf
  refine x_istore dR_readPacked_75 (by decide) ?_
  refine x_aloadn dR_readPacked_77 rfl ?_
  refine x_dup dR_readPacked_78 ?_
  refine x_getI gR_149 tR_0 rfl dR_readPacked_79 ?_
  refine x_iload dR_readPacked_82 rfl ?_
  refine x_eq0 hf dR_readPacked_84 rfl (fun hf => ?_) (fun hf => ?_)
  · refine x_iconst dR_readPacked_91 ?_
    exact x_mask [true, true, true, true, true, true] (wR_readPacked_92 X _ _ _ _ _ _ _ _ hf)
  · refine x_iconst dR_readPacked_87 ?_
    refine x_goto (tgt := 92) dR_readPacked_88 rfl ?_
    exact x_mask [true, true, true, true, true, true] (wR_readPacked_92 X _ _ _ _ _ _ _ _ hf)
set_option maxRecDepth 10000 in
theorem wR_readPacked_70 {v0 : Int} {M9 : Mm} (X : Cy p l e (rmn 3 75) s m args below meth c D aK TR mvR false a0 "PackedImageModel" cR_readPacked 6 (some .int) (0, v0, M9)) : ∀ (y1 : Int) (y2 : Int) (y3 : Int) (y4 : Int) (M : Mm), fR_readPacked_70 y1 y2 y3 y4 M = some (v0, M9) → Wm X 70 [some (.inr 0), some (.inl y1), some (.inl y2), some (.inl y3), some (.inl y4), none] [] M := by
  intro y1 y2 y3 y4 M hf
  unfold fR_readPacked_70 at hf
  refine x_iconst dR_readPacked_70 ?_
  refine x_goto (tgt := 75) dR_readPacked_71 rfl ?_
  exact x_mask [true, true, true, true, true, false] (wR_readPacked_75 X _ _ _ _ _ _ hf)
set_option maxRecDepth 10000 in
theorem wR_readPacked_74 {v0 : Int} {M9 : Mm} (X : Cy p l e (rmn 3 75) s m args below meth c D aK TR mvR false a0 "PackedImageModel" cR_readPacked 6 (some .int) (0, v0, M9)) : ∀ (y1 : Int) (y2 : Int) (y3 : Int) (y4 : Int) (M : Mm), fR_readPacked_74 y1 y2 y3 y4 M = some (v0, M9) → Wm X 74 [some (.inr 0), some (.inl y1), some (.inl y2), some (.inl y3), some (.inl y4), none] [] M := by
  intro y1 y2 y3 y4 M hf
  unfold fR_readPacked_74 at hf
  refine x_iconst dR_readPacked_74 ?_
  exact x_mask [true, true, true, true, true, false] (wR_readPacked_75 X _ _ _ _ _ _ hf)
set_option maxRecDepth 10000 in
theorem wR_readPacked_43 {v0 : Int} {M9 : Mm} (X : Cy p l e (rmn 3 75) s m args below meth c D aK TR mvR false a0 "PackedImageModel" cR_readPacked 6 (some .int) (0, v0, M9)) : ∀ (y1 : Int) (y2 : Int) (y3 : Int) (z0 : Int) (M : Mm), fR_readPacked_43 y1 y2 y3 z0 M = some (v0, M9) → Wm X 43 [some (.inr 0), some (.inl y1), some (.inl y2), some (.inl y3), none, none] [.inl z0] M := by
  intro y1 y2 y3 z0 M hf
  unfold fR_readPacked_43 at hf
  refine x_istore dR_readPacked_43 (by decide) ?_
  refine x_iload dR_readPacked_45 rfl ?_
  refine x_ne0 hf dR_readPacked_47 rfl (fun hf => ?_) (fun hf => ?_)
  · exact x_mask [true, true, true, true, true, false] (wR_readPacked_70 X _ _ _ _ _ hf)
  · refine x_aloadn dR_readPacked_50 rfl ?_
    refine x_getR gR_60 tR_0 rfl dR_readPacked_51 ?_
    refine x_iconst dR_readPacked_54 ?_
    refine x_iald hf tR_16 (by decide) dR_readPacked_55 (fun v14 hf => ?_)
    refine x_iloadn dR_readPacked_56 rfl ?_
    refine x_ne hf dR_readPacked_57 rfl (fun hf => ?_) (fun hf => ?_)
    · exact x_mask [true, true, true, true, true, false] (wR_readPacked_74 X _ _ _ _ _ hf)
    · refine x_aloadn dR_readPacked_60 rfl ?_
      refine x_getR gR_63 tR_0 rfl dR_readPacked_61 ?_
      refine x_iconst dR_readPacked_64 ?_
      refine x_iald hf tR_17 (by decide) dR_readPacked_65 (fun v15 hf => ?_)
      refine x_iloadn dR_readPacked_66 rfl ?_
      refine x_ne hf dR_readPacked_67 rfl (fun hf => ?_) (fun hf => ?_)
      · exact x_mask [true, true, true, true, true, false] (wR_readPacked_74 X _ _ _ _ _ hf)
      · exact x_mask [true, true, true, true, true, false] (wR_readPacked_70 X _ _ _ _ _ hf)
set_option maxRecDepth 10000 in
theorem wR_readPacked_42 {v0 : Int} {M9 : Mm} (X : Cy p l e (rmn 3 75) s m args below meth c D aK TR mvR false a0 "PackedImageModel" cR_readPacked 6 (some .int) (0, v0, M9)) : ∀ (y1 : Int) (y2 : Int) (y3 : Int) (M : Mm), fR_readPacked_42 y1 y2 y3 M = some (v0, M9) → Wm X 42 [some (.inr 0), some (.inl y1), some (.inl y2), some (.inl y3), none, none] [] M := by
  intro y1 y2 y3 M hf
  unfold fR_readPacked_42 at hf
  refine x_iconst dR_readPacked_42 ?_
  exact x_mask [true, true, true, true, false, false] (wR_readPacked_43 X _ _ _ _ _ hf)
set_option maxRecDepth 10000 in
theorem wR_readPacked_2 {v0 : Int} {M9 : Mm} (X : Cy p l e (rmn 3 75) s m args below meth c D aK TR mvR false a0 "PackedImageModel" cR_readPacked 6 (some .int) (0, v0, M9)) : ∀ (n : Nat) (y1 : Int) (y2 : Int) (y3 : Int) (M : Mm), fR_readPacked_2 n y1 y2 y3 M = some (v0, M9) → Wm X 2 [some (.inr 0), some (.inl y1), some (.inl y2), some (.inl y3), none, none] [] M := by
  intro n
  induction n with
  | zero => intro y1 y2 y3 M hf; exact nomatch (show (none : Option (Int × Mm)) = _ from hf)
  | succ n ih =>
    intro y1 y2 y3 M hf
    rw [fR_readPacked_2] at hf
    refine x_aloadn dR_readPacked_2 rfl ?_
    refine x_iloadn dR_readPacked_3 rfl ?_
    refine x_iloadn dR_readPacked_4 rfl ?_
    refine x_cvni hf (kR_end X.hst) iR_end lR_159 tR_0 rfl rfl (by decide) (Nat.le_of_ble_eq_true rfl) dR_readPacked_5 (fun v2 M1 hf => ?_)
    refine x_iloadn dR_readPacked_8 rfl ?_
    refine x_gt hf dR_readPacked_9 rfl (fun hf => ?_) (fun hf => ?_)
    · refine x_aloadn dR_readPacked_18 rfl ?_
      refine x_getR gR_60 tR_0 rfl dR_readPacked_19 ?_
      refine x_iconst dR_readPacked_22 ?_
      refine x_iald hf tR_16 (by decide) dR_readPacked_23 (fun v3 hf => ?_)
      refine x_iloadn dR_readPacked_24 rfl ?_
      refine x_ne hf dR_readPacked_25 rfl (fun hf => ?_) (fun hf => ?_)
      · exact x_mask [true, true, true, true, false, false] (wR_readPacked_42 X _ _ _ _ hf)
      · refine x_aloadn dR_readPacked_28 rfl ?_
        refine x_getR gR_63 tR_0 rfl dR_readPacked_29 ?_
        refine x_iconst dR_readPacked_32 ?_
        refine x_iald hf tR_17 (by decide) dR_readPacked_33 (fun v16 hf => ?_)
        refine x_iloadn dR_readPacked_34 rfl ?_
        refine x_ne hf dR_readPacked_35 rfl (fun hf => ?_) (fun hf => ?_)
        · exact x_mask [true, true, true, true, false, false] (wR_readPacked_42 X _ _ _ _ hf)
        · refine x_iconst dR_readPacked_38 ?_
          refine x_goto (tgt := 43) dR_readPacked_39 rfl ?_
          exact x_mask [true, true, true, true, false, false] (wR_readPacked_43 X _ _ _ _ _ hf)
    · refine x_iinc dR_readPacked_12 rfl (by decide) ?_
      refine x_goto (tgt := 2) dR_readPacked_15 rfl ?_
      exact x_mask [true, true, true, true, false, false] (ih _ _ _ _ hf)
set_option maxRecDepth 10000 in
theorem wR_readPacked {v0 : Int} {M9 : Mm} (X : Cy p l e (rmn 3 75) s m args below meth c D aK TR mvR false a0 "PackedImageModel" cR_readPacked 6 (some .int) (0, v0, M9)) {x1 : Int} {x2 : Int} {M : Mm} (hf : fR_readPacked x1 x2 M = some (v0, M9)) : Wm X 0 [some (.inr 0), some (.inl x1), some (.inl x2), none, none, none] [] M := by
  unfold fR_readPacked at hf
  refine x_iconst dR_readPacked_0 ?_
  refine x_istoren dR_readPacked_1 (by decide) ?_
  exact x_mask [true, true, true, true, false, false] (wR_readPacked_2 X FU _ _ _ _ hf)
theorem kR_readPacked {l : Launch} (hl : l.stackTraces = false) {x1 : Int} {x2 : Int} {M : Mm} (v0 : Int) (M9 : Mm) (hf : fR_readPacked x1 x2 M = some (v0, M9)) : Ct l yR_readPacked (rmn 3 75) TR mvR false (some .int) [.inr 0, .inl x1, .inl x2] M (0, v0, M9) := ct_of hl (by decide) iR_readPacked.1 (Nat.le_of_ble_eq_true rfl) (fun X => wR_readPacked X hf)
def fR_read_54 (y1 y2 z1 : Int) (M : Mm) : Option (Int × Mm) :=
  mput M 0 0 z1 fun M5 =>
  mlt 0 (M5 0 0)
    (some (0, M5))
    (mcn (fR_tag y1 3 M5) fun v7 M6 =>
    meq v7 2
      (mcn (fR_readPacked y1 y2 M6) fun v11 M10 =>
      some (v11, M10))
      (mcn (fR_byteOf y1 y2 M6) fun v9 M8 =>
      some (v9, M8)))
def fR_read_49 (y1 y2 : Int) (M : Mm) : Option (Int × Mm) :=
  fR_read_54 y1 y2 2 M
def fR_read (x1 : Int) (x2 : Int) (M : Mm) : Option (Int × Mm) :=
  meq (M 0 17) 0
    (fR_read_54 x1 x2 1 M)
    (mcn (fR_isInode x1 M) fun v2 M1 =>
    meq v2 0
      (fR_read_54 x1 x2 2 M1)
      (mcn (fR_isBad x1 M1) fun v4 M3 =>
      meq v4 0
        (mlt x2 0
          (fR_read_49 x1 x2 M3)
          (mcn (fR_size x1 M3) fun v13 M12 =>
          mlt x2 v13
            (fR_read_54 x1 x2 0 M12)
            (fR_read_49 x1 x2 M12)))
        (fR_read_54 x1 x2 1 M3)))
set_option maxRecDepth 10000 in
theorem wR_read_54 {v0 : Int} {M9 : Mm} (X : Cy p l e (rmn 4 100) s m args below meth c D aK TR mvR false a0 "PackedImageModel" cR_read 3 (some .int) (0, v0, M9)) : ∀ (y1 : Int) (y2 : Int) (z1 : Int) (M : Mm), fR_read_54 y1 y2 z1 M = some (v0, M9) → Wm X 54 [some (.inr 0), some (.inl y1), some (.inl y2)] [.inl z1, .inr 0] M := by
  intro y1 y2 z1 M hf
  unfold fR_read_54 at hf
  refine x_put hf gR_69 pR_0 tR_0 rfl dR_read_54 (fun M5 hf => ?_)
  refine x_aloadn dR_read_57 rfl ?_
  refine x_getI gR_69 tR_0 rfl dR_read_58 ?_
  refine x_le0 hf dR_read_61 rfl (fun hf => ?_) (fun hf => ?_)
  · refine x_aloadn dR_read_66 rfl ?_
    refine x_iloadn dR_read_67 rfl ?_
    refine x_iconst dR_read_68 ?_
    refine x_cvni hf (kR_tag X.hst) iR_tag lR_165 tR_0 rfl rfl (by decide) (Nat.le_of_ble_eq_true rfl) dR_read_69 (fun v7 M6 hf => ?_)
    refine x_iconst dR_read_72 ?_
    refine x_ne hf dR_read_73 rfl (fun hf => ?_) (fun hf => ?_)
    · refine x_aloadn dR_read_85 rfl ?_
      refine x_iloadn dR_read_86 rfl ?_
      refine x_iloadn dR_read_87 rfl ?_
      refine x_cvni hf (kR_byteOf X.hst) iR_byteOf lR_189 tR_0 rfl rfl (by decide) (Nat.le_of_ble_eq_true rfl) dR_read_88 (fun v9 M8 hf => ?_)
      exact x_iret (rt_n hf) rfl dR_read_91
    · refine x_aloadn dR_read_76 rfl ?_
      refine x_iloadn dR_read_77 rfl ?_
      refine x_iloadn dR_read_78 rfl ?_
      refine x_cvni hf (kR_readPacked X.hst) iR_readPacked lR_186 tR_0 rfl rfl (by decide) (Nat.le_of_ble_eq_true rfl) dR_read_79 (fun v11 M10 hf => ?_)
      refine x_goto (tgt := 91) dR_read_82 rfl ?_
      exact x_iret (rt_n hf) rfl dR_read_91
  · refine x_iconst dR_read_64 ?_
    exact x_iret (rt_n hf) rfl dR_read_65
set_option maxRecDepth 10000 in
theorem wR_read_49 {v0 : Int} {M9 : Mm} (X : Cy p l e (rmn 4 100) s m args below meth c D aK TR mvR false a0 "PackedImageModel" cR_read 3 (some .int) (0, v0, M9)) : ∀ (y1 : Int) (y2 : Int) (M : Mm), fR_read_49 y1 y2 M = some (v0, M9) → Wm X 49 [some (.inr 0), some (.inl y1), some (.inl y2)] [.inr 0] M := by
  intro y1 y2 M hf
  unfold fR_read_49 at hf
  refine x_iconst dR_read_49 ?_
  refine x_goto (tgt := 54) dR_read_50 rfl ?_
  exact x_mask [true, true, true] (wR_read_54 X _ _ _ _ hf)
set_option maxRecDepth 10000 in
theorem wR_read {v0 : Int} {M9 : Mm} (X : Cy p l e (rmn 4 100) s m args below meth c D aK TR mvR false a0 "PackedImageModel" cR_read 3 (some .int) (0, v0, M9)) {x1 : Int} {x2 : Int} {M : Mm} (hf : fR_read x1 x2 M = some (v0, M9)) : Wm X 0 [some (.inr 0), some (.inl x1), some (.inl x2)] [] M := by
  unfold fR_read at hf
  refine x_aloadn dR_read_0 rfl ?_
  refine x_aloadn dR_read_1 rfl ?_
  refine x_getI gR_132 tR_0 rfl dR_read_2 ?_
  refine x_ne0 hf dR_read_5 rfl (fun hf => ?_) (fun hf => ?_)
  · refine x_aloadn dR_read_12 rfl ?_
    refine x_iloadn dR_read_13 rfl ?_
    refine x_cvni hf (kR_isInode X.hst) iR_isInode lR_174 tR_0 rfl rfl (by decide) (Nat.le_of_ble_eq_true rfl) dR_read_14 (fun v2 M1 hf => ?_)
    refine x_ne0 hf dR_read_17 rfl (fun hf => ?_) (fun hf => ?_)
    · refine x_aloadn dR_read_24 rfl ?_
      refine x_iloadn dR_read_25 rfl ?_
      refine x_cvni hf (kR_isBad X.hst) iR_isBad lR_177 tR_0 rfl rfl (by decide) (Nat.le_of_ble_eq_true rfl) dR_read_26 (fun v4 M3 hf => ?_)
      refine x_eq0 hf dR_read_29 rfl (fun hf => ?_) (fun hf => ?_)
      · refine x_iloadn dR_read_36 rfl ?_
        refine x_lt0 hf dR_read_37 rfl (fun hf => ?_) (fun hf => ?_)
        · exact x_mask [true, true, true] (wR_read_49 X _ _ _ hf)
        · refine x_iloadn dR_read_40 rfl ?_
          refine x_aloadn dR_read_41 rfl ?_
          refine x_iloadn dR_read_42 rfl ?_
          refine x_cvni hf (kR_size X.hst) iR_size lR_162 tR_0 rfl rfl (by decide) (Nat.le_of_ble_eq_true rfl) dR_read_43 (fun v13 M12 hf => ?_)
          refine x_lt hf dR_read_46 rfl (fun hf => ?_) (fun hf => ?_)
          · refine x_iconst dR_read_53 ?_
            exact x_mask [true, true, true] (wR_read_54 X _ _ _ _ hf)
          · exact x_mask [true, true, true] (wR_read_49 X _ _ _ hf)
      · refine x_iconst dR_read_32 ?_
        refine x_goto (tgt := 54) dR_read_33 rfl ?_
        exact x_mask [true, true, true] (wR_read_54 X _ _ _ _ hf)
    · refine x_iconst dR_read_20 ?_
      refine x_goto (tgt := 54) dR_read_21 rfl ?_
      exact x_mask [true, true, true] (wR_read_54 X _ _ _ _ hf)
  · refine x_iconst dR_read_8 ?_
    refine x_goto (tgt := 54) dR_read_9 rfl ?_
    exact x_mask [true, true, true] (wR_read_54 X _ _ _ _ hf)
theorem kR_read {l : Launch} (hl : l.stackTraces = false) {x1 : Int} {x2 : Int} {M : Mm} (v0 : Int) (M9 : Mm) (hf : fR_read x1 x2 M = some (v0, M9)) : Ct l yR_read (rmn 4 100) TR mvR false (some .int) [.inr 0, .inl x1, .inl x2] M (0, v0, M9) := ct_of hl (by decide) iR_read.1 (Nat.le_of_ble_eq_true rfl) (fun X => wR_read X hf)
end WK
