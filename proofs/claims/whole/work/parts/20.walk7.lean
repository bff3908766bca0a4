section WK
variable {p : Program} {l : Launch} {e : Env} {s : State} {m : MethodId} {args : Array Value} {below : List Frame} {meth : Method} {c : Code} {D : va_G} {aK : Nat → ClassId} {a0 : Nat → Nat}
def fR_packOne_196 (K44 : Int → Int → Int → Int → Int → Mm → Option (Int × Mm)) (y1 y3 y4 y5 y6 y7 y8 : Int) (M : Mm) : Option (Int × Mm) :=
  mlt (y7 + y8) 1
    (K44 y1 y3 y4 y5 y6 M)
    (mcn (fR_token y4 y1 y5 y7 y8 M) fun _ M5 =>
    K44 y1 y3 y4 (y5 + (y7 + y8)) y6 M5)
def fR_packOne_191 (K44 : Int → Int → Int → Int → Int → Mm → Option (Int × Mm)) (y1 y3 y4 y5 y6 z0 : Int) (M : Mm) : Option (Int × Mm) :=
  fR_packOne_196 K44 y1 y3 y4 y5 y6 z0 0 M
def fR_packOne_170 (K44 : Int → Int → Int → Int → Int → Mm → Option (Int × Mm)) (y1 y3 y4 y5 y7 y8 y9 z0 : Int) (M : Mm) : Option (Int × Mm) :=
  meq z0 0
    (mlt y7 y9
      (fR_packOne_191 K44 y1 y3 y4 y5 z0 y7 M)
      (fR_packOne_191 K44 y1 y3 y4 y5 z0 y9 M))
    (fR_packOne_196 K44 y1 y3 y4 y5 z0 y7 y8 M)
def fR_packOne_159 (K44 : Int → Int → Int → Int → Int → Mm → Option (Int × Mm)) (y1 y3 y4 y5 y7 y8 y9 z0 z1 : Int) (M : Mm) : Option (Int × Mm) :=
  mlt y9 (z0 + z1)
    (fR_packOne_170 K44 y1 y3 y4 y5 y7 y8 y9 0 M)
    (fR_packOne_170 K44 y1 y3 y4 y5 y7 y8 y9 1 M)
def fR_packOne_136 (K44 : Int → Int → Int → Int → Int → Mm → Option (Int × Mm)) (y1 y3 y4 y5 y7 y8 : Int) (M : Mm) : Option (Int × Mm) :=
  mlt 0 y8
    (fR_packOne_159 K44 y1 y3 y4 y5 y7 y8 ((16 - (M 0 14)) - 1) y7 1 M)
    (fR_packOne_159 K44 y1 y3 y4 y5 y7 y8 ((16 - (M 0 14)) - 1) y7 0 M)
def fR_packOne_73 (K44 : Int → Int → Int → Int → Int → Mm → Option (Int × Mm)) : Nat → Int → Int → Int → Int → Int → Int → Mm → Option (Int × Mm)
  | 0, _, _, _, _, _, _, _ => none
  | n+1, y1, y3, y4, y5, y7, y8, M =>
    meq y8 0
      (mlt y7 15
        (mrd M 4 16 y1 fun v6 =>
        mlt (y5 + y7) v6
          (mrd M 4 16 y1 fun v7 =>
          mlt (y5 + (y7 + 1)) v7
            (mcn (fR_match y1 (y5 + (y7 + 1)) y3 M) fun v9 M8 =>
            (fR_packOne_73 K44 n) y1 y3 y4 y5 (y7 + 1) v9 M8)
            ((fR_packOne_73 K44 n) y1 y3 y4 y5 (y7 + 1) 0 M))
          (fR_packOne_136 K44 y1 y3 y4 y5 y7 y8 M))
        (fR_packOne_136 K44 y1 y3 y4 y5 y7 y8 M))
      (fR_packOne_136 K44 y1 y3 y4 y5 y7 y8 M)
def fR_packOne_44 : Nat → Int → Int → Int → Int → Int → Mm → Option (Int × Mm)
  | 0, _, _, _, _, _, _ => none
  | n+1, y1, y3, y4, y5, y6, M =>
    meq y6 0
      (some (y5, M))
      (mrd M 4 16 y1 fun v2 =>
      mlt y5 v2
        (mcn (fR_match y1 y5 y3 M) fun v4 M3 =>
        fR_packOne_73 (fR_packOne_44 n) FU y1 y3 y4 y5 0 v4 M3)
        (some (y5, M)))
def fR_packOne_9 : Nat → Int → Int → Int → Int → Mm → Option (Int × Mm)
  | 0, _, _, _, _, _ => none
  | n+1, y1, y3, y4, y5, M =>
    mlt y5 16
      (mwr M 11 192 (y4 + y5) 0 fun M10 =>
      (fR_packOne_9 n) y1 y3 y4 (y5 + 1) M10)
      (mput M 0 14 0 fun M1 =>
      fR_packOne_44 FU y1 y3 y4 y3 1 M1)
def fR_packOne (x1 : Int) (x2 : Int) (x3 : Int) (M : Mm) : Option (Int × Mm) :=
  fR_packOne_9 FU x1 x3 (16 * x2) 0 M
set_option maxRecDepth 10000 in
theorem wR_packOne_196 {v0 : Int} {M9 : Mm} (X : Cy p l e (rmn 1 26) s m args below meth c D aK TR mvR false a0 "PackedImageModel" cR_packOne 10 (some .int) (0, v0, M9)) {K44 : Int → Int → Int → Int → Int → Mm → Option (Int × Mm)} (hK44 : ∀ (y1 : Int) (y3 : Int) (y4 : Int) (y5 : Int) (y6 : Int) (M : Mm), K44 y1 y3 y4 y5 y6 M = some (v0, M9) → Wm X 44 [some (.inr 0), some (.inl y1), none, some (.inl y3), some (.inl y4), some (.inl y5), some (.inl y6), none, none, none] [] M) : ∀ (y1 : Int) (y3 : Int) (y4 : Int) (y5 : Int) (y6 : Int) (y7 : Int) (y8 : Int) (M : Mm), fR_packOne_196 K44 y1 y3 y4 y5 y6 y7 y8 M = some (v0, M9) → Wm X 196 [some (.inr 0), some (.inl y1), none, some (.inl y3), some (.inl y4), some (.inl y5), some (.inl y6), some (.inl y7), some (.inl y8), none] [] M := by
  intro y1 y3 y4 y5 y6 y7 y8 M hf
  unfold fR_packOne_196 at hf
  refine x_iload dR_packOne_196 rfl ?_
  refine x_iload dR_packOne_198 rfl ?_
  refine x_iadd dR_packOne_200 ?_
  refine x_iconst dR_packOne_201 ?_
  refine x_ge hf dR_packOne_202 rfl (fun hf => ?_) (fun hf => ?_)
  · refine x_aloadn dR_packOne_208 rfl ?_
    refine x_iload dR_packOne_209 rfl ?_
    refine x_iloadn dR_packOne_211 rfl ?_
    refine x_iload dR_packOne_212 rfl ?_
    refine x_iload dR_packOne_214 rfl ?_
    refine x_iload dR_packOne_216 rfl ?_
    refine x_cvnv hf (kR_token X.hst) iR_token lR_93 tR_0 rfl rfl (by decide) (Nat.le_of_ble_eq_true rfl) dR_packOne_218 (fun _ M5 hf => ?_)
    refine x_iload dR_packOne_221 rfl ?_
    refine x_iload dR_packOne_223 rfl ?_
    refine x_iload dR_packOne_225 rfl ?_
    refine x_iadd dR_packOne_227 ?_
    refine x_iadd dR_packOne_228 ?_
    refine x_istore dR_packOne_229 (by decide) ?_
    refine x_goto (tgt := 44) dR_packOne_231 rfl ?_
    exact x_mask [true, true, false, true, true, true, true, false, false, false] (hK44 _ _ _ _ _ _ hf)
  · refine x_goto (tgt := 44) dR_packOne_205 rfl ?_
    exact x_mask [true, true, false, true, true, true, true, false, false, false] (hK44 _ _ _ _ _ _ hf)
set_option maxRecDepth 10000 in
theorem wR_packOne_191 {v0 : Int} {M9 : Mm} (X : Cy p l e (rmn 1 26) s m args below meth c D aK TR mvR false a0 "PackedImageModel" cR_packOne 10 (some .int) (0, v0, M9)) {K44 : Int → Int → Int → Int → Int → Mm → Option (Int × Mm)} (hK44 : ∀ (y1 : Int) (y3 : Int) (y4 : Int) (y5 : Int) (y6 : Int) (M : Mm), K44 y1 y3 y4 y5 y6 M = some (v0, M9) → Wm X 44 [some (.inr 0), some (.inl y1), none, some (.inl y3), some (.inl y4), some (.inl y5), some (.inl y6), none, none, none] [] M) : ∀ (y1 : Int) (y3 : Int) (y4 : Int) (y5 : Int) (y6 : Int) (z0 : Int) (M : Mm), fR_packOne_191 K44 y1 y3 y4 y5 y6 z0 M = some (v0, M9) → Wm X 191 [some (.inr 0), some (.inl y1), none, some (.inl y3), some (.inl y4), some (.inl y5), some (.inl y6), none, none, none] [.inl z0] M := by
  intro y1 y3 y4 y5 y6 z0 M hf
  unfold fR_packOne_191 at hf
  refine x_istore dR_packOne_191 (by decide) ?_
  refine x_iconst dR_packOne_193 ?_
  refine x_istore dR_packOne_194 (by decide) ?_
  exact x_mask [true, true, false, true, true, true, true, true, true, false] (wR_packOne_196 X hK44 _ _ _ _ _ _ _ _ hf)
set_option maxRecDepth 10000 in
theorem wR_packOne_170 {v0 : Int} {M9 : Mm} (X : Cy p l e (rmn 1 26) s m args below meth c D aK TR mvR false a0 "PackedImageModel" cR_packOne 10 (some .int) (0, v0, M9)) {K44 : Int → Int → Int → Int → Int → Mm → Option (Int × Mm)} (hK44 : ∀ (y1 : Int) (y3 : Int) (y4 : Int) (y5 : Int) (y6 : Int) (M : Mm), K44 y1 y3 y4 y5 y6 M = some (v0, M9) → Wm X 44 [some (.inr 0), some (.inl y1), none, some (.inl y3), some (.inl y4), some (.inl y5), some (.inl y6), none, none, none] [] M) : ∀ (y1 : Int) (y3 : Int) (y4 : Int) (y5 : Int) (y7 : Int) (y8 : Int) (y9 : Int) (z0 : Int) (M : Mm), fR_packOne_170 K44 y1 y3 y4 y5 y7 y8 y9 z0 M = some (v0, M9) → Wm X 170 [some (.inr 0), some (.inl y1), none, some (.inl y3), some (.inl y4), some (.inl y5), none, some (.inl y7), some (.inl y8), some (.inl y9)] [.inl z0] M := by
  intro y1 y3 y4 y5 y7 y8 y9 z0 M hf
  unfold fR_packOne_170 at hf
  refine x_istore dR_packOne_170 (by decide) ?_
  refine x_iload dR_packOne_172 rfl ?_
  refine x_ne0 hf dR_packOne_174 rfl (fun hf => ?_) (fun hf => ?_)
  · exact x_mask [true, true, false, true, true, true, true, true, true, false] (wR_packOne_196 X hK44 _ _ _ _ _ _ _ _ hf)
  · refine x_iload dR_packOne_177 rfl ?_
    refine x_iload dR_packOne_179 rfl ?_
    refine x_ge hf dR_packOne_181 rfl (fun hf => ?_) (fun hf => ?_)
    · refine x_iload dR_packOne_189 rfl ?_
      exact x_mask [true, true, false, true, true, true, true, false, false, false] (wR_packOne_191 X hK44 _ _ _ _ _ _ _ hf)
    · refine x_iload dR_packOne_184 rfl ?_
      refine x_goto (tgt := 191) dR_packOne_186 rfl ?_
      exact x_mask [true, true, false, true, true, true, true, false, false, false] (wR_packOne_191 X hK44 _ _ _ _ _ _ _ hf)
set_option maxRecDepth 10000 in
theorem wR_packOne_159 {v0 : Int} {M9 : Mm} (X : Cy p l e (rmn 1 26) s m args below meth c D aK TR mvR false a0 "PackedImageModel" cR_packOne 10 (some .int) (0, v0, M9)) {K44 : Int → Int → Int → Int → Int → Mm → Option (Int × Mm)} (hK44 : ∀ (y1 : Int) (y3 : Int) (y4 : Int) (y5 : Int) (y6 : Int) (M : Mm), K44 y1 y3 y4 y5 y6 M = some (v0, M9) → Wm X 44 [some (.inr 0), some (.inl y1), none, some (.inl y3), some (.inl y4), some (.inl y5), some (.inl y6), none, none, none] [] M) : ∀ (y1 : Int) (y3 : Int) (y4 : Int) (y5 : Int) (y7 : Int) (y8 : Int) (y9 : Int) (z0 : Int) (z1 : Int) (M : Mm), fR_packOne_159 K44 y1 y3 y4 y5 y7 y8 y9 z0 z1 M = some (v0, M9) → Wm X 159 [some (.inr 0), some (.inl y1), none, some (.inl y3), some (.inl y4), some (.inl y5), none, some (.inl y7), some (.inl y8), some (.inl y9)] [.inl z1, .inl z0] M := by
  intro y1 y3 y4 y5 y7 y8 y9 z0 z1 M hf
  unfold fR_packOne_159 at hf
  refine x_iadd dR_packOne_159 ?_
  refine x_iload dR_packOne_160 rfl ?_
  refine x_gt hf dR_packOne_162 rfl (fun hf => ?_) (fun hf => ?_)
  · refine x_iconst dR_packOne_169 ?_
    exact x_mask [true, true, false, true, true, true, false, true, true, true] (wR_packOne_170 X hK44 _ _ _ _ _ _ _ _ _ hf)
  · refine x_iconst dR_packOne_165 ?_
    refine x_goto (tgt := 170) dR_packOne_166 rfl ?_
    exact x_mask [true, true, false, true, true, true, false, true, true, true] (wR_packOne_170 X hK44 _ _ _ _ _ _ _ _ _ hf)
set_option maxRecDepth 10000 in
theorem wR_packOne_136 {v0 : Int} {M9 : Mm} (X : Cy p l e (rmn 1 26) s m args below meth c D aK TR mvR false a0 "PackedImageModel" cR_packOne 10 (some .int) (0, v0, M9)) {K44 : Int → Int → Int → Int → Int → Mm → Option (Int × Mm)} (hK44 : ∀ (y1 : Int) (y3 : Int) (y4 : Int) (y5 : Int) (y6 : Int) (M : Mm), K44 y1 y3 y4 y5 y6 M = some (v0, M9) → Wm X 44 [some (.inr 0), some (.inl y1), none, some (.inl y3), some (.inl y4), some (.inl y5), some (.inl y6), none, none, none] [] M) : ∀ (y1 : Int) (y3 : Int) (y4 : Int) (y5 : Int) (y7 : Int) (y8 : Int) (M : Mm), fR_packOne_136 K44 y1 y3 y4 y5 y7 y8 M = some (v0, M9) → Wm X 136 [some (.inr 0), some (.inl y1), none, some (.inl y3), some (.inl y4), some (.inl y5), none, some (.inl y7), some (.inl y8), none] [] M := by
  intro y1 y3 y4 y5 y7 y8 M hf
  unfold fR_packOne_136 at hf
  refine x_bipush dR_packOne_136 (by decide) ?_
  refine x_aloadn dR_packOne_138 rfl ?_
  refine x_getI gR_86 tR_0 rfl dR_packOne_139 ?_
  refine x_isub dR_packOne_142 ?_
  refine x_iconst dR_packOne_143 ?_
  refine x_isub dR_packOne_144 ?_
  refine x_istore dR_packOne_145 (by decide) ?_
  refine x_iload dR_packOne_147 rfl ?_
  refine x_iload dR_packOne_149 rfl ?_
  refine x_le0 hf dR_packOne_151 rfl (fun hf => ?_) (fun hf => ?_)
  · refine x_iconst dR_packOne_158 ?_
    exact x_mask [true, true, false, true, true, true, false, true, true, true] (wR_packOne_159 X hK44 _ _ _ _ _ _ _ _ _ _ hf)
  · refine x_iconst dR_packOne_154 ?_
    refine x_goto (tgt := 159) dR_packOne_155 rfl ?_
    exact x_mask [true, true, false, true, true, true, false, true, true, true] (wR_packOne_159 X hK44 _ _ _ _ _ _ _ _ _ _ hf)
set_option maxRecDepth 10000 in
theorem wR_packOne_73 {v0 : Int} {M9 : Mm} (X : Cy p l e (rmn 1 26) s m args below meth c D aK TR mvR false a0 "PackedImageModel" cR_packOne 10 (some .int) (0, v0, M9)) {K44 : Int → Int → Int → Int → Int → Mm → Option (Int × Mm)} (hK44 : ∀ (y1 : Int) (y3 : Int) (y4 : Int) (y5 : Int) (y6 : Int) (M : Mm), K44 y1 y3 y4 y5 y6 M = some (v0, M9) → Wm X 44 [some (.inr 0), some (.inl y1), none, some (.inl y3), some (.inl y4), some (.inl y5), some (.inl y6), none, none, none] [] M) : ∀ (n : Nat) (y1 : Int) (y3 : Int) (y4 : Int) (y5 : Int) (y7 : Int) (y8 : Int) (M : Mm), fR_packOne_73 K44 n y1 y3 y4 y5 y7 y8 M = some (v0, M9) → Wm X 73 [some (.inr 0), some (.inl y1), none, some (.inl y3), some (.inl y4), some (.inl y5), none, some (.inl y7), some (.inl y8), none] [] M := by
  intro n
  induction n with
  | zero => intro y1 y3 y4 y5 y7 y8 M hf; exact nomatch (show (none : Option (Int × Mm)) = _ from hf)
  | succ n ih =>
    intro y1 y3 y4 y5 y7 y8 M hf
    rw [fR_packOne_73] at hf
    refine x_iload dR_packOne_73 rfl ?_
    refine x_ne0 hf dR_packOne_75 rfl (fun hf => ?_) (fun hf => ?_)
    · exact x_mask [true, true, false, true, true, true, false, true, true, false] (wR_packOne_136 X hK44 _ _ _ _ _ _ _ hf)
    · refine x_iload dR_packOne_78 rfl ?_
      refine x_bipush dR_packOne_80 (by decide) ?_
      refine x_ge hf dR_packOne_82 rfl (fun hf => ?_) (fun hf => ?_)
      · exact x_mask [true, true, false, true, true, true, false, true, true, false] (wR_packOne_136 X hK44 _ _ _ _ _ _ _ hf)
      · refine x_iload dR_packOne_85 rfl ?_
        refine x_iload dR_packOne_87 rfl ?_
        refine x_iadd dR_packOne_89 ?_
        refine x_aloadn dR_packOne_90 rfl ?_
        refine x_getR gR_23 tR_0 rfl dR_packOne_91 ?_
        refine x_iloadn dR_packOne_94 rfl ?_
        refine x_iald hf tR_4 (by decide) dR_packOne_95 (fun v6 hf => ?_)
        refine x_ge hf dR_packOne_96 rfl (fun hf => ?_) (fun hf => ?_)
        · exact x_mask [true, true, false, true, true, true, false, true, true, false] (wR_packOne_136 X hK44 _ _ _ _ _ _ _ hf)
        · refine x_iinc dR_packOne_99 rfl (by decide) ?_
          refine x_iload dR_packOne_102 rfl ?_
          refine x_iload dR_packOne_104 rfl ?_
          refine x_iadd dR_packOne_106 ?_
          refine x_aloadn dR_packOne_107 rfl ?_
          refine x_getR gR_23 tR_0 rfl dR_packOne_108 ?_
          refine x_iloadn dR_packOne_111 rfl ?_
          refine x_iald hf tR_4 (by decide) dR_packOne_112 (fun v7 hf => ?_)
          refine x_ge hf dR_packOne_113 rfl (fun hf => ?_) (fun hf => ?_)
          · refine x_iconst dR_packOne_130 ?_
            refine x_istore dR_packOne_131 (by decide) ?_
            refine x_goto (tgt := 73) dR_packOne_133 rfl ?_
            exact x_mask [true, true, false, true, true, true, false, true, true, false] (ih _ _ _ _ _ _ _ hf)
          · refine x_aloadn dR_packOne_116 rfl ?_
            refine x_iloadn dR_packOne_117 rfl ?_
            refine x_iload dR_packOne_118 rfl ?_
            refine x_iload dR_packOne_120 rfl ?_
            refine x_iadd dR_packOne_122 ?_
            refine x_iloadn dR_packOne_123 rfl ?_
            refine x_cvni hf (kR_match X.hst) iR_match lR_89 tR_0 rfl rfl (by decide) (Nat.le_of_ble_eq_true rfl) dR_packOne_124 (fun v9 M8 hf => ?_)
            refine x_goto (tgt := 131) dR_packOne_127 rfl ?_
            refine x_istore dR_packOne_131 (by decide) ?_
            refine x_goto (tgt := 73) dR_packOne_133 rfl ?_
            exact x_mask [true, true, false, true, true, true, false, true, true, false] (ih _ _ _ _ _ _ _ hf)
set_option maxRecDepth 10000 in
theorem wR_packOne_44 {v0 : Int} {M9 : Mm} (X : Cy p l e (rmn 1 26) s m args below meth c D aK TR mvR false a0 "PackedImageModel" cR_packOne 10 (some .int) (0, v0, M9)) : ∀ (n : Nat) (y1 : Int) (y3 : Int) (y4 : Int) (y5 : Int) (y6 : Int) (M : Mm), fR_packOne_44 n y1 y3 y4 y5 y6 M = some (v0, M9) → Wm X 44 [some (.inr 0), some (.inl y1), none, some (.inl y3), some (.inl y4), some (.inl y5), some (.inl y6), none, none, none] [] M := by
  intro n
  induction n with
  | zero => intro y1 y3 y4 y5 y6 M hf; exact nomatch (show (none : Option (Int × Mm)) = _ from hf)
  | succ n ih =>
    intro y1 y3 y4 y5 y6 M hf
    rw [fR_packOne_44] at hf
    refine x_iload dR_packOne_44 rfl ?_
    refine x_eq0 hf dR_packOne_46 rfl (fun hf => ?_) (fun hf => ?_)
    · refine x_iload dR_packOne_234 rfl ?_
      exact x_iret (rt_n hf) rfl dR_packOne_236
    · refine x_iload dR_packOne_49 rfl ?_
      refine x_aloadn dR_packOne_51 rfl ?_
      refine x_getR gR_23 tR_0 rfl dR_packOne_52 ?_
      refine x_iloadn dR_packOne_55 rfl ?_
      refine x_iald hf tR_4 (by decide) dR_packOne_56 (fun v2 hf => ?_)
      refine x_ge hf dR_packOne_57 rfl (fun hf => ?_) (fun hf => ?_)
      · refine x_iload dR_packOne_234 rfl ?_
        exact x_iret (rt_n hf) rfl dR_packOne_236
      · refine x_iconst dR_packOne_60 ?_
        refine x_istore dR_packOne_61 (by decide) ?_
        refine x_aloadn dR_packOne_63 rfl ?_
        refine x_iloadn dR_packOne_64 rfl ?_
        refine x_iload dR_packOne_65 rfl ?_
        refine x_iloadn dR_packOne_67 rfl ?_
        refine x_cvni hf (kR_match X.hst) iR_match lR_89 tR_0 rfl rfl (by decide) (Nat.le_of_ble_eq_true rfl) dR_packOne_68 (fun v4 M3 hf => ?_)
        refine x_istore dR_packOne_71 (by decide) ?_
        exact x_mask [true, true, false, true, true, true, false, true, true, false] (wR_packOne_73 X ih FU _ _ _ _ _ _ _ hf)
set_option maxRecDepth 10000 in
theorem wR_packOne_9 {v0 : Int} {M9 : Mm} (X : Cy p l e (rmn 1 26) s m args below meth c D aK TR mvR false a0 "PackedImageModel" cR_packOne 10 (some .int) (0, v0, M9)) : ∀ (n : Nat) (y1 : Int) (y3 : Int) (y4 : Int) (y5 : Int) (M : Mm), fR_packOne_9 n y1 y3 y4 y5 M = some (v0, M9) → Wm X 9 [some (.inr 0), some (.inl y1), none, some (.inl y3), some (.inl y4), some (.inl y5), none, none, none, none] [] M := by
  intro n
  induction n with
  | zero => intro y1 y3 y4 y5 M hf; exact nomatch (show (none : Option (Int × Mm)) = _ from hf)
  | succ n ih =>
    intro y1 y3 y4 y5 M hf
    rw [fR_packOne_9] at hf
    refine x_iload dR_packOne_9 rfl ?_
    refine x_bipush dR_packOne_11 (by decide) ?_
    refine x_ge hf dR_packOne_13 rfl (fun hf => ?_) (fun hf => ?_)
    · refine x_aloadn dR_packOne_33 rfl ?_
      refine x_iconst dR_packOne_34 ?_
      refine x_put hf gR_86 pR_14 tR_0 rfl dR_packOne_35 (fun M1 hf => ?_)
      refine x_iloadn dR_packOne_38 rfl ?_
      refine x_istore dR_packOne_39 (by decide) ?_
      refine x_iconst dR_packOne_41 ?_
      refine x_istore dR_packOne_42 (by decide) ?_
      exact x_mask [true, true, false, true, true, true, true, false, false, false] (wR_packOne_44 X FU _ _ _ _ _ _ hf)
    · refine x_aloadn dR_packOne_16 rfl ?_
      refine x_getR gR_45 tR_0 rfl dR_packOne_17 ?_
      refine x_iload dR_packOne_20 rfl ?_
      refine x_iload dR_packOne_22 rfl ?_
      refine x_iadd dR_packOne_24 ?_
      refine x_iconst dR_packOne_25 ?_
      refine x_iast hf tR_11 (by decide) dR_packOne_26 (fun M10 hf => ?_)
      refine x_iinc dR_packOne_27 rfl (by decide) ?_
      refine x_goto (tgt := 9) dR_packOne_30 rfl ?_
      exact x_mask [true, true, false, true, true, true, false, false, false, false] (ih _ _ _ _ _ hf)
set_option maxRecDepth 10000 in
theorem wR_packOne {v0 : Int} {M9 : Mm} (X : Cy p l e (rmn 1 26) s m args below meth c D aK TR mvR false a0 "PackedImageModel" cR_packOne 10 (some .int) (0, v0, M9)) {x1 : Int} {x2 : Int} {x3 : Int} {M : Mm} (hf : fR_packOne x1 x2 x3 M = some (v0, M9)) : Wm X 0 [some (.inr 0), some (.inl x1), some (.inl x2), some (.inl x3), none, none, none, none, none, none] [] M := by
  unfold fR_packOne at hf
  refine x_bipush dR_packOne_0 (by decide) ?_
  refine x_iloadn dR_packOne_2 rfl ?_
  refine x_imul dR_packOne_3 ?_
  refine x_istore dR_packOne_4 (by decide) ?_
  refine x_iconst dR_packOne_6 ?_
  refine x_istore dR_packOne_7 (by decide) ?_
  exact x_mask [true, true, false, true, true, true, false, false, false, false] (wR_packOne_9 X FU _ _ _ _ _ hf)
theorem kR_packOne {l : Launch} (hl : l.stackTraces = false) {x1 : Int} {x2 : Int} {x3 : Int} {M : Mm} (v0 : Int) (M9 : Mm) (hf : fR_packOne x1 x2 x3 M = some (v0, M9)) : Ct l yR_packOne (rmn 1 26) TR mvR false (some .int) [.inr 0, .inl x1, .inl x2, .inl x3] M (0, v0, M9) := ct_of hl (by decide) iR_packOne.1 (Nat.le_of_ble_eq_true rfl) (fun X => wR_packOne X hf)
def fR_pack_4 : Nat → Int → Int → Int → Mm → Option (Int × Mm)
  | 0, _, _, _, _ => none
  | n+1, y1, y2, y3, M =>
    mrd M 4 16 y1 fun v1 =>
    mlt y3 v1
      (mlt 11 y2
        (some (y2, M))
        (mcn (fR_packOne y1 y2 y3 M) fun v3 M2 =>
        mwr M2 12 12 y2 v3 fun M4 =>
        (fR_pack_4 n) y1 (y2 + 1) v3 M4))
      (some (y2, M))
def fR_pack (x1 : Int) (M : Mm) : Option (Int × Mm) :=
  fR_pack_4 FU x1 0 0 M
set_option maxRecDepth 10000 in
theorem wR_pack_4 {v0 : Int} {M9 : Mm} (X : Cy p l e (rmn 2 55) s m args below meth c D aK TR mvR false a0 "PackedImageModel" cR_pack 4 (some .int) (0, v0, M9)) : ∀ (n : Nat) (y1 : Int) (y2 : Int) (y3 : Int) (M : Mm), fR_pack_4 n y1 y2 y3 M = some (v0, M9) → Wm X 4 [some (.inr 0), some (.inl y1), some (.inl y2), some (.inl y3)] [] M := by
  intro n
  induction n with
  | zero => intro y1 y2 y3 M hf; exact nomatch (show (none : Option (Int × Mm)) = _ from hf)
  | succ n ih =>
    intro y1 y2 y3 M hf
    rw [fR_pack_4] at hf
    refine x_iloadn dR_pack_4 rfl ?_
    refine x_aloadn dR_pack_5 rfl ?_
    refine x_getR gR_23 tR_0 rfl dR_pack_6 ?_
    refine x_iloadn dR_pack_9 rfl ?_
    refine x_iald hf tR_4 (by decide) dR_pack_10 (fun v1 hf => ?_)
    refine x_ge hf dR_pack_11 rfl (fun hf => ?_) (fun hf => ?_)
    · refine x_iloadn dR_pack_41 rfl ?_
      exact x_iret (rt_n hf) rfl dR_pack_42
    · refine x_iloadn dR_pack_14 rfl ?_
      refine x_bipush dR_pack_15 (by decide) ?_
      refine x_gt hf dR_pack_17 rfl (fun hf => ?_) (fun hf => ?_)
      · refine x_iloadn dR_pack_41 rfl ?_
        exact x_iret (rt_n hf) rfl dR_pack_42
      · refine x_aloadn dR_pack_20 rfl ?_
        refine x_iloadn dR_pack_21 rfl ?_
        refine x_iloadn dR_pack_22 rfl ?_
        refine x_iloadn dR_pack_23 rfl ?_
        refine x_cvni hf (kR_packOne X.hst) iR_packOne lR_97 tR_0 rfl rfl (by decide) (Nat.le_of_ble_eq_true rfl) dR_pack_24 (fun v3 M2 hf => ?_)
        refine x_istoren dR_pack_27 (by decide) ?_
        refine x_aloadn dR_pack_28 rfl ?_
        refine x_getR gR_48 tR_0 rfl dR_pack_29 ?_
        refine x_iloadn dR_pack_32 rfl ?_
        refine x_iloadn dR_pack_33 rfl ?_
        refine x_iast hf tR_12 (by decide) dR_pack_34 (fun M4 hf => ?_)
        refine x_iinc dR_pack_35 rfl (by decide) ?_
        refine x_goto (tgt := 4) dR_pack_38 rfl ?_
        exact x_mask [true, true, true, true] (ih _ _ _ _ hf)
set_option maxRecDepth 10000 in
theorem wR_pack {v0 : Int} {M9 : Mm} (X : Cy p l e (rmn 2 55) s m args below meth c D aK TR mvR false a0 "PackedImageModel" cR_pack 4 (some .int) (0, v0, M9)) {x1 : Int} {M : Mm} (hf : fR_pack x1 M = some (v0, M9)) : Wm X 0 [some (.inr 0), some (.inl x1), none, none] [] M := by
  unfold fR_pack at hf
  refine x_iconst dR_pack_0 ?_
  refine x_istoren dR_pack_1 (by decide) ?_
  refine x_iconst dR_pack_2 ?_
  refine x_istoren dR_pack_3 (by decide) ?_
  exact x_mask [true, true, true, true] (wR_pack_4 X FU _ _ _ _ hf)
theorem kR_pack {l : Launch} (hl : l.stackTraces = false) {x1 : Int} {M : Mm} (v0 : Int) (M9 : Mm) (hf : fR_pack x1 M = some (v0, M9)) : Ct l yR_pack (rmn 2 55) TR mvR false (some .int) [.inr 0, .inl x1] M (0, v0, M9) := ct_of hl (by decide) iR_pack.1 (Nat.le_of_ble_eq_true rfl) (fun X => wR_pack X hf)
def fR_blocksFor (x0 : Int) (M : Mm) : Option (Int × Mm) :=
  mdiv ((x0 + 16) - 1) 16 fun v1 =>
  some (v1, M)
set_option maxRecDepth 10000 in
theorem wR_blocksFor {v0 : Int} {M9 : Mm} (X : Cy p l e (rmn 0 0) s m args below meth c D aK TR mvR false a0 "PackedImageModel" cR_blocksFor 1 (some .int) (0, v0, M9)) {x0 : Int} {M : Mm} (hf : fR_blocksFor x0 M = some (v0, M9)) : Wm X 0 [some (.inl x0)] [] M := by
  unfold fR_blocksFor at hf
  refine x_iloadn dR_blocksFor_0 rfl ?_
  refine x_bipush dR_blocksFor_1 (by decide) ?_
  refine x_iadd dR_blocksFor_3 ?_
  refine x_iconst dR_blocksFor_4 ?_
  refine x_isub dR_blocksFor_5 ?_
  refine x_bipush dR_blocksFor_6 (by decide) ?_
  refine x_idiv hf dR_blocksFor_8 (fun v1 hf => ?_)
  exact x_iret (rt_n hf) rfl dR_blocksFor_9
theorem kR_blocksFor {l : Launch} (hl : l.stackTraces = false) {x0 : Int} {M : Mm} (v0 : Int) (M9 : Mm) (hf : fR_blocksFor x0 M = some (v0, M9)) : Ct l yR_blocksFor (rmn 0 0) TR mvR false (some .int) [.inl x0] M (0, v0, M9) := ct_of hl (by decide) iR_blocksFor.1 (Nat.le_of_ble_eq_true rfl) (fun X => wR_blocksFor X hf)
def fR_choose_86 (y1 y2 y5 : Int) (M : Mm) : Option (Int × Mm) :=
  mrem y2 2 fun v7 =>
  meq v7 1
    (mlt 0 y5
      (mlt 12 y5
        (some (0, M))
        (mwr M 7 16 y1 1 fun M8 =>
        mlt 4 y5
          (mwz M8 8 16 y1 1 fun M10 =>
          some (0, M10))
          (mwz M8 8 16 y1 0 fun M9 =>
          some (0, M9))))
      (some (0, M)))
    (some (0, M))
def fR_choose_45 (y1 y2 y3 z0 : Int) (M : Mm) : Option (Int × Mm) :=
  mrem y3 16 fun v6 =>
  mlt 11 z0
    (fR_choose_86 y1 y2 v6 M)
    (mcn (fR_blocksFor y3 M) fun v12 M11 =>
    mlt z0 v12
      (mwr M11 7 16 y1 2 fun M13 =>
      mwz M13 8 16 y1 1 fun M14 =>
      some (0, M14))
      (fR_choose_86 y1 y2 v6 M11))
def fR_choose_43 (y1 y2 y3 : Int) (M : Mm) : Option (Int × Mm) :=
  fR_choose_45 y1 y2 y3 99 M
def fR_choose (x1 : Int) (x2 : Int) (M : Mm) : Option (Int × Mm) :=
  mcn (fR_sizeOf x1 M) fun v2 M1 =>
  mwr M1 7 16 x1 0 fun M3 =>
  mwz M3 8 16 x1 0 fun M4 =>
  mrd M4 1 16 x1 fun v5 =>
  meq v5 1
    (mlt x2 4
      (fR_choose_43 x1 x2 v2 M4)
      (mcn (fR_pack x1 M4) fun v16 M15 =>
      fR_choose_45 x1 x2 v2 v16 M15))
    (fR_choose_43 x1 x2 v2 M4)
set_option maxRecDepth 10000 in
theorem wR_choose_86 {v0 : Int} {M9 : Mm} (X : Cy p l e (rmn 3 78) s m args below meth c D aK TR mvR false a0 "PackedImageModel" cR_choose 6 none (0, v0, M9)) : ∀ (y1 : Int) (y2 : Int) (y5 : Int) (M : Mm), fR_choose_86 y1 y2 y5 M = some (v0, M9) → Wm X 86 [some (.inr 0), some (.inl y1), some (.inl y2), none, none, some (.inl y5)] [] M := by
  intro y1 y2 y5 M hf
  unfold fR_choose_86 at hf
  refine x_iloadn dR_choose_86 rfl ?_
  refine x_iconst dR_choose_87 ?_
  refine x_irem hf dR_choose_88 (fun v7 hf => ?_)
  refine x_iconst dR_choose_89 ?_
  refine x_ne hf dR_choose_90 rfl (fun hf => ?_) (fun hf => ?_)
  · exact x_vret ⟨_, rt_n hf⟩ rfl dR_choose_129
  · refine x_iload dR_choose_93 rfl ?_
    refine x_le0 hf dR_choose_95 rfl (fun hf => ?_) (fun hf => ?_)
    · exact x_vret ⟨_, rt_n hf⟩ rfl dR_choose_129
    · refine x_iload dR_choose_98 rfl ?_
      refine x_bipush dR_choose_100 (by decide) ?_
      refine x_gt hf dR_choose_102 rfl (fun hf => ?_) (fun hf => ?_)
      · exact x_vret ⟨_, rt_n hf⟩ rfl dR_choose_129
      · refine x_aloadn dR_choose_105 rfl ?_
        refine x_getR gR_32 tR_0 rfl dR_choose_106 ?_
        refine x_iloadn dR_choose_109 rfl ?_
        refine x_iconst dR_choose_110 ?_
        refine x_iast hf tR_7 (by decide) dR_choose_111 (fun M8 hf => ?_)
        refine x_aloadn dR_choose_112 rfl ?_
        refine x_getR gR_35 tR_0 rfl dR_choose_113 ?_
        refine x_iloadn dR_choose_116 rfl ?_
        refine x_iload dR_choose_117 rfl ?_
        refine x_iconst dR_choose_119 ?_
        refine x_le hf dR_choose_120 rfl (fun hf => ?_) (fun hf => ?_)
        · refine x_iconst dR_choose_127 ?_
          refine x_zast hf tR_8 (by decide) dR_choose_128 (fun M9 hf => ?_)
          exact x_vret ⟨_, rt_n hf⟩ rfl dR_choose_129
        · refine x_iconst dR_choose_123 ?_
          refine x_goto (tgt := 128) dR_choose_124 rfl ?_
          refine x_zast hf tR_8 (by decide) dR_choose_128 (fun M10 hf => ?_)
          exact x_vret ⟨_, rt_n hf⟩ rfl dR_choose_129
set_option maxRecDepth 10000 in
theorem wR_choose_45 {v0 : Int} {M9 : Mm} (X : Cy p l e (rmn 3 78) s m args below meth c D aK TR mvR false a0 "PackedImageModel" cR_choose 6 none (0, v0, M9)) : ∀ (y1 : Int) (y2 : Int) (y3 : Int) (z0 : Int) (M : Mm), fR_choose_45 y1 y2 y3 z0 M = some (v0, M9) → Wm X 45 [some (.inr 0), some (.inl y1), some (.inl y2), some (.inl y3), none, none] [.inl z0] M := by
  intro y1 y2 y3 z0 M hf
  unfold fR_choose_45 at hf
  refine x_istore dR_choose_45 (by decide) ?_
  refine x_iloadn dR_choose_47 rfl ?_
  refine x_bipush dR_choose_48 (by decide) ?_
  refine x_irem hf dR_choose_50 (fun v6 hf => ?_)
  refine x_istore dR_choose_51 (by decide) ?_
  refine x_iload dR_choose_53 rfl ?_
  refine x_bipush dR_choose_55 (by decide) ?_
  refine x_gt hf dR_choose_57 rfl (fun hf => ?_) (fun hf => ?_)
  · exact x_mask [true, true, true, false, false, true] (wR_choose_86 X _ _ _ _ hf)
  · refine x_iload dR_choose_60 rfl ?_
    refine x_iloadn dR_choose_62 rfl ?_
    refine x_csni hf (kR_blocksFor X.hst) iR_blocksFor lR_107 rfl (by decide) (Nat.le_of_ble_eq_true rfl) dR_choose_63 (fun v12 M11 hf => ?_)
    refine x_ge hf dR_choose_66 rfl (fun hf => ?_) (fun hf => ?_)
    · exact x_mask [true, true, true, false, false, true] (wR_choose_86 X _ _ _ _ hf)
    · refine x_aloadn dR_choose_69 rfl ?_
      refine x_getR gR_32 tR_0 rfl dR_choose_70 ?_
      refine x_iloadn dR_choose_73 rfl ?_
      refine x_iconst dR_choose_74 ?_
      refine x_iast hf tR_7 (by decide) dR_choose_75 (fun M13 hf => ?_)
      refine x_aloadn dR_choose_76 rfl ?_
      refine x_getR gR_35 tR_0 rfl dR_choose_77 ?_
      refine x_iloadn dR_choose_80 rfl ?_
      refine x_iconst dR_choose_81 ?_
      refine x_zast hf tR_8 (by decide) dR_choose_82 (fun M14 hf => ?_)
      refine x_goto (tgt := 129) dR_choose_83 rfl ?_
      exact x_vret ⟨_, rt_n hf⟩ rfl dR_choose_129
set_option maxRecDepth 10000 in
theorem wR_choose_43 {v0 : Int} {M9 : Mm} (X : Cy p l e (rmn 3 78) s m args below meth c D aK TR mvR false a0 "PackedImageModel" cR_choose 6 none (0, v0, M9)) : ∀ (y1 : Int) (y2 : Int) (y3 : Int) (M : Mm), fR_choose_43 y1 y2 y3 M = some (v0, M9) → Wm X 43 [some (.inr 0), some (.inl y1), some (.inl y2), some (.inl y3), none, none] [] M := by
  intro y1 y2 y3 M hf
  unfold fR_choose_43 at hf
  refine x_bipush dR_choose_43 (by decide) ?_
  exact x_mask [true, true, true, true, false, false] (wR_choose_45 X _ _ _ _ _ hf)
set_option maxRecDepth 10000 in
theorem wR_choose {v0 : Int} {M9 : Mm} (X : Cy p l e (rmn 3 78) s m args below meth c D aK TR mvR false a0 "PackedImageModel" cR_choose 6 none (0, v0, M9)) {x1 : Int} {x2 : Int} {M : Mm} (hf : fR_choose x1 x2 M = some (v0, M9)) : Wm X 0 [some (.inr 0), some (.inl x1), some (.inl x2), none, none, none] [] M := by
  unfold fR_choose at hf
  refine x_aloadn dR_choose_0 rfl ?_
  refine x_iloadn dR_choose_1 rfl ?_
  refine x_cvni hf (kR_sizeOf X.hst) iR_sizeOf lR_100 tR_0 rfl rfl (by decide) (Nat.le_of_ble_eq_true rfl) dR_choose_2 (fun v2 M1 hf => ?_)
  refine x_istoren dR_choose_5 (by decide) ?_
  refine x_aloadn dR_choose_6 rfl ?_
  refine x_getR gR_32 tR_0 rfl dR_choose_7 ?_
  refine x_iloadn dR_choose_10 rfl ?_
  refine x_iconst dR_choose_11 ?_
  refine x_iast hf tR_7 (by decide) dR_choose_12 (fun M3 hf => ?_)
  refine x_aloadn dR_choose_13 rfl ?_
  refine x_getR gR_35 tR_0 rfl dR_choose_14 ?_
  refine x_iloadn dR_choose_17 rfl ?_
  refine x_iconst dR_choose_18 ?_
  refine x_zast hf tR_8 (by decide) dR_choose_19 (fun M4 hf => ?_)
  refine x_aloadn dR_choose_20 rfl ?_
  refine x_getR gR_13 tR_0 rfl dR_choose_21 ?_
  refine x_iloadn dR_choose_24 rfl ?_
  refine x_iald hf tR_1 (by decide) dR_choose_25 (fun v5 hf => ?_)
  refine x_iconst dR_choose_26 ?_
  refine x_ne hf dR_choose_27 rfl (fun hf => ?_) (fun hf => ?_)
  · exact x_mask [true, true, true, true, false, false] (wR_choose_43 X _ _ _ _ hf)
  · refine x_iloadn dR_choose_30 rfl ?_
    refine x_iconst dR_choose_31 ?_
    refine x_lt hf dR_choose_32 rfl (fun hf => ?_) (fun hf => ?_)
    · exact x_mask [true, true, true, true, false, false] (wR_choose_43 X _ _ _ _ hf)
    · refine x_aloadn dR_choose_35 rfl ?_
      refine x_iloadn dR_choose_36 rfl ?_
      refine x_cvni hf (kR_pack X.hst) iR_pack lR_104 tR_0 rfl rfl (by decide) (Nat.le_of_ble_eq_true rfl) dR_choose_37 (fun v16 M15 hf => ?_)
      refine x_goto (tgt := 45) dR_choose_40 rfl ?_
      exact x_mask [true, true, true, true, false, false] (wR_choose_45 X _ _ _ _ _ hf)
theorem kR_choose {l : Launch} (hl : l.stackTraces = false) {x1 : Int} {x2 : Int} {M : Mm} (v0 : Int) (M9 : Mm) (hf : fR_choose x1 x2 M = some (v0, M9)) : Ct l yR_choose (rmn 3 78) TR mvR false none [.inr 0, .inl x1, .inl x2] M (0, v0, M9) := ct_of hl (by decide) iR_choose.1 (Nat.le_of_ble_eq_true rfl) (fun X => wR_choose X hf)
def fR_isThere_5 : Nat → Int → Int → Int → Int → Mm → Option (Int × Mm)
  | 0, _, _, _, _, _ => none
  | n+1, y1, y2, y3, y4, M =>
    mlt y4 (16 * y2)
      (meq y3 0
        ((fR_isThere_5 n) y1 y2 0 (y4 + 1) M)
        (mrd M 9 1024 ((16 * y1) + y4) fun v1 =>
        mrd M 10 192 y4 fun v2 =>
        meq v1 v2
          ((fR_isThere_5 n) y1 y2 1 (y4 + 1) M)
          ((fR_isThere_5 n) y1 y2 0 (y4 + 1) M)))
      (mz y3 (some (y3, M)))
def fR_isThere (x1 : Int) (x2 : Int) (M : Mm) : Option (Int × Mm) :=
  fR_isThere_5 FU x1 x2 1 0 M
set_option maxRecDepth 10000 in
theorem wR_isThere_5 {v0 : Int} {M9 : Mm} (X : Cy p l e (rmn 0 0) s m args below meth c D aK TR mvR false a0 "PackedImageModel" cR_isThere 5 (some .boolean) (0, v0, M9)) : ∀ (n : Nat) (y1 : Int) (y2 : Int) (y3 : Int) (y4 : Int) (M : Mm), fR_isThere_5 n y1 y2 y3 y4 M = some (v0, M9) → Wm X 5 [some (.inr 0), some (.inl y1), some (.inl y2), some (.inl y3), some (.inl y4)] [] M := by
  intro n
  induction n with
  | zero => intro y1 y2 y3 y4 M hf; exact nomatch (show (none : Option (Int × Mm)) = _ from hf)
  | succ n ih =>
    intro y1 y2 y3 y4 M hf
    rw [fR_isThere_5] at hf
    refine x_iload dR_isThere_5 rfl ?_
    refine x_bipush dR_isThere_7 (by decide) ?_
    refine x_iloadn dR_isThere_9 rfl ?_
    refine x_imul dR_isThere_10 ?_
    refine x_ge hf dR_isThere_11 rfl (fun hf => ?_) (fun hf => ?_)
    · refine x_iloadn dR_isThere_52 rfl ?_
      obtain ⟨hz, hf⟩ := mif_of hf
      exact x_zret (rt_n hf) hz rfl dR_isThere_53
    · refine x_iloadn dR_isThere_14 rfl ?_
      refine x_eq0 hf dR_isThere_15 rfl (fun hf => ?_) (fun hf => ?_)
      · refine x_iconst dR_isThere_44 ?_
        refine x_istoren dR_isThere_45 (by decide) ?_
        refine x_iinc dR_isThere_46 rfl (by decide) ?_
        refine x_goto (tgt := 5) dR_isThere_49 rfl ?_
        exact x_mask [true, true, true, true, true] (ih _ _ _ _ _ hf)
      · refine x_aloadn dR_isThere_18 rfl ?_
        refine x_getR gR_39 tR_0 rfl dR_isThere_19 ?_
        refine x_bipush dR_isThere_22 (by decide) ?_
        refine x_iloadn dR_isThere_24 rfl ?_
        refine x_imul dR_isThere_25 ?_
        refine x_iload dR_isThere_26 rfl ?_
        refine x_iadd dR_isThere_28 ?_
        refine x_iald hf tR_9 (by decide) dR_isThere_29 (fun v1 hf => ?_)
        refine x_aloadn dR_isThere_30 rfl ?_
        refine x_getR gR_42 tR_0 rfl dR_isThere_31 ?_
        refine x_iload dR_isThere_34 rfl ?_
        refine x_iald hf tR_10 (by decide) dR_isThere_36 (fun v2 hf => ?_)
        refine x_ne hf dR_isThere_37 rfl (fun hf => ?_) (fun hf => ?_)
        · refine x_iconst dR_isThere_44 ?_
          refine x_istoren dR_isThere_45 (by decide) ?_
          refine x_iinc dR_isThere_46 rfl (by decide) ?_
          refine x_goto (tgt := 5) dR_isThere_49 rfl ?_
          exact x_mask [true, true, true, true, true] (ih _ _ _ _ _ hf)
        · refine x_iconst dR_isThere_40 ?_
          refine x_goto (tgt := 45) dR_isThere_41 rfl ?_
          refine x_istoren dR_isThere_45 (by decide) ?_
          refine x_iinc dR_isThere_46 rfl (by decide) ?_
          refine x_goto (tgt := 5) dR_isThere_49 rfl ?_
          exact x_mask [true, true, true, true, true] (ih _ _ _ _ _ hf)
set_option maxRecDepth 10000 in
theorem wR_isThere {v0 : Int} {M9 : Mm} (X : Cy p l e (rmn 0 0) s m args below meth c D aK TR mvR false a0 "PackedImageModel" cR_isThere 5 (some .boolean) (0, v0, M9)) {x1 : Int} {x2 : Int} {M : Mm} (hf : fR_isThere x1 x2 M = some (v0, M9)) : Wm X 0 [some (.inr 0), some (.inl x1), some (.inl x2), none, none] [] M := by
  unfold fR_isThere at hf
  refine x_iconst dR_isThere_0 ?_
  refine x_istoren dR_isThere_1 (by decide) ?_
  refine x_iconst dR_isThere_2 ?_
  refine x_istore dR_isThere_3 (by decide) ?_
  exact x_mask [true, true, true, true, true] (wR_isThere_5 X FU _ _ _ _ _ hf)
theorem kR_isThere {l : Launch} (hl : l.stackTraces = false) {x1 : Int} {x2 : Int} {M : Mm} (v0 : Int) (M9 : Mm) (hf : fR_isThere x1 x2 M = some (v0, M9)) : Ct l yR_isThere (rmn 0 0) TR mvR false (some .boolean) [.inr 0, .inl x1, .inl x2] M (0, v0, M9) := ct_of hl (by decide) iR_isThere.1 (Nat.le_of_ble_eq_true rfl) (fun X => wR_isThere X hf)
end WK
